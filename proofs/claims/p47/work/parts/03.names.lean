/-! ===== BEGIN printed: names, fields, word lists, decode rows ===== -/
def RX0 : String := "LineBattle$CommandText"
def TX0 : u_T := fun k => match k with
  | 0 => ("LineBattle$CommandText", "signs", "[C", true)
  | 1 => ("LineBattle$CommandText", "length", "I", false)
  | 2 => ("LineBattle$CommandText", "position", "I", false)
  | 3 => ("LineBattle$CommandText", "initial", "C", false)
  | 4 => ("LineBattle$CommandText", "first", "I", false)
  | 5 => ("LineBattle$CommandText", "second", "I", false)
  | 6 => ("LineBattle$CommandText", "sign", "C", false)
  | _ => ("LineBattle$CommandText", "number", "I", false)
def tyX0 : Nat → FieldType := fun k => match k with
  | 0 => .array .char
  | 1 => .int
  | 2 => .int
  | 3 => .char
  | 4 => .int
  | 5 => .int
  | 6 => .char
  | _ => .int
theorem nmX0 : ∀ a, a < 8 → ∀ b, b < 8 → a ≠ b → (TX0 a).2.1 ≠ (TX0 b).2.1 := by decide +kernel
theorem tyX0_ok : ∀ k, k < 8 → parseFieldDescriptor (TX0 k).2.2.1 = some (tyX0 k) := by decide +kernel
abbrev cX0_init : ByteArray := prog_2_method_1_code
def yX0_init : MethodName := ⟨RX0, "<init>", "()V"⟩
abbrev cX0_append : ByteArray := prog_2_method_2_code
def yX0_append : MethodName := ⟨RX0, "append", "(C)Z"⟩
abbrev cX0_clear : ByteArray := prog_2_method_3_code
def yX0_clear : MethodName := ⟨RX0, "clear", "()V"⟩
abbrev cX0_rewind : ByteArray := prog_2_method_4_code
def yX0_rewind : MethodName := ⟨RX0, "rewind", "()V"⟩
abbrev cX0_countCommands : ByteArray := prog_2_method_5_code
def yX0_countCommands : MethodName := ⟨RX0, "countCommands", "()I"⟩
abbrev cX0_readNext : ByteArray := prog_2_method_6_code
def yX0_readNext : MethodName := ⟨RX0, "readNext", "()Z"⟩
abbrev cX0_readCommand : ByteArray := prog_2_method_7_code
def yX0_readCommand : MethodName := ⟨RX0, "readCommand", "()Z"⟩
abbrev cX0_readPlace : ByteArray := prog_2_method_8_code
def yX0_readPlace : MethodName := ⟨RX0, "readPlace", "()Z"⟩
abbrev cX0_readSign : ByteArray := prog_2_method_9_code
def yX0_readSign : MethodName := ⟨RX0, "readSign", "(Ljava/lang/String;)Z"⟩
abbrev cX0_readNumber : ByteArray := prog_2_method_10_code
def yX0_readNumber : MethodName := ⟨RX0, "readNumber", "()Z"⟩
abbrev cX0_takeWord : ByteArray := prog_2_method_11_code
def yX0_takeWord : MethodName := ⟨RX0, "takeWord", "(Ljava/lang/String;)Z"⟩
abbrev cX0_take : ByteArray := prog_2_method_12_code
def yX0_take : MethodName := ⟨RX0, "take", "(C)Z"⟩
abbrev cX0_takeDigit : ByteArray := prog_2_method_13_code
def yX0_takeDigit : MethodName := ⟨RX0, "takeDigit", "()I"⟩
abbrev cX0_peek : ByteArray := prog_2_method_14_code
def yX0_peek : MethodName := ⟨RX0, "peek", "()C"⟩
def RX1 : String := "LineBattle$Field"
def TX1 : u_T := fun k => match k with
  | 0 => ("LineBattle$Field", "lines", "[LLineBattle$Line;", true)
  | 1 => ("LineBattle$Field", "cells", "[I", true)
  | 2 => ("LineBattle$Field", "count", "I", false)
  | 3 => ("LineBattle$Field", "turns", "I", false)
  | 4 => ("LineBattle$Field", "fights", "I", false)
  | 5 => ("LineBattle$Field", "jarsOfFirst", "I", false)
  | _ => ("LineBattle$Field", "jarsOfSecond", "I", false)
def tyX1 : Nat → FieldType := fun k => match k with
  | 0 => .array (.object "LineBattle$Line")
  | 1 => .array .int
  | 2 => .int
  | 3 => .int
  | 4 => .int
  | 5 => .int
  | _ => .int
theorem nmX1 : ∀ a, a < 7 → ∀ b, b < 7 → a ≠ b → (TX1 a).2.1 ≠ (TX1 b).2.1 := by decide +kernel
theorem tyX1_ok : ∀ k, k < 7 → parseFieldDescriptor (TX1 k).2.2.1 = some (tyX1 k) := by decide +kernel
abbrev cX1_init : ByteArray := prog_3_method_1_code
def yX1_init : MethodName := ⟨RX1, "<init>", "()V"⟩
abbrev cX1_copyFrom : ByteArray := prog_3_method_2_code
def yX1_copyFrom : MethodName := ⟨RX1, "copyFrom", "(LLineBattle$Field;)V"⟩
abbrev cX1_line : ByteArray := prog_3_method_3_code
def yX1_line : MethodName := ⟨RX1, "line", "(I)LLineBattle$Line;"⟩
abbrev cX1_occupant : ByteArray := prog_3_method_4_code
def yX1_occupant : MethodName := ⟨RX1, "occupant", "(II)LLineBattle$Line;"⟩
abbrev cX1_putInto : ByteArray := prog_3_method_5_code
def yX1_putInto : MethodName := ⟨RX1, "putInto", "(III)V"⟩
abbrev cX1_jars : ByteArray := prog_3_method_6_code
def yX1_jars : MethodName := ⟨RX1, "jars", "(I)I"⟩
abbrev cX1_faultOfAdding : ByteArray := prog_3_method_7_code
def yX1_faultOfAdding : MethodName := ⟨RX1, "faultOfAdding", "(IICI)I"⟩
abbrev cX1_add : ByteArray := prog_3_method_8_code
def yX1_add : MethodName := ⟨RX1, "add", "(IICI)I"⟩
abbrev cX1_firstColumn : ByteArray := prog_3_method_9_code
def yX1_firstColumn : MethodName := ⟨RX1, "firstColumn", "(I)I"⟩
abbrev cX1_faultOfOrdering : ByteArray := prog_3_method_10_code
def yX1_faultOfOrdering : MethodName := ⟨RX1, "faultOfOrdering", "(IC)I"⟩
abbrev cX1_giveOrder : ByteArray := prog_3_method_11_code
def yX1_giveOrder : MethodName := ⟨RX1, "giveOrder", "(IC)C"⟩
abbrev cX1_faultOfRallying : ByteArray := prog_3_method_12_code
def yX1_faultOfRallying : MethodName := ⟨RX1, "faultOfRallying", "(I)I"⟩
abbrev cX1_useJar : ByteArray := prog_3_method_13_code
def yX1_useJar : MethodName := ⟨RX1, "useJar", "(I)I"⟩
abbrev cX1_passTurn : ByteArray := prog_3_method_14_code
def yX1_passTurn : MethodName := ⟨RX1, "passTurn", "()I"⟩
abbrev cX1_retreat : ByteArray := prog_3_method_15_code
def yX1_retreat : MethodName := ⟨RX1, "retreat", "(LLineBattle$Line;)V"⟩
abbrev cX1_obey : ByteArray := prog_3_method_16_code
def yX1_obey : MethodName := ⟨RX1, "obey", "(LLineBattle$Line;)V"⟩
abbrev cX1_moveIfFree : ByteArray := prog_3_method_17_code
def yX1_moveIfFree : MethodName := ⟨RX1, "moveIfFree", "(LLineBattle$Line;I)Z"⟩
abbrev cX1_fight : ByteArray := prog_3_method_18_code
def yX1_fight : MethodName := ⟨RX1, "fight", "(LLineBattle$Line;LLineBattle$Line;Z)V"⟩
abbrev cX1_settle : ByteArray := prog_3_method_19_code
def yX1_settle : MethodName := ⟨RX1, "settle", "(LLineBattle$Line;)V"⟩
abbrev cX1_supportInCells : ByteArray := prog_3_method_20_code
def yX1_supportInCells : MethodName := ⟨RX1, "supportInCells", "(LLineBattle$Line;)I"⟩
abbrev cX1_supportAmongLines : ByteArray := prog_3_method_21_code
def yX1_supportAmongLines : MethodName := ⟨RX1, "supportAmongLines", "(LLineBattle$Line;)I"⟩
abbrev cX1_enemyInCells : ByteArray := prog_3_method_22_code
def yX1_enemyInCells : MethodName := ⟨RX1, "enemyInCells", "(LLineBattle$Line;)I"⟩
abbrev cX1_enemyAmongLines : ByteArray := prog_3_method_23_code
def yX1_enemyAmongLines : MethodName := ⟨RX1, "enemyAmongLines", "(LLineBattle$Line;)I"⟩
abbrev cX1_strengthAmongLines : ByteArray := prog_3_method_24_code
def yX1_strengthAmongLines : MethodName := ⟨RX1, "strengthAmongLines", "(I)I"⟩
abbrev cX1_strengthInCells : ByteArray := prog_3_method_25_code
def yX1_strengthInCells : MethodName := ⟨RX1, "strengthInCells", "(I)I"⟩
abbrev cX1_fallen : ByteArray := prog_3_method_26_code
def yX1_fallen : MethodName := ⟨RX1, "fallen", "(I)I"⟩
abbrev cX1_front : ByteArray := prog_3_method_27_code
def yX1_front : MethodName := ⟨RX1, "front", "(II)I"⟩
abbrev cX1_lineOfRank : ByteArray := prog_3_method_28_code
def yX1_lineOfRank : MethodName := ⟨RX1, "lineOfRank", "(I)I"⟩
abbrev cX1_strongerThan : ByteArray := prog_3_method_29_code
def yX1_strongerThan : MethodName := ⟨RX1, "strongerThan", "(LLineBattle$Line;)I"⟩
abbrev cX1_unfallenCount : ByteArray := prog_3_method_30_code
def yX1_unfallenCount : MethodName := ⟨RX1, "unfallenCount", "()I"⟩
abbrev cX1_moraleSum : ByteArray := prog_3_method_31_code
def yX1_moraleSum : MethodName := ⟨RX1, "moraleSum", "()I"⟩
abbrev cX1_standingCount : ByteArray := prog_3_method_32_code
def yX1_standingCount : MethodName := ⟨RX1, "standingCount", "()I"⟩
abbrev cX1_agrees : ByteArray := prog_3_method_33_code
def yX1_agrees : MethodName := ⟨RX1, "agrees", "()Z"⟩
def RX2 : String := "LineBattle$History"
def TX2 : u_T := fun k => match k with
  | 0 => ("LineBattle$History", "states", "[LLineBattle$Field;", true)
  | 1 => ("LineBattle$History", "newest", "I", false)
  | _ => ("LineBattle$History", "depth", "I", false)
def tyX2 : Nat → FieldType := fun k => match k with
  | 0 => .array (.object "LineBattle$Field")
  | 1 => .int
  | _ => .int
theorem nmX2 : ∀ a, a < 3 → ∀ b, b < 3 → a ≠ b → (TX2 a).2.1 ≠ (TX2 b).2.1 := by decide +kernel
theorem tyX2_ok : ∀ k, k < 3 → parseFieldDescriptor (TX2 k).2.2.1 = some (tyX2 k) := by decide +kernel
abbrev cX2_init : ByteArray := prog_4_method_1_code
def yX2_init : MethodName := ⟨RX2, "<init>", "()V"⟩
abbrev cX2_keep : ByteArray := prog_4_method_2_code
def yX2_keep : MethodName := ⟨RX2, "keep", "(LLineBattle$Field;)V"⟩
abbrev cX2_takeBack : ByteArray := prog_4_method_3_code
def yX2_takeBack : MethodName := ⟨RX2, "takeBack", "(LLineBattle$Field;)Z"⟩
abbrev cX2_newestState : ByteArray := prog_4_method_5_code
def yX2_newestState : MethodName := ⟨RX2, "newestState", "()LLineBattle$Field;"⟩
def RX3 : String := "LineBattle$Line"
def TX3 : u_T := fun k => match k with
  | 0 => ("LineBattle$Line", "number", "I", true)
  | 1 => ("LineBattle$Line", "side", "I", false)
  | 2 => ("LineBattle$Line", "lane", "I", false)
  | 3 => ("LineBattle$Line", "column", "I", false)
  | 4 => ("LineBattle$Line", "kind", "C", false)
  | 5 => ("LineBattle$Line", "order", "C", false)
  | 6 => ("LineBattle$Line", "strength", "I", false)
  | 7 => ("LineBattle$Line", "morale", "I", false)
  | 8 => ("LineBattle$Line", "condition", "I", false)
  | _ => ("LineBattle$Line", "turnsRouted", "I", false)
def tyX3 : Nat → FieldType := fun k => match k with
  | 0 => .int
  | 1 => .int
  | 2 => .int
  | 3 => .int
  | 4 => .char
  | 5 => .char
  | 6 => .int
  | 7 => .int
  | 8 => .int
  | _ => .int
theorem nmX3 : ∀ a, a < 10 → ∀ b, b < 10 → a ≠ b → (TX3 a).2.1 ≠ (TX3 b).2.1 := by decide +kernel
theorem tyX3_ok : ∀ k, k < 10 → parseFieldDescriptor (TX3 k).2.2.1 = some (tyX3 k) := by decide +kernel
abbrev cX3_init : ByteArray := prog_5_method_1_code
def yX3_init : MethodName := ⟨RX3, "<init>", "(I)V"⟩
abbrev cX3_copyFrom : ByteArray := prog_5_method_2_code
def yX3_copyFrom : MethodName := ⟨RX3, "copyFrom", "(LLineBattle$Line;)V"⟩
abbrev cX3_stands : ByteArray := prog_5_method_3_code
def yX3_stands : MethodName := ⟨RX3, "stands", "()Z"⟩
abbrev cX3_routed : ByteArray := prog_5_method_4_code
def yX3_routed : MethodName := ⟨RX3, "routed", "()Z"⟩
abbrev cX3_hasFallen : ByteArray := prog_5_method_5_code
def yX3_hasFallen : MethodName := ⟨RX3, "hasFallen", "()Z"⟩
abbrev cX3_forward : ByteArray := prog_5_method_6_code
def yX3_forward : MethodName := ⟨RX3, "forward", "()I"⟩
abbrev cX3_attack : ByteArray := prog_5_method_7_code
def yX3_attack : MethodName := ⟨RX3, "attack", "(Z)I"⟩
abbrev cX3_counter : ByteArray := prog_5_method_8_code
def yX3_counter : MethodName := ⟨RX3, "counter", "()I"⟩
abbrev cX3_suffer : ByteArray := prog_5_method_9_code
def yX3_suffer : MethodName := ⟨RX3, "suffer", "(I)V"⟩
abbrev cX3_gainMorale : ByteArray := prog_5_method_10_code
def yX3_gainMorale : MethodName := ⟨RX3, "gainMorale", "(I)V"⟩
abbrev cX3_standIfBold : ByteArray := prog_5_method_11_code
def yX3_standIfBold : MethodName := ⟨RX3, "standIfBold", "()V"⟩
abbrev cX3_letter : ByteArray := prog_5_method_12_code
def yX3_letter : MethodName := ⟨RX3, "letter", "()C"⟩
def RX4 : String := "LineBattle"
def TX4 : u_T := fun k => match k with
  | 0 => ("LineBattle", "field", "LLineBattle$Field;", true)
  | 1 => ("LineBattle", "snapshot", "LLineBattle$Field;", true)
  | 2 => ("LineBattle", "scratch", "LLineBattle$Field;", true)
  | 3 => ("LineBattle", "history", "LLineBattle$History;", true)
  | 4 => ("LineBattle", "text", "LLineBattle$CommandText;", true)
  | 5 => ("LineBattle", "written", "[C", true)
  | 6 => ("LineBattle", "writtenLength", "I", false)
  | 7 => ("LineBattle", "hasSnapshot", "Z", false)
  | 8 => ("LineBattle", "lastErrorPosition", "I", false)
  | _ => ("LineBattle", "lastFailedCommand", "I", false)
def tyX4 : Nat → FieldType := fun k => match k with
  | 0 => .object "LineBattle$Field"
  | 1 => .object "LineBattle$Field"
  | 2 => .object "LineBattle$Field"
  | 3 => .object "LineBattle$History"
  | 4 => .object "LineBattle$CommandText"
  | 5 => .array .char
  | 6 => .int
  | 7 => .boolean
  | 8 => .int
  | _ => .int
theorem nmX4 : ∀ a, a < 10 → ∀ b, b < 10 → a ≠ b → (TX4 a).2.1 ≠ (TX4 b).2.1 := by decide +kernel
theorem tyX4_ok : ∀ k, k < 10 → parseFieldDescriptor (TX4 k).2.2.1 = some (tyX4 k) := by decide +kernel
abbrev cX4_init : ByteArray := prog_1_method_1_code
def yX4_init : MethodName := ⟨RX4, "<init>", "()V"⟩
abbrev cX4_addLine : ByteArray := prog_1_method_2_code
def yX4_addLine : MethodName := ⟨RX4, "addLine", "(IICI)I"⟩
abbrev cX4_setOrder : ByteArray := prog_1_method_3_code
def yX4_setOrder : MethodName := ⟨RX4, "setOrder", "(IC)C"⟩
abbrev cX4_rally : ByteArray := prog_1_method_4_code
def yX4_rally : MethodName := ⟨RX4, "rally", "(I)I"⟩
abbrev cX4_turn : ByteArray := prog_1_method_5_code
def yX4_turn : MethodName := ⟨RX4, "turn", "()I"⟩
abbrev cX4_lineCount : ByteArray := prog_1_method_6_code
def yX4_lineCount : MethodName := ⟨RX4, "lineCount", "()I"⟩
abbrev cX4_sideOf : ByteArray := prog_1_method_7_code
def yX4_sideOf : MethodName := ⟨RX4, "sideOf", "(I)I"⟩
abbrev cX4_laneOf : ByteArray := prog_1_method_8_code
def yX4_laneOf : MethodName := ⟨RX4, "laneOf", "(I)I"⟩
abbrev cX4_columnOf : ByteArray := prog_1_method_9_code
def yX4_columnOf : MethodName := ⟨RX4, "columnOf", "(I)I"⟩
abbrev cX4_kindOf : ByteArray := prog_1_method_10_code
def yX4_kindOf : MethodName := ⟨RX4, "kindOf", "(I)C"⟩
abbrev cX4_strengthOf : ByteArray := prog_1_method_11_code
def yX4_strengthOf : MethodName := ⟨RX4, "strengthOf", "(I)I"⟩
abbrev cX4_moraleOf : ByteArray := prog_1_method_12_code
def yX4_moraleOf : MethodName := ⟨RX4, "moraleOf", "(I)I"⟩
abbrev cX4_orderOf : ByteArray := prog_1_method_13_code
def yX4_orderOf : MethodName := ⟨RX4, "orderOf", "(I)C"⟩
abbrev cX4_isStanding : ByteArray := prog_1_method_14_code
def yX4_isStanding : MethodName := ⟨RX4, "isStanding", "(I)Z"⟩
abbrev cX4_isRouted : ByteArray := prog_1_method_15_code
def yX4_isRouted : MethodName := ⟨RX4, "isRouted", "(I)Z"⟩
abbrev cX4_routedTurns : ByteArray := prog_1_method_16_code
def yX4_routedTurns : MethodName := ⟨RX4, "routedTurns", "(I)I"⟩
abbrev cX4_lineIn : ByteArray := prog_1_method_17_code
def yX4_lineIn : MethodName := ⟨RX4, "lineIn", "(II)I"⟩
abbrev cX4_attackOf : ByteArray := prog_1_method_18_code
def yX4_attackOf : MethodName := ⟨RX4, "attackOf", "(I)I"⟩
abbrev cX4_counterOf : ByteArray := prog_1_method_19_code
def yX4_counterOf : MethodName := ⟨RX4, "counterOf", "(I)I"⟩
abbrev cX4_supportOf : ByteArray := prog_1_method_20_code
def yX4_supportOf : MethodName := ⟨RX4, "supportOf", "(I)I"⟩
abbrev cX4_supportByLines : ByteArray := prog_1_method_21_code
def yX4_supportByLines : MethodName := ⟨RX4, "supportByLines", "(I)I"⟩
abbrev cX4_enemyAhead : ByteArray := prog_1_method_22_code
def yX4_enemyAhead : MethodName := ⟨RX4, "enemyAhead", "(I)I"⟩
abbrev cX4_enemyByDistances : ByteArray := prog_1_method_23_code
def yX4_enemyByDistances : MethodName := ⟨RX4, "enemyByDistances", "(I)I"⟩
abbrev cX4_fightCount : ByteArray := prog_1_method_24_code
def yX4_fightCount : MethodName := ⟨RX4, "fightCount", "()I"⟩
abbrev cX4_jarsOf : ByteArray := prog_1_method_26_code
def yX4_jarsOf : MethodName := ⟨RX4, "jarsOf", "(I)I"⟩
abbrev cX4_strengthOfSide : ByteArray := prog_1_method_27_code
def yX4_strengthOfSide : MethodName := ⟨RX4, "strengthOfSide", "(I)I"⟩
abbrev cX4_strengthByCells : ByteArray := prog_1_method_28_code
def yX4_strengthByCells : MethodName := ⟨RX4, "strengthByCells", "(I)I"⟩
abbrev cX4_fallenOf : ByteArray := prog_1_method_29_code
def yX4_fallenOf : MethodName := ⟨RX4, "fallenOf", "(I)I"⟩
abbrev cX4_frontOf : ByteArray := prog_1_method_30_code
def yX4_frontOf : MethodName := ⟨RX4, "frontOf", "(II)I"⟩
abbrev cX4_leader : ByteArray := prog_1_method_31_code
def yX4_leader : MethodName := ⟨RX4, "leader", "()I"⟩
abbrev cX4_lineByStrength : ByteArray := prog_1_method_32_code
def yX4_lineByStrength : MethodName := ⟨RX4, "lineByStrength", "(I)I"⟩
abbrev cX4_turnCount : ByteArray := prog_1_method_33_code
def yX4_turnCount : MethodName := ⟨RX4, "turnCount", "()I"⟩
abbrev cX4_writeLane : ByteArray := prog_1_method_34_code
def yX4_writeLane : MethodName := ⟨RX4, "writeLane", "(I)I"⟩
abbrev cX4_writtenAt : ByteArray := prog_1_method_35_code
def yX4_writtenAt : MethodName := ⟨RX4, "writtenAt", "(I)C"⟩
abbrev cX4_meanMorale : ByteArray := prog_1_method_36_code
def yX4_meanMorale : MethodName := ⟨RX4, "meanMorale", "()D"⟩
abbrev cX4_standingShare : ByteArray := prog_1_method_37_code
def yX4_standingShare : MethodName := ⟨RX4, "standingShare", "()F"⟩
abbrev cX4_isConsistent : ByteArray := prog_1_method_38_code
def yX4_isConsistent : MethodName := ⟨RX4, "isConsistent", "()Z"⟩
abbrev cX4_type : ByteArray := prog_1_method_39_code
def yX4_type : MethodName := ⟨RX4, "type", "(C)I"⟩
abbrev cX4_execute : ByteArray := prog_1_method_40_code
def yX4_execute : MethodName := ⟨RX4, "execute", "()I"⟩
abbrev cX4_undo : ByteArray := prog_1_method_43_code
def yX4_undo : MethodName := ⟨RX4, "undo", "()I"⟩
abbrev cX4_isSide : ByteArray := prog_1_method_46_code
def yX4_isSide : MethodName := ⟨RX4, "isSide", "(I)Z"⟩
abbrev cX4_isLane : ByteArray := prog_1_method_47_code
def yX4_isLane : MethodName := ⟨RX4, "isLane", "(I)Z"⟩
abbrev cX4_isColumn : ByteArray := prog_1_method_48_code
def yX4_isColumn : MethodName := ⟨RX4, "isColumn", "(I)Z"⟩
abbrev cX4_requireSide : ByteArray := prog_1_method_49_code
def yX4_requireSide : MethodName := ⟨RX4, "requireSide", "(I)V"⟩
abbrev cX4_known : ByteArray := prog_1_method_50_code
def yX4_known : MethodName := ⟨RX4, "known", "(I)LLineBattle$Line;"⟩
abbrev cX4_unfallen : ByteArray := prog_1_method_51_code
def yX4_unfallen : MethodName := ⟨RX4, "unfallen", "(I)LLineBattle$Line;"⟩
abbrev cX4_write : ByteArray := prog_1_method_52_code
def yX4_write : MethodName := ⟨RX4, "write", "(C)V"⟩
abbrev cX4_perform : ByteArray := prog_1_method_53_code
def yX4_perform : MethodName := ⟨RX4, "perform", "()Z"⟩
def RX5 : String := "LineBattleModel"
def TX5 : u_T := fun k => match k with
  | _ => ("", "", "", false)
def tyX5 : Nat → FieldType := fun k => match k with
  | _ => .int
theorem nmX5 : ∀ a, a < 0 → ∀ b, b < 0 → a ≠ b → (TX5 a).2.1 ≠ (TX5 b).2.1 := by decide +kernel
theorem tyX5_ok : ∀ k, k < 0 → parseFieldDescriptor (TX5 k).2.2.1 = some (tyX5 k) := by decide +kernel
def RJx145de : String := "java/io/Serializable"
def TJx145de : u_T := fun k => match k with
  | _ => ("", "", "", false)
def tyJx145de : Nat → FieldType := fun k => match k with
  | _ => .int
theorem nmJx145de : ∀ a, a < 0 → ∀ b, b < 0 → a ≠ b → (TJx145de a).2.1 ≠ (TJx145de b).2.1 := by decide +kernel
theorem tyJx145de_ok : ∀ k, k < 0 → parseFieldDescriptor (TJx145de k).2.2.1 = some (tyJx145de k) := by decide +kernel
def RJ5 : String := "java/lang/AbstractStringBuilder"
def TJ5 : u_T := fun k => match k with
  | _ => ("", "", "", false)
def tyJ5 : Nat → FieldType := fun k => match k with
  | _ => .int
theorem nmJ5 : ∀ a, a < 0 → ∀ b, b < 0 → a ≠ b → (TJ5 a).2.1 ≠ (TJ5 b).2.1 := by decide +kernel
theorem tyJ5_ok : ∀ k, k < 0 → parseFieldDescriptor (TJ5 k).2.2.1 = some (tyJ5 k) := by decide +kernel
abbrev cJ5_init_d00df : ByteArray := prog_9_method_2_code
def yJ5_init_d00df : MethodName := ⟨RJ5, "<init>", "(I)V"⟩
abbrev cJ5_length_8abf5 : ByteArray := prog_9_method_6_code
def yJ5_length_8abf5 : MethodName := ⟨RJ5, "length", "()I"⟩
abbrev cJ5_ensureCapacityInternal_d00df : ByteArray := prog_9_method_9_code
def yJ5_ensureCapacityInternal_d00df : MethodName := ⟨RJ5, "ensureCapacityInternal", "(I)V"⟩
abbrev cJ5_newCapacity_0f7a4 : ByteArray := prog_9_method_10_code
def yJ5_newCapacity_0f7a4 : MethodName := ⟨RJ5, "newCapacity", "(I)I"⟩
abbrev cJ5_inflate_da8c8 : ByteArray := prog_9_method_11_code
def yJ5_inflate_da8c8 : MethodName := ⟨RJ5, "inflate", "()V"⟩
abbrev cJ5_append_cf1ce : ByteArray := prog_9_method_22_code
def yJ5_append_cf1ce : MethodName := ⟨RJ5, "append", "(Ljava/lang/String;)Ljava/lang/AbstractStringBuilder;"⟩
abbrev cJ5_appendNull_278bc : ByteArray := prog_9_method_26_code
def yJ5_appendNull_278bc : MethodName := ⟨RJ5, "appendNull", "()Ljava/lang/AbstractStringBuilder;"⟩
abbrev cJ5_append_3fe6f : ByteArray := prog_9_method_31_code
def yJ5_append_3fe6f : MethodName := ⟨RJ5, "append", "(C)Ljava/lang/AbstractStringBuilder;"⟩
abbrev cJ5_append_c97b9 : ByteArray := prog_9_method_32_code
def yJ5_append_c97b9 : MethodName := ⟨RJ5, "append", "(I)Ljava/lang/AbstractStringBuilder;"⟩
abbrev cJ5_getValue_6d5f1 : ByteArray := prog_9_method_64_code
def yJ5_getValue_6d5f1 : MethodName := ⟨RJ5, "getValue", "()[B"⟩
abbrev cJ5_isLatin1_aae02 : ByteArray := prog_9_method_68_code
def yJ5_isLatin1_aae02 : MethodName := ⟨RJ5, "isLatin1", "()Z"⟩
abbrev cJ5_inflateIfNeededFor_a7421 : ByteArray := prog_9_method_71_code
def yJ5_inflateIfNeededFor_a7421 : MethodName := ⟨RJ5, "inflateIfNeededFor", "(Ljava/lang/String;)V"⟩
abbrev cJ5_putStringAt_47b60 : ByteArray := prog_9_method_73_code
def yJ5_putStringAt_47b60 : MethodName := ⟨RJ5, "putStringAt", "(ILjava/lang/String;)V"⟩
def RJx2cfe8 : String := "java/lang/Appendable"
def TJx2cfe8 : u_T := fun k => match k with
  | _ => ("", "", "", false)
def tyJx2cfe8 : Nat → FieldType := fun k => match k with
  | _ => .int
theorem nmJx2cfe8 : ∀ a, a < 0 → ∀ b, b < 0 → a ≠ b → (TJx2cfe8 a).2.1 ≠ (TJx2cfe8 b).2.1 := by decide +kernel
theorem tyJx2cfe8_ok : ∀ k, k < 0 → parseFieldDescriptor (TJx2cfe8 k).2.2.1 = some (tyJx2cfe8 k) := by decide +kernel
def RJx00060 : String := "java/lang/ArrayIndexOutOfBoundsException"
def TJx00060 : u_T := fun k => match k with
  | 0 => ("java/lang/Throwable", "backtrace", "Ljava/lang/Object;", false)
  | 1 => ("java/lang/Throwable", "detailMessage", "Ljava/lang/String;", false)
  | 2 => ("java/lang/Throwable", "cause", "Ljava/lang/Throwable;", false)
  | 3 => ("java/lang/Throwable", "stackTrace", "[Ljava/lang/StackTraceElement;", false)
  | 4 => ("java/lang/Throwable", "depth", "I", false)
  | _ => ("java/lang/Throwable", "suppressedExceptions", "Ljava/util/List;", false)
def tyJx00060 : Nat → FieldType := fun k => match k with
  | 0 => .object "java/lang/Object"
  | 1 => .object "java/lang/String"
  | 2 => .object "java/lang/Throwable"
  | 3 => .array (.object "java/lang/StackTraceElement")
  | 4 => .int
  | _ => .object "java/util/List"
theorem nmJx00060 : ∀ a, a < 6 → ∀ b, b < 6 → a ≠ b → (TJx00060 a).2.1 ≠ (TJx00060 b).2.1 := by decide +kernel
theorem tyJx00060_ok : ∀ k, k < 6 → parseFieldDescriptor (TJx00060 k).2.2.1 = some (tyJx00060 k) := by decide +kernel
abbrev cJx00060_init_a7421 : ByteArray := prog_12_method_2_code
def yJx00060_init_a7421 : MethodName := ⟨RJx00060, "<init>", "(Ljava/lang/String;)V"⟩
def RJx9f9b0 : String := "java/lang/CharSequence"
def TJx9f9b0 : u_T := fun k => match k with
  | _ => ("", "", "", false)
def tyJx9f9b0 : Nat → FieldType := fun k => match k with
  | _ => .int
theorem nmJx9f9b0 : ∀ a, a < 0 → ∀ b, b < 0 → a ≠ b → (TJx9f9b0 a).2.1 ≠ (TJx9f9b0 b).2.1 := by decide +kernel
theorem tyJx9f9b0_ok : ∀ k, k < 0 → parseFieldDescriptor (TJx9f9b0 k).2.2.1 = some (tyJx9f9b0 k) := by decide +kernel
def RJ11 : String := "java/lang/Character"
def TJ11 : u_T := fun k => match k with
  | _ => ("", "", "", false)
def tyJ11 : Nat → FieldType := fun k => match k with
  | _ => .int
theorem nmJ11 : ∀ a, a < 0 → ∀ b, b < 0 → a ≠ b → (TJ11 a).2.1 ≠ (TJ11 b).2.1 := by decide +kernel
theorem tyJ11_ok : ∀ k, k < 0 → parseFieldDescriptor (TJ11 k).2.2.1 = some (tyJ11 k) := by decide +kernel
abbrev cJ11_isValidCodePoint_9a6ad : ByteArray := prog_14_method_11_code
def yJ11_isValidCodePoint_9a6ad : MethodName := ⟨RJ11, "isValidCodePoint", "(I)Z"⟩
abbrev cJ11_highSurrogate_5068e : ByteArray := prog_14_method_28_code
def yJ11_highSurrogate_5068e : MethodName := ⟨RJ11, "highSurrogate", "(I)C"⟩
abbrev cJ11_lowSurrogate_5068e : ByteArray := prog_14_method_29_code
def yJ11_lowSurrogate_5068e : MethodName := ⟨RJ11, "lowSurrogate", "(I)C"⟩
def RJx8e188 : String := "java/lang/Cloneable"
def TJx8e188 : u_T := fun k => match k with
  | _ => ("", "", "", false)
def tyJx8e188 : Nat → FieldType := fun k => match k with
  | _ => .int
theorem nmJx8e188 : ∀ a, a < 0 → ∀ b, b < 0 → a ≠ b → (TJx8e188 a).2.1 ≠ (TJx8e188 b).2.1 := by decide +kernel
theorem tyJx8e188_ok : ∀ k, k < 0 → parseFieldDescriptor (TJx8e188 k).2.2.1 = some (tyJx8e188 k) := by decide +kernel
def RJxb160c : String := "java/lang/Comparable"
def TJxb160c : u_T := fun k => match k with
  | _ => ("", "", "", false)
def tyJxb160c : Nat → FieldType := fun k => match k with
  | _ => .int
theorem nmJxb160c : ∀ a, a < 0 → ∀ b, b < 0 → a ≠ b → (TJxb160c a).2.1 ≠ (TJxb160c b).2.1 := by decide +kernel
theorem tyJxb160c_ok : ∀ k, k < 0 → parseFieldDescriptor (TJxb160c k).2.2.1 = some (tyJxb160c k) := by decide +kernel
def RJ6 : String := "java/lang/Integer"
def TJ6 : u_T := fun k => match k with
  | _ => ("", "", "", false)
def tyJ6 : Nat → FieldType := fun k => match k with
  | _ => .int
theorem nmJ6 : ∀ a, a < 0 → ∀ b, b < 0 → a ≠ b → (TJ6 a).2.1 ≠ (TJ6 b).2.1 := by decide +kernel
theorem tyJ6_ok : ∀ k, k < 0 → parseFieldDescriptor (TJ6 k).2.2.1 = some (tyJ6 k) := by decide +kernel
abbrev cJ6_getChars_ba4f3 : ByteArray := prog_21_method_12_code
def yJ6_getChars_ba4f3 : MethodName := ⟨RJ6, "getChars", "(II[B)I"⟩
abbrev cJ6_stringSize_0f7a4 : ByteArray := prog_21_method_13_code
def yJ6_stringSize_0f7a4 : MethodName := ⟨RJ6, "stringSize", "(I)I"⟩
def RJ9 : String := "java/lang/Math"
def TJ9 : u_T := fun k => match k with
  | _ => ("", "", "", false)
def tyJ9 : Nat → FieldType := fun k => match k with
  | _ => .int
theorem nmJ9 : ∀ a, a < 0 → ∀ b, b < 0 → a ≠ b → (TJ9 a).2.1 ≠ (TJ9 b).2.1 := by decide +kernel
theorem tyJ9_ok : ∀ k, k < 0 → parseFieldDescriptor (TJ9 k).2.2.1 = some (tyJ9 k) := by decide +kernel
abbrev cJ9_abs_0f7a4 : ByteArray := prog_22_method_59_code
def yJ9_abs_0f7a4 : MethodName := ⟨RJ9, "abs", "(I)I"⟩
abbrev cJ9_max_7cf53 : ByteArray := prog_22_method_65_code
def yJ9_max_7cf53 : MethodName := ⟨RJ9, "max", "(II)I"⟩
abbrev cJ9_min_7cf53 : ByteArray := prog_22_method_69_code
def yJ9_min_7cf53 : MethodName := ⟨RJ9, "min", "(II)I"⟩
def RJxd2413 : String := "java/lang/Number"
def TJxd2413 : u_T := fun k => match k with
  | _ => ("", "", "", false)
def tyJxd2413 : Nat → FieldType := fun k => match k with
  | _ => .int
theorem nmJxd2413 : ∀ a, a < 0 → ∀ b, b < 0 → a ≠ b → (TJxd2413 a).2.1 ≠ (TJxd2413 b).2.1 := by decide +kernel
theorem tyJxd2413_ok : ∀ k, k < 0 → parseFieldDescriptor (TJxd2413 k).2.2.1 = some (tyJxd2413 k) := by decide +kernel
def RJ0 : String := "java/lang/String"
def TJ0 : u_T := fun k => match k with
  | 0 => ("java/lang/String", "value", "[B", true)
  | 1 => ("java/lang/String", "coder", "B", true)
  | 2 => ("java/lang/String", "hash", "I", false)
  | _ => ("java/lang/String", "hashIsZero", "Z", false)
def tyJ0 : Nat → FieldType := fun k => match k with
  | 0 => .array .byte
  | 1 => .byte
  | 2 => .int
  | _ => .boolean
theorem nmJ0 : ∀ a, a < 4 → ∀ b, b < 4 → a ≠ b → (TJ0 a).2.1 ≠ (TJ0 b).2.1 := by decide +kernel
theorem tyJ0_ok : ∀ k, k < 4 → parseFieldDescriptor (TJ0 k).2.2.1 = some (tyJ0 k) := by decide +kernel
abbrev cJ0_init_81219 : ByteArray := prog_25_method_53_code
def yJ0_init_81219 : MethodName := ⟨RJ0, "<init>", "(Ljava/lang/StringBuilder;)V"⟩
abbrev cJ0_length_8abf5 : ByteArray := prog_25_method_54_code
def yJ0_length_8abf5 : MethodName := ⟨RJ0, "length", "()I"⟩
abbrev cJ0_charAt_5068e : ByteArray := prog_25_method_56_code
def yJ0_charAt_5068e : MethodName := ⟨RJ0, "charAt", "(I)C"⟩
abbrev cJ0_indexOf_0f7a4 : ByteArray := prog_25_method_79_code
def yJ0_indexOf_0f7a4 : MethodName := ⟨RJ0, "indexOf", "(I)I"⟩
abbrev cJ0_indexOf_7cf53 : ByteArray := prog_25_method_80_code
def yJ0_indexOf_7cf53 : MethodName := ⟨RJ0, "indexOf", "(II)I"⟩
abbrev cJ0_getBytes_840e7 : ByteArray := prog_25_method_147_code
def yJ0_getBytes_840e7 : MethodName := ⟨RJ0, "getBytes", "([BIB)V"⟩
abbrev cJ0_init_db425 : ByteArray := prog_25_method_150_code
def yJ0_init_db425 : MethodName := ⟨RJ0, "<init>", "(Ljava/lang/AbstractStringBuilder;Ljava/lang/Void;)V"⟩
abbrev cJ0_coder_7d493 : ByteArray := prog_25_method_152_code
def yJ0_coder_7d493 : MethodName := ⟨RJ0, "coder", "()B"⟩
abbrev cJ0_isLatin1_aae02 : ByteArray := prog_25_method_154_code
def yJ0_isLatin1_aae02 : MethodName := ⟨RJ0, "isLatin1", "()Z"⟩
abbrev cJ0_checkIndex_df160 : ByteArray := prog_25_method_155_code
def yJ0_checkIndex_df160 : MethodName := ⟨RJ0, "checkIndex", "(II)V"⟩
abbrev cJ0_checkBoundsOffCount_cabcc : ByteArray := prog_25_method_157_code
def yJ0_checkBoundsOffCount_cabcc : MethodName := ⟨RJ0, "checkBoundsOffCount", "(III)I"⟩
abbrev cJ0_checkBoundsBeginEnd_23922 : ByteArray := prog_25_method_158_code
def yJ0_checkBoundsBeginEnd_23922 : MethodName := ⟨RJ0, "checkBoundsBeginEnd", "(III)V"⟩
def RJ4 : String := "java/lang/StringBuilder"
def TJ4 : u_T := fun k => match k with
  | 0 => ("java/lang/AbstractStringBuilder", "value", "[B", false)
  | 1 => ("java/lang/AbstractStringBuilder", "coder", "B", false)
  | 2 => ("java/lang/AbstractStringBuilder", "maybeLatin1", "Z", false)
  | _ => ("java/lang/AbstractStringBuilder", "count", "I", false)
def tyJ4 : Nat → FieldType := fun k => match k with
  | 0 => .array .byte
  | 1 => .byte
  | 2 => .boolean
  | _ => .int
theorem nmJ4 : ∀ a, a < 4 → ∀ b, b < 4 → a ≠ b → (TJ4 a).2.1 ≠ (TJ4 b).2.1 := by decide +kernel
theorem tyJ4_ok : ∀ k, k < 4 → parseFieldDescriptor (TJ4 k).2.2.1 = some (tyJ4 k) := by decide +kernel
abbrev cJ4_init_da8c8 : ByteArray := prog_26_method_1_code
def yJ4_init_da8c8 : MethodName := ⟨RJ4, "<init>", "()V"⟩
abbrev cJ4_append_15ec4 : ByteArray := prog_26_method_7_code
def yJ4_append_15ec4 : MethodName := ⟨RJ4, "append", "(Ljava/lang/String;)Ljava/lang/StringBuilder;"⟩
abbrev cJ4_append_cf468 : ByteArray := prog_26_method_14_code
def yJ4_append_cf468 : MethodName := ⟨RJ4, "append", "(C)Ljava/lang/StringBuilder;"⟩
abbrev cJ4_append_bf812 : ByteArray := prog_26_method_15_code
def yJ4_append_bf812 : MethodName := ⟨RJ4, "append", "(I)Ljava/lang/StringBuilder;"⟩
abbrev cJ4_toString_0e30d : ByteArray := prog_26_method_42_code
def yJ4_toString_0e30d : MethodName := ⟨RJ4, "toString", "()Ljava/lang/String;"⟩
abbrev cJ4_length_8abf5 : ByteArray := prog_26_method_93_code
def yJ4_length_8abf5 : MethodName := ⟨RJ4, "length", "()I"⟩
def RJ1 : String := "java/lang/StringLatin1"
def TJ1 : u_T := fun k => match k with
  | _ => ("", "", "", false)
def tyJ1 : Nat → FieldType := fun k => match k with
  | _ => .int
theorem nmJ1 : ∀ a, a < 0 → ∀ b, b < 0 → a ≠ b → (TJ1 a).2.1 ≠ (TJ1 b).2.1 := by decide +kernel
theorem tyJ1_ok : ∀ k, k < 0 → parseFieldDescriptor (TJ1 k).2.2.1 = some (tyJ1 k) := by decide +kernel
abbrev cJ1_charAt_3b067 : ByteArray := prog_27_method_2_code
def yJ1_charAt_3b067 : MethodName := ⟨RJ1, "charAt", "([BI)C"⟩
abbrev cJ1_canEncode_fc78d : ByteArray := prog_27_method_3_code
def yJ1_canEncode_fc78d : MethodName := ⟨RJ1, "canEncode", "(C)Z"⟩
abbrev cJ1_canEncode_9a6ad : ByteArray := prog_27_method_4_code
def yJ1_canEncode_9a6ad : MethodName := ⟨RJ1, "canEncode", "(I)Z"⟩
abbrev cJ1_indexOf_4cfef : ByteArray := prog_27_method_22_code
def yJ1_indexOf_4cfef : MethodName := ⟨RJ1, "indexOf", "([BIII)I"⟩
abbrev cJ1_indexOfChar_4cfef : ByteArray := prog_27_method_23_code
def yJ1_indexOfChar_4cfef : MethodName := ⟨RJ1, "indexOfChar", "([BIII)I"⟩
abbrev cJ1_inflate_0e8fd : ByteArray := prog_27_method_50_code
def yJ1_inflate_0e8fd : MethodName := ⟨RJ1, "inflate", "([BI[BII)V"⟩
def RJ2 : String := "java/lang/StringUTF16"
def TJ2 : u_T := fun k => match k with
  | _ => ("", "", "", false)
def tyJ2 : Nat → FieldType := fun k => match k with
  | _ => .int
theorem nmJ2 : ∀ a, a < 0 → ∀ b, b < 0 → a ≠ b → (TJ2 a).2.1 ≠ (TJ2 b).2.1 := by decide +kernel
theorem tyJ2_ok : ∀ k, k < 0 → parseFieldDescriptor (TJ2 k).2.2.1 = some (tyJ2 k) := by decide +kernel
abbrev cJ2_newBytesFor_77867 : ByteArray := prog_28_method_2_code
def yJ2_newBytesFor_77867 : MethodName := ⟨RJ2, "newBytesFor", "(I)[B"⟩
abbrev cJ2_newBytesLength_0f7a4 : ByteArray := prog_28_method_3_code
def yJ2_newBytesLength_0f7a4 : MethodName := ⟨RJ2, "newBytesLength", "(I)I"⟩
abbrev cJ2_putChar_b72d1 : ByteArray := prog_28_method_4_code
def yJ2_putChar_b72d1 : MethodName := ⟨RJ2, "putChar", "([BII)V"⟩
abbrev cJ2_getChar_3b067 : ByteArray := prog_28_method_5_code
def yJ2_getChar_3b067 : MethodName := ⟨RJ2, "getChar", "([BI)C"⟩
abbrev cJ2_length_9d52b : ByteArray := prog_28_method_6_code
def yJ2_length_9d52b : MethodName := ⟨RJ2, "length", "([B)I"⟩
abbrev cJ2_coderFromArrayLen_85cad : ByteArray := prog_28_method_15_code
def yJ2_coderFromArrayLen_85cad : MethodName := ⟨RJ2, "coderFromArrayLen", "([BI)B"⟩
abbrev cJ2_compress_39247 : ByteArray := prog_28_method_17_code
def yJ2_compress_39247 : MethodName := ⟨RJ2, "compress", "([BII)[B"⟩
abbrev cJ2_compress_5af95 : ByteArray := prog_28_method_22_code
def yJ2_compress_5af95 : MethodName := ⟨RJ2, "compress", "([BI[BII)I"⟩
abbrev cJ2_indexOf_4cfef : ByteArray := prog_28_method_40_code
def yJ2_indexOf_4cfef : MethodName := ⟨RJ2, "indexOf", "([BIII)I"⟩
abbrev cJ2_indexOfChar_4cfef : ByteArray := prog_28_method_47_code
def yJ2_indexOfChar_4cfef : MethodName := ⟨RJ2, "indexOfChar", "([BIII)I"⟩
abbrev cJ2_indexOfCharUnsafe_4cfef : ByteArray := prog_28_method_48_code
def yJ2_indexOfCharUnsafe_4cfef : MethodName := ⟨RJ2, "indexOfCharUnsafe", "([BIII)I"⟩
abbrev cJ2_indexOfSupplementary_4cfef : ByteArray := prog_28_method_49_code
def yJ2_indexOfSupplementary_4cfef : MethodName := ⟨RJ2, "indexOfSupplementary", "([BIII)I"⟩
abbrev cJ2_putCharSB_b72d1 : ByteArray := prog_28_method_71_code
def yJ2_putCharSB_b72d1 : MethodName := ⟨RJ2, "putCharSB", "([BII)V"⟩
abbrev cJ2_getChars_46870 : ByteArray := prog_28_method_77_code
def yJ2_getChars_46870 : MethodName := ⟨RJ2, "getChars", "(III[B)I"⟩
abbrev cJ2_putCharsAt_cd4e5 : ByteArray := prog_28_method_81_code
def yJ2_putCharsAt_cd4e5 : MethodName := ⟨RJ2, "putCharsAt", "([BICCCC)I"⟩
abbrev cJ2_charAt_3b067 : ByteArray := prog_28_method_83_code
def yJ2_charAt_3b067 : MethodName := ⟨RJ2, "charAt", "([BI)C"⟩
abbrev cJ2_inflate_0e8fd : ByteArray := prog_28_method_86_code
def yJ2_inflate_0e8fd : MethodName := ⟨RJ2, "inflate", "([BI[BII)V"⟩
abbrev cJ2_getChars_ba4f3 : ByteArray := prog_28_method_89_code
def yJ2_getChars_ba4f3 : MethodName := ⟨RJ2, "getChars", "(II[B)I"⟩
abbrev cJ2_checkIndex_2214a : ByteArray := prog_28_method_91_code
def yJ2_checkIndex_2214a : MethodName := ⟨RJ2, "checkIndex", "(I[B)V"⟩
abbrev cJ2_checkBoundsBeginEnd_d044e : ByteArray := prog_28_method_93_code
def yJ2_checkBoundsBeginEnd_d044e : MethodName := ⟨RJ2, "checkBoundsBeginEnd", "(II[B)V"⟩
abbrev cJ2_checkBoundsOffCount_d044e : ByteArray := prog_28_method_94_code
def yJ2_checkBoundsOffCount_d044e : MethodName := ⟨RJ2, "checkBoundsOffCount", "(II[B)V"⟩
def RJ10 : String := "java/lang/System"
def TJ10 : u_T := fun k => match k with
  | _ => ("", "", "", false)
def tyJ10 : Nat → FieldType := fun k => match k with
  | _ => .int
theorem nmJ10 : ∀ a, a < 0 → ∀ b, b < 0 → a ≠ b → (TJ10 a).2.1 ≠ (TJ10 b).2.1 := by decide +kernel
theorem tyJ10_ok : ∀ k, k < 0 → parseFieldDescriptor (TJ10 k).2.2.1 = some (tyJ10 k) := by decide +kernel
def RJxfd54e : String := "java/lang/constant/Constable"
def TJxfd54e : u_T := fun k => match k with
  | _ => ("", "", "", false)
def tyJxfd54e : Nat → FieldType := fun k => match k with
  | _ => .int
theorem nmJxfd54e : ∀ a, a < 0 → ∀ b, b < 0 → a ≠ b → (TJxfd54e a).2.1 ≠ (TJxfd54e b).2.1 := by decide +kernel
theorem tyJxfd54e_ok : ∀ k, k < 0 → parseFieldDescriptor (TJxfd54e k).2.2.1 = some (tyJxfd54e k) := by decide +kernel
def RJx3cf43 : String := "java/lang/constant/ConstantDesc"
def TJx3cf43 : u_T := fun k => match k with
  | _ => ("", "", "", false)
def tyJx3cf43 : Nat → FieldType := fun k => match k with
  | _ => .int
theorem nmJx3cf43 : ∀ a, a < 0 → ∀ b, b < 0 → a ≠ b → (TJx3cf43 a).2.1 ≠ (TJx3cf43 b).2.1 := by decide +kernel
theorem tyJx3cf43_ok : ∀ k, k < 0 → parseFieldDescriptor (TJx3cf43 k).2.2.1 = some (tyJx3cf43 k) := by decide +kernel
def RJ7 : String := "java/util/Arrays"
def TJ7 : u_T := fun k => match k with
  | _ => ("", "", "", false)
def tyJ7 : Nat → FieldType := fun k => match k with
  | _ => .int
theorem nmJ7 : ∀ a, a < 0 → ∀ b, b < 0 → a ≠ b → (TJ7 a).2.1 ≠ (TJ7 b).2.1 := by decide +kernel
theorem tyJ7_ok : ∀ k, k < 0 → parseFieldDescriptor (TJ7 k).2.2.1 = some (tyJ7 k) := by decide +kernel
abbrev cJ7_fill_53178 : ByteArray := prog_34_method_103_code
def yJ7_fill_53178 : MethodName := ⟨RJ7, "fill", "([II)V"⟩
abbrev cJ7_copyOf_9075b : ByteArray := prog_34_method_121_code
def yJ7_copyOf_9075b : MethodName := ⟨RJ7, "copyOf", "([BI)[B"⟩
abbrev cJ7_checkLength_df160 : ByteArray := prog_34_method_131_code
def yJ7_checkLength_df160 : MethodName := ⟨RJ7, "checkLength", "(II)V"⟩
abbrev cJ7_copyOfRange_39247 : ByteArray := prog_34_method_132_code
def yJ7_copyOfRange_39247 : MethodName := ⟨RJ7, "copyOfRange", "([BII)[B"⟩
abbrev cJ7_copyOfRangeByte_39247 : ByteArray := prog_34_method_133_code
def yJ7_copyOfRangeByte_39247 : MethodName := ⟨RJ7, "copyOfRangeByte", "([BII)[B"⟩
def RJ8 : String := "jdk/internal/util/ArraysSupport"
def TJ8 : u_T := fun k => match k with
  | _ => ("", "", "", false)
def tyJ8 : Nat → FieldType := fun k => match k with
  | _ => .int
theorem nmJ8 : ∀ a, a < 0 → ∀ b, b < 0 → a ≠ b → (TJ8 a).2.1 ≠ (TJ8 b).2.1 := by decide +kernel
theorem tyJ8_ok : ∀ k, k < 0 → parseFieldDescriptor (TJ8 k).2.2.1 = some (tyJ8 k) := by decide +kernel
abbrev cJ8_newLength_cabcc : ByteArray := prog_36_method_27_code
def yJ8_newLength_cabcc : MethodName := ⟨RJ8, "newLength", "(III)I"⟩
abbrev cJ8_hugeLength_7cf53 : ByteArray := prog_36_method_28_code
def yJ8_hugeLength_7cf53 : MethodName := ⟨RJ8, "hugeLength", "(II)I"⟩
def RJ3 : String := "jdk/internal/util/Preconditions"
def TJ3 : u_T := fun k => match k with
  | _ => ("", "", "", false)
def tyJ3 : Nat → FieldType := fun k => match k with
  | _ => .int
theorem nmJ3 : ∀ a, a < 0 → ∀ b, b < 0 → a ≠ b → (TJ3 a).2.1 ≠ (TJ3 b).2.1 := by decide +kernel
theorem tyJ3_ok : ∀ k, k < 0 → parseFieldDescriptor (TJ3 k).2.2.1 = some (tyJ3 k) := by decide +kernel
abbrev cJ3_checkIndex_8e157 : ByteArray := prog_37_method_11_code
def yJ3_checkIndex_8e157 : MethodName := ⟨RJ3, "checkIndex", "(IILjava/util/function/BiFunction;)I"⟩
abbrev cJ3_checkFromToIndex_8c36e : ByteArray := prog_37_method_12_code
def yJ3_checkFromToIndex_8c36e : MethodName := ⟨RJ3, "checkFromToIndex", "(IIILjava/util/function/BiFunction;)I"⟩
abbrev cJ3_checkFromIndexSize_8c36e : ByteArray := prog_37_method_13_code
def yJ3_checkFromIndexSize_8c36e : MethodName := ⟨RJ3, "checkFromIndexSize", "(IIILjava/util/function/BiFunction;)I"⟩
def RL : String := "LineBattleLaw"
abbrev cL_cell : ByteArray := method_2_code
def yL_cell : MethodName := ⟨RL, "cell", "([II)I"⟩
abbrev cL_addLine : ByteArray := method_3_code
def yL_addLine : MethodName := ⟨RL, "addLine", "(LLineBattle;IICI)I"⟩
abbrev cL_setOrder : ByteArray := method_4_code
def yL_setOrder : MethodName := ⟨RL, "setOrder", "(LLineBattle;IC)I"⟩
abbrev cL_rally : ByteArray := method_5_code
def yL_rally : MethodName := ⟨RL, "rally", "(LLineBattle;I)I"⟩
abbrev cL_sideOf : ByteArray := method_6_code
def yL_sideOf : MethodName := ⟨RL, "sideOf", "(LLineBattle;I)I"⟩
abbrev cL_laneOf : ByteArray := method_7_code
def yL_laneOf : MethodName := ⟨RL, "laneOf", "(LLineBattle;I)I"⟩
abbrev cL_columnOf : ByteArray := method_8_code
def yL_columnOf : MethodName := ⟨RL, "columnOf", "(LLineBattle;I)I"⟩
abbrev cL_kindOf : ByteArray := method_9_code
def yL_kindOf : MethodName := ⟨RL, "kindOf", "(LLineBattle;I)I"⟩
abbrev cL_strength : ByteArray := method_10_code
def yL_strength : MethodName := ⟨RL, "strength", "(LLineBattle;I)I"⟩
abbrev cL_morale : ByteArray := method_11_code
def yL_morale : MethodName := ⟨RL, "morale", "(LLineBattle;I)I"⟩
abbrev cL_orderOf : ByteArray := method_12_code
def yL_orderOf : MethodName := ⟨RL, "orderOf", "(LLineBattle;I)I"⟩
abbrev cL_isStanding : ByteArray := method_13_code
def yL_isStanding : MethodName := ⟨RL, "isStanding", "(LLineBattle;I)I"⟩
abbrev cL_isRouted : ByteArray := method_14_code
def yL_isRouted : MethodName := ⟨RL, "isRouted", "(LLineBattle;I)I"⟩
abbrev cL_routed : ByteArray := method_15_code
def yL_routed : MethodName := ⟨RL, "routed", "(LLineBattle;I)I"⟩
abbrev cL_lineIn : ByteArray := method_16_code
def yL_lineIn : MethodName := ⟨RL, "lineIn", "(LLineBattle;II)I"⟩
abbrev cL_attack : ByteArray := method_17_code
def yL_attack : MethodName := ⟨RL, "attack", "(LLineBattle;I)I"⟩
abbrev cL_counter : ByteArray := method_18_code
def yL_counter : MethodName := ⟨RL, "counter", "(LLineBattle;I)I"⟩
abbrev cL_support : ByteArray := method_19_code
def yL_support : MethodName := ⟨RL, "support", "(LLineBattle;I)I"⟩
abbrev cL_byLines : ByteArray := method_20_code
def yL_byLines : MethodName := ⟨RL, "byLines", "(LLineBattle;I)I"⟩
abbrev cL_ahead : ByteArray := method_21_code
def yL_ahead : MethodName := ⟨RL, "ahead", "(LLineBattle;I)I"⟩
abbrev cL_byDistances : ByteArray := method_22_code
def yL_byDistances : MethodName := ⟨RL, "byDistances", "(LLineBattle;I)I"⟩
abbrev cL_jars : ByteArray := method_24_code
def yL_jars : MethodName := ⟨RL, "jars", "(LLineBattle;I)I"⟩
abbrev cL_sumOf : ByteArray := method_25_code
def yL_sumOf : MethodName := ⟨RL, "sumOf", "(LLineBattle;I)I"⟩
abbrev cL_byCells : ByteArray := method_26_code
def yL_byCells : MethodName := ⟨RL, "byCells", "(LLineBattle;I)I"⟩
abbrev cL_fallen : ByteArray := method_27_code
def yL_fallen : MethodName := ⟨RL, "fallen", "(LLineBattle;I)I"⟩
abbrev cL_front : ByteArray := method_28_code
def yL_front : MethodName := ⟨RL, "front", "(LLineBattle;II)I"⟩
abbrev cL_leader : ByteArray := method_29_code
def yL_leader : MethodName := ⟨RL, "leader", "(LLineBattle;)I"⟩
abbrev cL_byStrength : ByteArray := method_30_code
def yL_byStrength : MethodName := ⟨RL, "byStrength", "(LLineBattle;I)I"⟩
abbrev cL_writeLane : ByteArray := method_31_code
def yL_writeLane : MethodName := ⟨RL, "writeLane", "(LLineBattle;I)I"⟩
abbrev cL_writtenAt : ByteArray := method_32_code
def yL_writtenAt : MethodName := ⟨RL, "writtenAt", "(LLineBattle;I)I"⟩
abbrev cL_type : ByteArray := method_33_code
def yL_type : MethodName := ⟨RL, "type", "(LLineBattle;C)I"⟩
abbrev cL_executes : ByteArray := method_34_code
def yL_executes : MethodName := ⟨RL, "executes", "(LLineBattle;)I"⟩
abbrev cL_undo : ByteArray := method_37_code
def yL_undo : MethodName := ⟨RL, "undo", "(LLineBattle;)I"⟩
abbrev cL_execute : ByteArray := method_38_code
def yL_execute : MethodName := ⟨RL, "execute", "(LLineBattle;Ljava/lang/String;)I"⟩
abbrev cL_drawn : ByteArray := method_39_code
def yL_drawn : MethodName := ⟨RL, "drawn", "([I)LLineBattle;"⟩
abbrev cL_isFallen : ByteArray := method_40_code
def yL_isFallen : MethodName := ⟨RL, "isFallen", "(LLineBattle;I)Z"⟩
abbrev cL_way : ByteArray := method_41_code
def yL_way : MethodName := ⟨RL, "way", "(LLineBattle;I)I"⟩
abbrev cL_attackBy : ByteArray := method_42_code
def yL_attackBy : MethodName := ⟨RL, "attackBy", "(II)I"⟩
abbrev cL_counterBy : ByteArray := method_43_code
def yL_counterBy : MethodName := ⟨RL, "counterBy", "(II)I"⟩
abbrev cL_supportBy : ByteArray := method_44_code
def yL_supportBy : MethodName := ⟨RL, "supportBy", "(LLineBattle;I)I"⟩
abbrev cL_law : ByteArray := code
def yL_law : MethodName := ⟨RL, "law", "([I)Z"⟩
abbrev cL_lines : ByteArray := method_46_code
def yL_lines : MethodName := ⟨RL, "lines", "(LLineBattle;)Z"⟩
abbrev cL_sides : ByteArray := method_47_code
def yL_sides : MethodName := ⟨RL, "sides", "(LLineBattle;)Z"⟩
abbrev cL_spells : ByteArray := method_48_code
def yL_spells : MethodName := ⟨RL, "spells", "(LLineBattle;ILjava/lang/String;)Z"⟩
abbrev cL_texts : ByteArray := method_49_code
def yL_texts : MethodName := ⟨RL, "texts", "(LLineBattle;)Z"⟩
abbrev cL_sum : ByteArray := method_50_code
def yL_sum : MethodName := ⟨RL, "sum", "(LLineBattle;)J"⟩
abbrev cL_undone : ByteArray := method_51_code
def yL_undone : MethodName := ⟨RL, "undone", "([ILLineBattle;)Z"⟩
theorem dX0_init_0 : decode cX0_init 0 = .ok (.aload_n 0, 1) := by decide +kernel
theorem dX0_init_1 : decode cX0_init 1 = .ok (.invokespecial 3, 3) := by decide +kernel
theorem dX0_init_4 : decode cX0_init 4 = .ok (.aload_n 0, 1) := by decide +kernel
theorem dX0_init_5 : decode cX0_init 5 = .ok (.bipush 60, 2) := by decide +kernel
theorem dX0_init_7 : decode cX0_init 7 = .ok (.newarray .char, 2) := by decide +kernel
theorem dX0_init_9 : decode cX0_init 9 = .ok (.putfield 9, 3) := by decide +kernel
theorem dX0_init_12 : decode cX0_init 12 = .ok (.aload_n 0, 1) := by decide +kernel
theorem dX0_init_13 : decode cX0_init 13 = .ok (.iconst 0, 1) := by decide +kernel
theorem dX0_init_14 : decode cX0_init 14 = .ok (.putfield 15, 3) := by decide +kernel
theorem dX0_init_17 : decode cX0_init 17 = .ok (.aload_n 0, 1) := by decide +kernel
theorem dX0_init_18 : decode cX0_init 18 = .ok (.iconst 0, 1) := by decide +kernel
theorem dX0_init_19 : decode cX0_init 19 = .ok (.putfield 19, 3) := by decide +kernel
theorem dX0_init_22 : decode cX0_init 22 = .ok (.aload_n 0, 1) := by decide +kernel
theorem dX0_init_23 : decode cX0_init 23 = .ok (.iconst 0, 1) := by decide +kernel
theorem dX0_init_24 : decode cX0_init 24 = .ok (.putfield 22, 3) := by decide +kernel
theorem dX0_init_27 : decode cX0_init 27 = .ok (.aload_n 0, 1) := by decide +kernel
theorem dX0_init_28 : decode cX0_init 28 = .ok (.iconst 0, 1) := by decide +kernel
theorem dX0_init_29 : decode cX0_init 29 = .ok (.putfield 26, 3) := by decide +kernel
theorem dX0_init_32 : decode cX0_init 32 = .ok (.aload_n 0, 1) := by decide +kernel
theorem dX0_init_33 : decode cX0_init 33 = .ok (.iconst 0, 1) := by decide +kernel
theorem dX0_init_34 : decode cX0_init 34 = .ok (.putfield 29, 3) := by decide +kernel
theorem dX0_init_37 : decode cX0_init 37 = .ok (.aload_n 0, 1) := by decide +kernel
theorem dX0_init_38 : decode cX0_init 38 = .ok (.iconst 0, 1) := by decide +kernel
theorem dX0_init_39 : decode cX0_init 39 = .ok (.putfield 32, 3) := by decide +kernel
theorem dX0_init_42 : decode cX0_init 42 = .ok (.aload_n 0, 1) := by decide +kernel
theorem dX0_init_43 : decode cX0_init 43 = .ok (.iconst 0, 1) := by decide +kernel
theorem dX0_init_44 : decode cX0_init 44 = .ok (.putfield 35, 3) := by decide +kernel
theorem dX0_init_47 : decode cX0_init 47 = .ok (.return_, 1) := by decide +kernel
theorem dX0_append_0 : decode cX0_append 0 = .ok (.aload_n 0, 1) := by decide +kernel
theorem dX0_append_1 : decode cX0_append 1 = .ok (.getfield 15, 3) := by decide +kernel
theorem dX0_append_4 : decode cX0_append 4 = .ok (.ifCond .lt 15, 3) := by decide +kernel
theorem dX0_append_7 : decode cX0_append 7 = .ok (.aload_n 0, 1) := by decide +kernel
theorem dX0_append_8 : decode cX0_append 8 = .ok (.getfield 15, 3) := by decide +kernel
theorem dX0_append_11 : decode cX0_append 11 = .ok (.aload_n 0, 1) := by decide +kernel
theorem dX0_append_12 : decode cX0_append 12 = .ok (.getfield 9, 3) := by decide +kernel
theorem dX0_append_15 : decode cX0_append 15 = .ok (.arraylength, 1) := by decide +kernel
theorem dX0_append_16 : decode cX0_append 16 = .ok (.if_icmp .lt 5, 3) := by decide +kernel
theorem dX0_append_19 : decode cX0_append 19 = .ok (.iconst 0, 1) := by decide +kernel
theorem dX0_append_20 : decode cX0_append 20 = .ok (.ireturn, 1) := by decide +kernel
theorem dX0_append_21 : decode cX0_append 21 = .ok (.aload_n 0, 1) := by decide +kernel
theorem dX0_append_22 : decode cX0_append 22 = .ok (.getfield 9, 3) := by decide +kernel
theorem dX0_append_25 : decode cX0_append 25 = .ok (.aload_n 0, 1) := by decide +kernel
theorem dX0_append_26 : decode cX0_append 26 = .ok (.getfield 15, 3) := by decide +kernel
theorem dX0_append_29 : decode cX0_append 29 = .ok (.iload_n 1, 1) := by decide +kernel
theorem dX0_append_30 : decode cX0_append 30 = .ok (.castore, 1) := by decide +kernel
theorem dX0_append_31 : decode cX0_append 31 = .ok (.aload_n 0, 1) := by decide +kernel
theorem dX0_append_32 : decode cX0_append 32 = .ok (.dup, 1) := by decide +kernel
theorem dX0_append_33 : decode cX0_append 33 = .ok (.getfield 15, 3) := by decide +kernel
theorem dX0_append_36 : decode cX0_append 36 = .ok (.iconst 1, 1) := by decide +kernel
theorem dX0_append_37 : decode cX0_append 37 = .ok (.iadd, 1) := by decide +kernel
theorem dX0_append_38 : decode cX0_append 38 = .ok (.putfield 15, 3) := by decide +kernel
theorem dX0_append_41 : decode cX0_append 41 = .ok (.iconst 1, 1) := by decide +kernel
theorem dX0_append_42 : decode cX0_append 42 = .ok (.ireturn, 1) := by decide +kernel
theorem dX0_clear_0 : decode cX0_clear 0 = .ok (.aload_n 0, 1) := by decide +kernel
theorem dX0_clear_1 : decode cX0_clear 1 = .ok (.iconst 0, 1) := by decide +kernel
theorem dX0_clear_2 : decode cX0_clear 2 = .ok (.putfield 15, 3) := by decide +kernel
theorem dX0_clear_5 : decode cX0_clear 5 = .ok (.return_, 1) := by decide +kernel
theorem dX0_rewind_0 : decode cX0_rewind 0 = .ok (.aload_n 0, 1) := by decide +kernel
theorem dX0_rewind_1 : decode cX0_rewind 1 = .ok (.iconst 0, 1) := by decide +kernel
theorem dX0_rewind_2 : decode cX0_rewind 2 = .ok (.putfield 19, 3) := by decide +kernel
theorem dX0_rewind_5 : decode cX0_rewind 5 = .ok (.return_, 1) := by decide +kernel
theorem dX0_countCommands_0 : decode cX0_countCommands 0 = .ok (.aload_n 0, 1) := by decide +kernel
theorem dX0_countCommands_1 : decode cX0_countCommands 1 = .ok (.invokevirtual 38, 3) := by decide +kernel
theorem dX0_countCommands_4 : decode cX0_countCommands 4 = .ok (.iconst 1, 1) := by decide +kernel
theorem dX0_countCommands_5 : decode cX0_countCommands 5 = .ok (.istore_n 1, 1) := by decide +kernel
theorem dX0_countCommands_6 : decode cX0_countCommands 6 = .ok (.iload_n 1, 1) := by decide +kernel
theorem dX0_countCommands_7 : decode cX0_countCommands 7 = .ok (.bipush 60, 2) := by decide +kernel
theorem dX0_countCommands_9 : decode cX0_countCommands 9 = .ok (.if_icmp .gt 42, 3) := by decide +kernel
theorem dX0_countCommands_12 : decode cX0_countCommands 12 = .ok (.aload_n 0, 1) := by decide +kernel
theorem dX0_countCommands_13 : decode cX0_countCommands 13 = .ok (.invokevirtual 41, 3) := by decide +kernel
theorem dX0_countCommands_16 : decode cX0_countCommands 16 = .ok (.ifCond .ne 5, 3) := by decide +kernel
theorem dX0_countCommands_19 : decode cX0_countCommands 19 = .ok (.iconst (-1), 1) := by decide +kernel
theorem dX0_countCommands_20 : decode cX0_countCommands 20 = .ok (.ireturn, 1) := by decide +kernel
theorem dX0_countCommands_21 : decode cX0_countCommands 21 = .ok (.aload_n 0, 1) := by decide +kernel
theorem dX0_countCommands_22 : decode cX0_countCommands 22 = .ok (.getfield 19, 3) := by decide +kernel
theorem dX0_countCommands_25 : decode cX0_countCommands 25 = .ok (.aload_n 0, 1) := by decide +kernel
theorem dX0_countCommands_26 : decode cX0_countCommands 26 = .ok (.getfield 15, 3) := by decide +kernel
theorem dX0_countCommands_29 : decode cX0_countCommands 29 = .ok (.if_icmp .lt 5, 3) := by decide +kernel
theorem dX0_countCommands_32 : decode cX0_countCommands 32 = .ok (.iload_n 1, 1) := by decide +kernel
theorem dX0_countCommands_33 : decode cX0_countCommands 33 = .ok (.ireturn, 1) := by decide +kernel
theorem dX0_countCommands_34 : decode cX0_countCommands 34 = .ok (.aload_n 0, 1) := by decide +kernel
theorem dX0_countCommands_35 : decode cX0_countCommands 35 = .ok (.bipush 59, 2) := by decide +kernel
theorem dX0_countCommands_37 : decode cX0_countCommands 37 = .ok (.invokevirtual 45, 3) := by decide +kernel
theorem dX0_countCommands_40 : decode cX0_countCommands 40 = .ok (.ifCond .ne 5, 3) := by decide +kernel
theorem dX0_countCommands_43 : decode cX0_countCommands 43 = .ok (.iconst (-1), 1) := by decide +kernel
theorem dX0_countCommands_44 : decode cX0_countCommands 44 = .ok (.ireturn, 1) := by decide +kernel
theorem dX0_countCommands_45 : decode cX0_countCommands 45 = .ok (.iinc 1 1, 3) := by decide +kernel
theorem dX0_countCommands_48 : decode cX0_countCommands 48 = .ok (.goto (-42), 3) := by decide +kernel
theorem dX0_countCommands_51 : decode cX0_countCommands 51 = .ok (.iconst (-1), 1) := by decide +kernel
theorem dX0_countCommands_52 : decode cX0_countCommands 52 = .ok (.ireturn, 1) := by decide +kernel
theorem dX0_readNext_0 : decode cX0_readNext 0 = .ok (.aload_n 0, 1) := by decide +kernel
theorem dX0_readNext_1 : decode cX0_readNext 1 = .ok (.getfield 19, 3) := by decide +kernel
theorem dX0_readNext_4 : decode cX0_readNext 4 = .ok (.ifCond .eq 12, 3) := by decide +kernel
theorem dX0_readNext_7 : decode cX0_readNext 7 = .ok (.aload_n 0, 1) := by decide +kernel
theorem dX0_readNext_8 : decode cX0_readNext 8 = .ok (.bipush 59, 2) := by decide +kernel
theorem dX0_readNext_10 : decode cX0_readNext 10 = .ok (.invokevirtual 45, 3) := by decide +kernel
theorem dX0_readNext_13 : decode cX0_readNext 13 = .ok (.ifCond .eq 14, 3) := by decide +kernel
theorem dX0_readNext_16 : decode cX0_readNext 16 = .ok (.aload_n 0, 1) := by decide +kernel
theorem dX0_readNext_17 : decode cX0_readNext 17 = .ok (.invokevirtual 41, 3) := by decide +kernel
theorem dX0_readNext_20 : decode cX0_readNext 20 = .ok (.ifCond .eq 7, 3) := by decide +kernel
theorem dX0_readNext_23 : decode cX0_readNext 23 = .ok (.iconst 1, 1) := by decide +kernel
theorem dX0_readNext_24 : decode cX0_readNext 24 = .ok (.goto 4, 3) := by decide +kernel
theorem dX0_readNext_27 : decode cX0_readNext 27 = .ok (.iconst 0, 1) := by decide +kernel
theorem dX0_readNext_28 : decode cX0_readNext 28 = .ok (.ireturn, 1) := by decide +kernel
theorem dX0_readCommand_0 : decode cX0_readCommand 0 = .ok (.aload_n 0, 1) := by decide +kernel
theorem dX0_readCommand_1 : decode cX0_readCommand 1 = .ok (.aload_n 0, 1) := by decide +kernel
theorem dX0_readCommand_2 : decode cX0_readCommand 2 = .ok (.invokevirtual 49, 3) := by decide +kernel
theorem dX0_readCommand_5 : decode cX0_readCommand 5 = .ok (.putfield 22, 3) := by decide +kernel
theorem dX0_readCommand_8 : decode cX0_readCommand 8 = .ok (.aload_n 0, 1) := by decide +kernel
theorem dX0_readCommand_9 : decode cX0_readCommand 9 = .ok (.getfield 22, 3) := by decide +kernel
theorem dX0_readCommand_12 : decode cX0_readCommand 12 = .ok (.bipush 108, 2) := by decide +kernel
theorem dX0_readCommand_14 : decode cX0_readCommand 14 = .ok (.if_icmp .ne 41, 3) := by decide +kernel
theorem dX0_readCommand_17 : decode cX0_readCommand 17 = .ok (.aload_n 0, 1) := by decide +kernel
theorem dX0_readCommand_18 : decode cX0_readCommand 18 = .ok (.ldc 53, 2) := by decide +kernel
theorem dX0_readCommand_20 : decode cX0_readCommand 20 = .ok (.invokevirtual 55, 3) := by decide +kernel
theorem dX0_readCommand_23 : decode cX0_readCommand 23 = .ok (.ifCond .eq 30, 3) := by decide +kernel
theorem dX0_readCommand_26 : decode cX0_readCommand 26 = .ok (.aload_n 0, 1) := by decide +kernel
theorem dX0_readCommand_27 : decode cX0_readCommand 27 = .ok (.invokevirtual 59, 3) := by decide +kernel
theorem dX0_readCommand_30 : decode cX0_readCommand 30 = .ok (.ifCond .eq 23, 3) := by decide +kernel
theorem dX0_readCommand_33 : decode cX0_readCommand 33 = .ok (.aload_n 0, 1) := by decide +kernel
theorem dX0_readCommand_34 : decode cX0_readCommand 34 = .ok (.ldc 62, 2) := by decide +kernel
theorem dX0_readCommand_36 : decode cX0_readCommand 36 = .ok (.invokevirtual 64, 3) := by decide +kernel
theorem dX0_readCommand_39 : decode cX0_readCommand 39 = .ok (.ifCond .eq 14, 3) := by decide +kernel
theorem dX0_readCommand_42 : decode cX0_readCommand 42 = .ok (.aload_n 0, 1) := by decide +kernel
theorem dX0_readCommand_43 : decode cX0_readCommand 43 = .ok (.invokevirtual 67, 3) := by decide +kernel
theorem dX0_readCommand_46 : decode cX0_readCommand 46 = .ok (.ifCond .eq 7, 3) := by decide +kernel
theorem dX0_readCommand_49 : decode cX0_readCommand 49 = .ok (.iconst 1, 1) := by decide +kernel
theorem dX0_readCommand_50 : decode cX0_readCommand 50 = .ok (.goto 4, 3) := by decide +kernel
theorem dX0_readCommand_53 : decode cX0_readCommand 53 = .ok (.iconst 0, 1) := by decide +kernel
theorem dX0_readCommand_54 : decode cX0_readCommand 54 = .ok (.ireturn, 1) := by decide +kernel
theorem dX0_readCommand_55 : decode cX0_readCommand 55 = .ok (.aload_n 0, 1) := by decide +kernel
theorem dX0_readCommand_56 : decode cX0_readCommand 56 = .ok (.getfield 22, 3) := by decide +kernel
theorem dX0_readCommand_59 : decode cX0_readCommand 59 = .ok (.bipush 111, 2) := by decide +kernel
theorem dX0_readCommand_61 : decode cX0_readCommand 61 = .ok (.if_icmp .ne 34, 3) := by decide +kernel
theorem dX0_readCommand_64 : decode cX0_readCommand 64 = .ok (.aload_n 0, 1) := by decide +kernel
theorem dX0_readCommand_65 : decode cX0_readCommand 65 = .ok (.ldc 70, 2) := by decide +kernel
theorem dX0_readCommand_67 : decode cX0_readCommand 67 = .ok (.invokevirtual 55, 3) := by decide +kernel
theorem dX0_readCommand_70 : decode cX0_readCommand 70 = .ok (.ifCond .eq 23, 3) := by decide +kernel
theorem dX0_readCommand_73 : decode cX0_readCommand 73 = .ok (.aload_n 0, 1) := by decide +kernel
theorem dX0_readCommand_74 : decode cX0_readCommand 74 = .ok (.invokevirtual 67, 3) := by decide +kernel
theorem dX0_readCommand_77 : decode cX0_readCommand 77 = .ok (.ifCond .eq 16, 3) := by decide +kernel
theorem dX0_readCommand_80 : decode cX0_readCommand 80 = .ok (.aload_n 0, 1) := by decide +kernel
theorem dX0_readCommand_81 : decode cX0_readCommand 81 = .ok (.ldc 72, 2) := by decide +kernel
theorem dX0_readCommand_83 : decode cX0_readCommand 83 = .ok (.invokevirtual 64, 3) := by decide +kernel
theorem dX0_readCommand_86 : decode cX0_readCommand 86 = .ok (.ifCond .eq 7, 3) := by decide +kernel
theorem dX0_readCommand_89 : decode cX0_readCommand 89 = .ok (.iconst 1, 1) := by decide +kernel
theorem dX0_readCommand_90 : decode cX0_readCommand 90 = .ok (.goto 4, 3) := by decide +kernel
theorem dX0_readCommand_93 : decode cX0_readCommand 93 = .ok (.iconst 0, 1) := by decide +kernel
theorem dX0_readCommand_94 : decode cX0_readCommand 94 = .ok (.ireturn, 1) := by decide +kernel
theorem dX0_readCommand_95 : decode cX0_readCommand 95 = .ok (.aload_n 0, 1) := by decide +kernel
theorem dX0_readCommand_96 : decode cX0_readCommand 96 = .ok (.getfield 22, 3) := by decide +kernel
theorem dX0_readCommand_99 : decode cX0_readCommand 99 = .ok (.bipush 114, 2) := by decide +kernel
theorem dX0_readCommand_101 : decode cX0_readCommand 101 = .ok (.if_icmp .ne 25, 3) := by decide +kernel
theorem dX0_readCommand_104 : decode cX0_readCommand 104 = .ok (.aload_n 0, 1) := by decide +kernel
theorem dX0_readCommand_105 : decode cX0_readCommand 105 = .ok (.ldc 74, 2) := by decide +kernel
theorem dX0_readCommand_107 : decode cX0_readCommand 107 = .ok (.invokevirtual 55, 3) := by decide +kernel
theorem dX0_readCommand_110 : decode cX0_readCommand 110 = .ok (.ifCond .eq 14, 3) := by decide +kernel
theorem dX0_readCommand_113 : decode cX0_readCommand 113 = .ok (.aload_n 0, 1) := by decide +kernel
theorem dX0_readCommand_114 : decode cX0_readCommand 114 = .ok (.invokevirtual 67, 3) := by decide +kernel
theorem dX0_readCommand_117 : decode cX0_readCommand 117 = .ok (.ifCond .eq 7, 3) := by decide +kernel
theorem dX0_readCommand_120 : decode cX0_readCommand 120 = .ok (.iconst 1, 1) := by decide +kernel
theorem dX0_readCommand_121 : decode cX0_readCommand 121 = .ok (.goto 4, 3) := by decide +kernel
theorem dX0_readCommand_124 : decode cX0_readCommand 124 = .ok (.iconst 0, 1) := by decide +kernel
theorem dX0_readCommand_125 : decode cX0_readCommand 125 = .ok (.ireturn, 1) := by decide +kernel
theorem dX0_readCommand_126 : decode cX0_readCommand 126 = .ok (.aload_n 0, 1) := by decide +kernel
theorem dX0_readCommand_127 : decode cX0_readCommand 127 = .ok (.ldc 76, 2) := by decide +kernel
theorem dX0_readCommand_129 : decode cX0_readCommand 129 = .ok (.invokevirtual 55, 3) := by decide +kernel
theorem dX0_readCommand_132 : decode cX0_readCommand 132 = .ok (.ireturn, 1) := by decide +kernel
theorem dX0_readPlace_0 : decode cX0_readPlace 0 = .ok (.aload_n 0, 1) := by decide +kernel
theorem dX0_readPlace_1 : decode cX0_readPlace 1 = .ok (.aload_n 0, 1) := by decide +kernel
theorem dX0_readPlace_2 : decode cX0_readPlace 2 = .ok (.bipush 32, 2) := by decide +kernel
theorem dX0_readPlace_4 : decode cX0_readPlace 4 = .ok (.invokevirtual 45, 3) := by decide +kernel
theorem dX0_readPlace_7 : decode cX0_readPlace 7 = .ok (.ifCond .eq 10, 3) := by decide +kernel
theorem dX0_readPlace_10 : decode cX0_readPlace 10 = .ok (.aload_n 0, 1) := by decide +kernel
theorem dX0_readPlace_11 : decode cX0_readPlace 11 = .ok (.invokevirtual 78, 3) := by decide +kernel
theorem dX0_readPlace_14 : decode cX0_readPlace 14 = .ok (.goto 4, 3) := by decide +kernel
theorem dX0_readPlace_17 : decode cX0_readPlace 17 = .ok (.iconst (-1), 1) := by decide +kernel
theorem dX0_readPlace_18 : decode cX0_readPlace 18 = .ok (.putfield 26, 3) := by decide +kernel
theorem dX0_readPlace_21 : decode cX0_readPlace 21 = .ok (.aload_n 0, 1) := by decide +kernel
theorem dX0_readPlace_22 : decode cX0_readPlace 22 = .ok (.getfield 26, 3) := by decide +kernel
theorem dX0_readPlace_25 : decode cX0_readPlace 25 = .ok (.iconst (-1), 1) := by decide +kernel
theorem dX0_readPlace_26 : decode cX0_readPlace 26 = .ok (.if_icmp .ne 5, 3) := by decide +kernel
theorem dX0_readPlace_29 : decode cX0_readPlace 29 = .ok (.iconst 0, 1) := by decide +kernel
theorem dX0_readPlace_30 : decode cX0_readPlace 30 = .ok (.ireturn, 1) := by decide +kernel
theorem dX0_readPlace_31 : decode cX0_readPlace 31 = .ok (.aload_n 0, 1) := by decide +kernel
theorem dX0_readPlace_32 : decode cX0_readPlace 32 = .ok (.aload_n 0, 1) := by decide +kernel
theorem dX0_readPlace_33 : decode cX0_readPlace 33 = .ok (.bipush 32, 2) := by decide +kernel
theorem dX0_readPlace_35 : decode cX0_readPlace 35 = .ok (.invokevirtual 45, 3) := by decide +kernel
theorem dX0_readPlace_38 : decode cX0_readPlace 38 = .ok (.ifCond .eq 10, 3) := by decide +kernel
theorem dX0_readPlace_41 : decode cX0_readPlace 41 = .ok (.aload_n 0, 1) := by decide +kernel
theorem dX0_readPlace_42 : decode cX0_readPlace 42 = .ok (.invokevirtual 78, 3) := by decide +kernel
theorem dX0_readPlace_45 : decode cX0_readPlace 45 = .ok (.goto 4, 3) := by decide +kernel
theorem dX0_readPlace_48 : decode cX0_readPlace 48 = .ok (.iconst (-1), 1) := by decide +kernel
theorem dX0_readPlace_49 : decode cX0_readPlace 49 = .ok (.putfield 29, 3) := by decide +kernel
theorem dX0_readPlace_52 : decode cX0_readPlace 52 = .ok (.aload_n 0, 1) := by decide +kernel
theorem dX0_readPlace_53 : decode cX0_readPlace 53 = .ok (.getfield 29, 3) := by decide +kernel
theorem dX0_readPlace_56 : decode cX0_readPlace 56 = .ok (.iconst (-1), 1) := by decide +kernel
theorem dX0_readPlace_57 : decode cX0_readPlace 57 = .ok (.if_icmp .eq 7, 3) := by decide +kernel
theorem dX0_readPlace_60 : decode cX0_readPlace 60 = .ok (.iconst 1, 1) := by decide +kernel
theorem dX0_readPlace_61 : decode cX0_readPlace 61 = .ok (.goto 4, 3) := by decide +kernel
theorem dX0_readPlace_64 : decode cX0_readPlace 64 = .ok (.iconst 0, 1) := by decide +kernel
theorem dX0_readPlace_65 : decode cX0_readPlace 65 = .ok (.ireturn, 1) := by decide +kernel
theorem dX0_readSign_0 : decode cX0_readSign 0 = .ok (.aload_n 0, 1) := by decide +kernel
theorem dX0_readSign_1 : decode cX0_readSign 1 = .ok (.bipush 32, 2) := by decide +kernel
theorem dX0_readSign_3 : decode cX0_readSign 3 = .ok (.invokevirtual 45, 3) := by decide +kernel
theorem dX0_readSign_6 : decode cX0_readSign 6 = .ok (.ifCond .ne 5, 3) := by decide +kernel
theorem dX0_readSign_9 : decode cX0_readSign 9 = .ok (.iconst 0, 1) := by decide +kernel
theorem dX0_readSign_10 : decode cX0_readSign 10 = .ok (.ireturn, 1) := by decide +kernel
theorem dX0_readSign_11 : decode cX0_readSign 11 = .ok (.aload_n 0, 1) := by decide +kernel
theorem dX0_readSign_12 : decode cX0_readSign 12 = .ok (.aload_n 0, 1) := by decide +kernel
theorem dX0_readSign_13 : decode cX0_readSign 13 = .ok (.invokevirtual 49, 3) := by decide +kernel
theorem dX0_readSign_16 : decode cX0_readSign 16 = .ok (.putfield 32, 3) := by decide +kernel
theorem dX0_readSign_19 : decode cX0_readSign 19 = .ok (.aload_n 1, 1) := by decide +kernel
theorem dX0_readSign_20 : decode cX0_readSign 20 = .ok (.aload_n 0, 1) := by decide +kernel
theorem dX0_readSign_21 : decode cX0_readSign 21 = .ok (.getfield 32, 3) := by decide +kernel
theorem dX0_readSign_24 : decode cX0_readSign 24 = .ok (.invokevirtual 82, 3) := by decide +kernel
theorem dX0_readSign_27 : decode cX0_readSign 27 = .ok (.ifCond .lt 18, 3) := by decide +kernel
theorem dX0_readSign_30 : decode cX0_readSign 30 = .ok (.aload_n 0, 1) := by decide +kernel
theorem dX0_readSign_31 : decode cX0_readSign 31 = .ok (.aload_n 0, 1) := by decide +kernel
theorem dX0_readSign_32 : decode cX0_readSign 32 = .ok (.getfield 32, 3) := by decide +kernel
theorem dX0_readSign_35 : decode cX0_readSign 35 = .ok (.invokevirtual 45, 3) := by decide +kernel
theorem dX0_readSign_38 : decode cX0_readSign 38 = .ok (.ifCond .eq 7, 3) := by decide +kernel
theorem dX0_readSign_41 : decode cX0_readSign 41 = .ok (.iconst 1, 1) := by decide +kernel
theorem dX0_readSign_42 : decode cX0_readSign 42 = .ok (.goto 4, 3) := by decide +kernel
theorem dX0_readSign_45 : decode cX0_readSign 45 = .ok (.iconst 0, 1) := by decide +kernel
theorem dX0_readSign_46 : decode cX0_readSign 46 = .ok (.ireturn, 1) := by decide +kernel
theorem dX0_readNumber_0 : decode cX0_readNumber 0 = .ok (.aload_n 0, 1) := by decide +kernel
theorem dX0_readNumber_1 : decode cX0_readNumber 1 = .ok (.aload_n 0, 1) := by decide +kernel
theorem dX0_readNumber_2 : decode cX0_readNumber 2 = .ok (.bipush 32, 2) := by decide +kernel
theorem dX0_readNumber_4 : decode cX0_readNumber 4 = .ok (.invokevirtual 45, 3) := by decide +kernel
theorem dX0_readNumber_7 : decode cX0_readNumber 7 = .ok (.ifCond .eq 10, 3) := by decide +kernel
theorem dX0_readNumber_10 : decode cX0_readNumber 10 = .ok (.aload_n 0, 1) := by decide +kernel
theorem dX0_readNumber_11 : decode cX0_readNumber 11 = .ok (.invokevirtual 78, 3) := by decide +kernel
theorem dX0_readNumber_14 : decode cX0_readNumber 14 = .ok (.goto 4, 3) := by decide +kernel
theorem dX0_readNumber_17 : decode cX0_readNumber 17 = .ok (.iconst (-1), 1) := by decide +kernel
theorem dX0_readNumber_18 : decode cX0_readNumber 18 = .ok (.putfield 35, 3) := by decide +kernel
theorem dX0_readNumber_21 : decode cX0_readNumber 21 = .ok (.aload_n 0, 1) := by decide +kernel
theorem dX0_readNumber_22 : decode cX0_readNumber 22 = .ok (.getfield 35, 3) := by decide +kernel
theorem dX0_readNumber_25 : decode cX0_readNumber 25 = .ok (.iconst (-1), 1) := by decide +kernel
theorem dX0_readNumber_26 : decode cX0_readNumber 26 = .ok (.if_icmp .ne 5, 3) := by decide +kernel
theorem dX0_readNumber_29 : decode cX0_readNumber 29 = .ok (.iconst 0, 1) := by decide +kernel
theorem dX0_readNumber_30 : decode cX0_readNumber 30 = .ok (.ireturn, 1) := by decide +kernel
theorem dX0_readNumber_31 : decode cX0_readNumber 31 = .ok (.aload_n 0, 1) := by decide +kernel
theorem dX0_readNumber_32 : decode cX0_readNumber 32 = .ok (.invokevirtual 78, 3) := by decide +kernel
theorem dX0_readNumber_35 : decode cX0_readNumber 35 = .ok (.istore_n 1, 1) := by decide +kernel
theorem dX0_readNumber_36 : decode cX0_readNumber 36 = .ok (.iload_n 1, 1) := by decide +kernel
theorem dX0_readNumber_37 : decode cX0_readNumber 37 = .ok (.iconst (-1), 1) := by decide +kernel
theorem dX0_readNumber_38 : decode cX0_readNumber 38 = .ok (.if_icmp .eq 16, 3) := by decide +kernel
theorem dX0_readNumber_41 : decode cX0_readNumber 41 = .ok (.aload_n 0, 1) := by decide +kernel
theorem dX0_readNumber_42 : decode cX0_readNumber 42 = .ok (.aload_n 0, 1) := by decide +kernel
theorem dX0_readNumber_43 : decode cX0_readNumber 43 = .ok (.getfield 35, 3) := by decide +kernel
theorem dX0_readNumber_46 : decode cX0_readNumber 46 = .ok (.bipush 10, 2) := by decide +kernel
theorem dX0_readNumber_48 : decode cX0_readNumber 48 = .ok (.imul, 1) := by decide +kernel
theorem dX0_readNumber_49 : decode cX0_readNumber 49 = .ok (.iload_n 1, 1) := by decide +kernel
theorem dX0_readNumber_50 : decode cX0_readNumber 50 = .ok (.iadd, 1) := by decide +kernel
theorem dX0_readNumber_51 : decode cX0_readNumber 51 = .ok (.putfield 35, 3) := by decide +kernel
theorem dX0_readNumber_54 : decode cX0_readNumber 54 = .ok (.iconst 1, 1) := by decide +kernel
theorem dX0_readNumber_55 : decode cX0_readNumber 55 = .ok (.ireturn, 1) := by decide +kernel
theorem dX0_takeWord_0 : decode cX0_takeWord 0 = .ok (.iconst 0, 1) := by decide +kernel
theorem dX0_takeWord_1 : decode cX0_takeWord 1 = .ok (.istore_n 2, 1) := by decide +kernel
theorem dX0_takeWord_2 : decode cX0_takeWord 2 = .ok (.iload_n 2, 1) := by decide +kernel
theorem dX0_takeWord_3 : decode cX0_takeWord 3 = .ok (.aload_n 1, 1) := by decide +kernel
theorem dX0_takeWord_4 : decode cX0_takeWord 4 = .ok (.invokevirtual 88, 3) := by decide +kernel
theorem dX0_takeWord_7 : decode cX0_takeWord 7 = .ok (.if_icmp .ge 23, 3) := by decide +kernel
theorem dX0_takeWord_10 : decode cX0_takeWord 10 = .ok (.aload_n 0, 1) := by decide +kernel
theorem dX0_takeWord_11 : decode cX0_takeWord 11 = .ok (.aload_n 1, 1) := by decide +kernel
theorem dX0_takeWord_12 : decode cX0_takeWord 12 = .ok (.iload_n 2, 1) := by decide +kernel
theorem dX0_takeWord_13 : decode cX0_takeWord 13 = .ok (.invokevirtual 90, 3) := by decide +kernel
theorem dX0_takeWord_16 : decode cX0_takeWord 16 = .ok (.invokevirtual 45, 3) := by decide +kernel
theorem dX0_takeWord_19 : decode cX0_takeWord 19 = .ok (.ifCond .ne 5, 3) := by decide +kernel
theorem dX0_takeWord_22 : decode cX0_takeWord 22 = .ok (.iconst 0, 1) := by decide +kernel
theorem dX0_takeWord_23 : decode cX0_takeWord 23 = .ok (.ireturn, 1) := by decide +kernel
theorem dX0_takeWord_24 : decode cX0_takeWord 24 = .ok (.iinc 2 1, 3) := by decide +kernel
theorem dX0_takeWord_27 : decode cX0_takeWord 27 = .ok (.goto (-25), 3) := by decide +kernel
theorem dX0_takeWord_30 : decode cX0_takeWord 30 = .ok (.iconst 1, 1) := by decide +kernel
theorem dX0_takeWord_31 : decode cX0_takeWord 31 = .ok (.ireturn, 1) := by decide +kernel
theorem dX0_take_0 : decode cX0_take 0 = .ok (.aload_n 0, 1) := by decide +kernel
theorem dX0_take_1 : decode cX0_take 1 = .ok (.invokevirtual 49, 3) := by decide +kernel
theorem dX0_take_4 : decode cX0_take 4 = .ok (.iload_n 1, 1) := by decide +kernel
theorem dX0_take_5 : decode cX0_take 5 = .ok (.if_icmp .eq 5, 3) := by decide +kernel
theorem dX0_take_8 : decode cX0_take 8 = .ok (.iconst 0, 1) := by decide +kernel
theorem dX0_take_9 : decode cX0_take 9 = .ok (.ireturn, 1) := by decide +kernel
theorem dX0_take_10 : decode cX0_take 10 = .ok (.aload_n 0, 1) := by decide +kernel
theorem dX0_take_11 : decode cX0_take 11 = .ok (.dup, 1) := by decide +kernel
theorem dX0_take_12 : decode cX0_take 12 = .ok (.getfield 19, 3) := by decide +kernel
theorem dX0_take_15 : decode cX0_take 15 = .ok (.iconst 1, 1) := by decide +kernel
theorem dX0_take_16 : decode cX0_take 16 = .ok (.iadd, 1) := by decide +kernel
theorem dX0_take_17 : decode cX0_take 17 = .ok (.putfield 19, 3) := by decide +kernel
theorem dX0_take_20 : decode cX0_take 20 = .ok (.iconst 1, 1) := by decide +kernel
theorem dX0_take_21 : decode cX0_take 21 = .ok (.ireturn, 1) := by decide +kernel
theorem dX0_takeDigit_0 : decode cX0_takeDigit 0 = .ok (.aload_n 0, 1) := by decide +kernel
theorem dX0_takeDigit_1 : decode cX0_takeDigit 1 = .ok (.invokevirtual 49, 3) := by decide +kernel
theorem dX0_takeDigit_4 : decode cX0_takeDigit 4 = .ok (.istore_n 1, 1) := by decide +kernel
theorem dX0_takeDigit_5 : decode cX0_takeDigit 5 = .ok (.iload_n 1, 1) := by decide +kernel
theorem dX0_takeDigit_6 : decode cX0_takeDigit 6 = .ok (.bipush 48, 2) := by decide +kernel
theorem dX0_takeDigit_8 : decode cX0_takeDigit 8 = .ok (.if_icmp .lt 9, 3) := by decide +kernel
theorem dX0_takeDigit_11 : decode cX0_takeDigit 11 = .ok (.iload_n 1, 1) := by decide +kernel
theorem dX0_takeDigit_12 : decode cX0_takeDigit 12 = .ok (.bipush 57, 2) := by decide +kernel
theorem dX0_takeDigit_14 : decode cX0_takeDigit 14 = .ok (.if_icmp .le 5, 3) := by decide +kernel
theorem dX0_takeDigit_17 : decode cX0_takeDigit 17 = .ok (.iconst (-1), 1) := by decide +kernel
theorem dX0_takeDigit_18 : decode cX0_takeDigit 18 = .ok (.ireturn, 1) := by decide +kernel
theorem dX0_takeDigit_19 : decode cX0_takeDigit 19 = .ok (.aload_n 0, 1) := by decide +kernel
theorem dX0_takeDigit_20 : decode cX0_takeDigit 20 = .ok (.dup, 1) := by decide +kernel
theorem dX0_takeDigit_21 : decode cX0_takeDigit 21 = .ok (.getfield 19, 3) := by decide +kernel
theorem dX0_takeDigit_24 : decode cX0_takeDigit 24 = .ok (.iconst 1, 1) := by decide +kernel
theorem dX0_takeDigit_25 : decode cX0_takeDigit 25 = .ok (.iadd, 1) := by decide +kernel
theorem dX0_takeDigit_26 : decode cX0_takeDigit 26 = .ok (.putfield 19, 3) := by decide +kernel
theorem dX0_takeDigit_29 : decode cX0_takeDigit 29 = .ok (.iload_n 1, 1) := by decide +kernel
theorem dX0_takeDigit_30 : decode cX0_takeDigit 30 = .ok (.bipush 48, 2) := by decide +kernel
theorem dX0_takeDigit_32 : decode cX0_takeDigit 32 = .ok (.isub, 1) := by decide +kernel
theorem dX0_takeDigit_33 : decode cX0_takeDigit 33 = .ok (.ireturn, 1) := by decide +kernel
theorem dX0_peek_0 : decode cX0_peek 0 = .ok (.aload_n 0, 1) := by decide +kernel
theorem dX0_peek_1 : decode cX0_peek 1 = .ok (.getfield 19, 3) := by decide +kernel
theorem dX0_peek_4 : decode cX0_peek 4 = .ok (.ifCond .lt 26, 3) := by decide +kernel
theorem dX0_peek_7 : decode cX0_peek 7 = .ok (.aload_n 0, 1) := by decide +kernel
theorem dX0_peek_8 : decode cX0_peek 8 = .ok (.getfield 19, 3) := by decide +kernel
theorem dX0_peek_11 : decode cX0_peek 11 = .ok (.aload_n 0, 1) := by decide +kernel
theorem dX0_peek_12 : decode cX0_peek 12 = .ok (.getfield 15, 3) := by decide +kernel
theorem dX0_peek_15 : decode cX0_peek 15 = .ok (.if_icmp .ge 15, 3) := by decide +kernel
theorem dX0_peek_18 : decode cX0_peek 18 = .ok (.aload_n 0, 1) := by decide +kernel
theorem dX0_peek_19 : decode cX0_peek 19 = .ok (.getfield 19, 3) := by decide +kernel
theorem dX0_peek_22 : decode cX0_peek 22 = .ok (.aload_n 0, 1) := by decide +kernel
theorem dX0_peek_23 : decode cX0_peek 23 = .ok (.getfield 9, 3) := by decide +kernel
theorem dX0_peek_26 : decode cX0_peek 26 = .ok (.arraylength, 1) := by decide +kernel
theorem dX0_peek_27 : decode cX0_peek 27 = .ok (.if_icmp .lt 5, 3) := by decide +kernel
theorem dX0_peek_30 : decode cX0_peek 30 = .ok (.iconst 0, 1) := by decide +kernel
theorem dX0_peek_31 : decode cX0_peek 31 = .ok (.ireturn, 1) := by decide +kernel
theorem dX0_peek_32 : decode cX0_peek 32 = .ok (.aload_n 0, 1) := by decide +kernel
theorem dX0_peek_33 : decode cX0_peek 33 = .ok (.getfield 9, 3) := by decide +kernel
theorem dX0_peek_36 : decode cX0_peek 36 = .ok (.aload_n 0, 1) := by decide +kernel
theorem dX0_peek_37 : decode cX0_peek 37 = .ok (.getfield 19, 3) := by decide +kernel
theorem dX0_peek_40 : decode cX0_peek 40 = .ok (.caload, 1) := by decide +kernel
theorem dX0_peek_41 : decode cX0_peek 41 = .ok (.ireturn, 1) := by decide +kernel
theorem dX1_init_0 : decode cX1_init 0 = .ok (.aload_n 0, 1) := by decide +kernel
theorem dX1_init_1 : decode cX1_init 1 = .ok (.invokespecial 3, 3) := by decide +kernel
theorem dX1_init_4 : decode cX1_init 4 = .ok (.aload_n 0, 1) := by decide +kernel
theorem dX1_init_5 : decode cX1_init 5 = .ok (.bipush 12, 2) := by decide +kernel
theorem dX1_init_7 : decode cX1_init 7 = .ok (.anewarray 9, 3) := by decide +kernel
theorem dX1_init_10 : decode cX1_init 10 = .ok (.putfield 11, 3) := by decide +kernel
theorem dX1_init_13 : decode cX1_init 13 = .ok (.aload_n 0, 1) := by decide +kernel
theorem dX1_init_14 : decode cX1_init 14 = .ok (.bipush 30, 2) := by decide +kernel
theorem dX1_init_16 : decode cX1_init 16 = .ok (.newarray .int, 2) := by decide +kernel
theorem dX1_init_18 : decode cX1_init 18 = .ok (.putfield 17, 3) := by decide +kernel
theorem dX1_init_21 : decode cX1_init 21 = .ok (.aload_n 0, 1) := by decide +kernel
theorem dX1_init_22 : decode cX1_init 22 = .ok (.iconst 0, 1) := by decide +kernel
theorem dX1_init_23 : decode cX1_init 23 = .ok (.putfield 21, 3) := by decide +kernel
theorem dX1_init_26 : decode cX1_init 26 = .ok (.aload_n 0, 1) := by decide +kernel
theorem dX1_init_27 : decode cX1_init 27 = .ok (.iconst 0, 1) := by decide +kernel
theorem dX1_init_28 : decode cX1_init 28 = .ok (.putfield 25, 3) := by decide +kernel
theorem dX1_init_31 : decode cX1_init 31 = .ok (.aload_n 0, 1) := by decide +kernel
theorem dX1_init_32 : decode cX1_init 32 = .ok (.iconst 0, 1) := by decide +kernel
theorem dX1_init_33 : decode cX1_init 33 = .ok (.putfield 28, 3) := by decide +kernel
theorem dX1_init_36 : decode cX1_init 36 = .ok (.aload_n 0, 1) := by decide +kernel
theorem dX1_init_37 : decode cX1_init 37 = .ok (.iconst 3, 1) := by decide +kernel
theorem dX1_init_38 : decode cX1_init 38 = .ok (.putfield 31, 3) := by decide +kernel
theorem dX1_init_41 : decode cX1_init 41 = .ok (.aload_n 0, 1) := by decide +kernel
theorem dX1_init_42 : decode cX1_init 42 = .ok (.iconst 3, 1) := by decide +kernel
theorem dX1_init_43 : decode cX1_init 43 = .ok (.putfield 34, 3) := by decide +kernel
theorem dX1_init_46 : decode cX1_init 46 = .ok (.iconst 0, 1) := by decide +kernel
theorem dX1_init_47 : decode cX1_init 47 = .ok (.istore_n 1, 1) := by decide +kernel
theorem dX1_init_48 : decode cX1_init 48 = .ok (.iload_n 1, 1) := by decide +kernel
theorem dX1_init_49 : decode cX1_init 49 = .ok (.aload_n 0, 1) := by decide +kernel
theorem dX1_init_50 : decode cX1_init 50 = .ok (.getfield 11, 3) := by decide +kernel
theorem dX1_init_53 : decode cX1_init 53 = .ok (.arraylength, 1) := by decide +kernel
theorem dX1_init_54 : decode cX1_init 54 = .ok (.if_icmp .ge 23, 3) := by decide +kernel
theorem dX1_init_57 : decode cX1_init 57 = .ok (.aload_n 0, 1) := by decide +kernel
theorem dX1_init_58 : decode cX1_init 58 = .ok (.getfield 11, 3) := by decide +kernel
theorem dX1_init_61 : decode cX1_init 61 = .ok (.iload_n 1, 1) := by decide +kernel
theorem dX1_init_62 : decode cX1_init 62 = .ok (.new 9, 3) := by decide +kernel
theorem dX1_init_65 : decode cX1_init 65 = .ok (.dup, 1) := by decide +kernel
theorem dX1_init_66 : decode cX1_init 66 = .ok (.iload_n 1, 1) := by decide +kernel
theorem dX1_init_67 : decode cX1_init 67 = .ok (.invokespecial 37, 3) := by decide +kernel
theorem dX1_init_70 : decode cX1_init 70 = .ok (.aastore, 1) := by decide +kernel
theorem dX1_init_71 : decode cX1_init 71 = .ok (.iinc 1 1, 3) := by decide +kernel
theorem dX1_init_74 : decode cX1_init 74 = .ok (.goto (-26), 3) := by decide +kernel
theorem dX1_init_77 : decode cX1_init 77 = .ok (.aload_n 0, 1) := by decide +kernel
theorem dX1_init_78 : decode cX1_init 78 = .ok (.getfield 17, 3) := by decide +kernel
theorem dX1_init_81 : decode cX1_init 81 = .ok (.iconst (-1), 1) := by decide +kernel
theorem dX1_init_82 : decode cX1_init 82 = .ok (.invokestatic 40, 3) := by decide +kernel
theorem dX1_init_85 : decode cX1_init 85 = .ok (.return_, 1) := by decide +kernel
theorem dX1_copyFrom_0 : decode cX1_copyFrom 0 = .ok (.iconst 0, 1) := by decide +kernel
theorem dX1_copyFrom_1 : decode cX1_copyFrom 1 = .ok (.istore_n 2, 1) := by decide +kernel
theorem dX1_copyFrom_2 : decode cX1_copyFrom 2 = .ok (.iload_n 2, 1) := by decide +kernel
theorem dX1_copyFrom_3 : decode cX1_copyFrom 3 = .ok (.aload_n 0, 1) := by decide +kernel
theorem dX1_copyFrom_4 : decode cX1_copyFrom 4 = .ok (.getfield 11, 3) := by decide +kernel
theorem dX1_copyFrom_7 : decode cX1_copyFrom 7 = .ok (.arraylength, 1) := by decide +kernel
theorem dX1_copyFrom_8 : decode cX1_copyFrom 8 = .ok (.if_icmp .ge 48, 3) := by decide +kernel
theorem dX1_copyFrom_11 : decode cX1_copyFrom 11 = .ok (.iload_n 2, 1) := by decide +kernel
theorem dX1_copyFrom_12 : decode cX1_copyFrom 12 = .ok (.aload_n 1, 1) := by decide +kernel
theorem dX1_copyFrom_13 : decode cX1_copyFrom 13 = .ok (.getfield 11, 3) := by decide +kernel
theorem dX1_copyFrom_16 : decode cX1_copyFrom 16 = .ok (.arraylength, 1) := by decide +kernel
theorem dX1_copyFrom_17 : decode cX1_copyFrom 17 = .ok (.if_icmp .ge 39, 3) := by decide +kernel
theorem dX1_copyFrom_20 : decode cX1_copyFrom 20 = .ok (.aload_n 0, 1) := by decide +kernel
theorem dX1_copyFrom_21 : decode cX1_copyFrom 21 = .ok (.getfield 11, 3) := by decide +kernel
theorem dX1_copyFrom_24 : decode cX1_copyFrom 24 = .ok (.iload_n 2, 1) := by decide +kernel
theorem dX1_copyFrom_25 : decode cX1_copyFrom 25 = .ok (.aaload, 1) := by decide +kernel
theorem dX1_copyFrom_26 : decode cX1_copyFrom 26 = .ok (.astore_n 3, 1) := by decide +kernel
theorem dX1_copyFrom_27 : decode cX1_copyFrom 27 = .ok (.aload_n 1, 1) := by decide +kernel
theorem dX1_copyFrom_28 : decode cX1_copyFrom 28 = .ok (.getfield 11, 3) := by decide +kernel
theorem dX1_copyFrom_31 : decode cX1_copyFrom 31 = .ok (.iload_n 2, 1) := by decide +kernel
theorem dX1_copyFrom_32 : decode cX1_copyFrom 32 = .ok (.aaload, 1) := by decide +kernel
theorem dX1_copyFrom_33 : decode cX1_copyFrom 33 = .ok (.astore 4, 2) := by decide +kernel
theorem dX1_copyFrom_35 : decode cX1_copyFrom 35 = .ok (.aload_n 3, 1) := by decide +kernel
theorem dX1_copyFrom_36 : decode cX1_copyFrom 36 = .ok (.ifnull 14, 3) := by decide +kernel
theorem dX1_copyFrom_39 : decode cX1_copyFrom 39 = .ok (.aload 4, 2) := by decide +kernel
theorem dX1_copyFrom_41 : decode cX1_copyFrom 41 = .ok (.ifnull 9, 3) := by decide +kernel
theorem dX1_copyFrom_44 : decode cX1_copyFrom 44 = .ok (.aload_n 3, 1) := by decide +kernel
theorem dX1_copyFrom_45 : decode cX1_copyFrom 45 = .ok (.aload 4, 2) := by decide +kernel
theorem dX1_copyFrom_47 : decode cX1_copyFrom 47 = .ok (.invokevirtual 46, 3) := by decide +kernel
theorem dX1_copyFrom_50 : decode cX1_copyFrom 50 = .ok (.iinc 2 1, 3) := by decide +kernel
theorem dX1_copyFrom_53 : decode cX1_copyFrom 53 = .ok (.goto (-51), 3) := by decide +kernel
theorem dX1_copyFrom_56 : decode cX1_copyFrom 56 = .ok (.iconst 0, 1) := by decide +kernel
theorem dX1_copyFrom_57 : decode cX1_copyFrom 57 = .ok (.istore_n 2, 1) := by decide +kernel
theorem dX1_copyFrom_58 : decode cX1_copyFrom 58 = .ok (.iload_n 2, 1) := by decide +kernel
theorem dX1_copyFrom_59 : decode cX1_copyFrom 59 = .ok (.aload_n 0, 1) := by decide +kernel
theorem dX1_copyFrom_60 : decode cX1_copyFrom 60 = .ok (.getfield 17, 3) := by decide +kernel
theorem dX1_copyFrom_63 : decode cX1_copyFrom 63 = .ok (.arraylength, 1) := by decide +kernel
theorem dX1_copyFrom_64 : decode cX1_copyFrom 64 = .ok (.if_icmp .ge 30, 3) := by decide +kernel
theorem dX1_copyFrom_67 : decode cX1_copyFrom 67 = .ok (.iload_n 2, 1) := by decide +kernel
theorem dX1_copyFrom_68 : decode cX1_copyFrom 68 = .ok (.aload_n 1, 1) := by decide +kernel
theorem dX1_copyFrom_69 : decode cX1_copyFrom 69 = .ok (.getfield 17, 3) := by decide +kernel
theorem dX1_copyFrom_72 : decode cX1_copyFrom 72 = .ok (.arraylength, 1) := by decide +kernel
theorem dX1_copyFrom_73 : decode cX1_copyFrom 73 = .ok (.if_icmp .ge 21, 3) := by decide +kernel
theorem dX1_copyFrom_76 : decode cX1_copyFrom 76 = .ok (.aload_n 0, 1) := by decide +kernel
theorem dX1_copyFrom_77 : decode cX1_copyFrom 77 = .ok (.getfield 17, 3) := by decide +kernel
theorem dX1_copyFrom_80 : decode cX1_copyFrom 80 = .ok (.iload_n 2, 1) := by decide +kernel
theorem dX1_copyFrom_81 : decode cX1_copyFrom 81 = .ok (.aload_n 1, 1) := by decide +kernel
theorem dX1_copyFrom_82 : decode cX1_copyFrom 82 = .ok (.getfield 17, 3) := by decide +kernel
theorem dX1_copyFrom_85 : decode cX1_copyFrom 85 = .ok (.iload_n 2, 1) := by decide +kernel
theorem dX1_copyFrom_86 : decode cX1_copyFrom 86 = .ok (.iaload, 1) := by decide +kernel
theorem dX1_copyFrom_87 : decode cX1_copyFrom 87 = .ok (.iastore, 1) := by decide +kernel
theorem dX1_copyFrom_88 : decode cX1_copyFrom 88 = .ok (.iinc 2 1, 3) := by decide +kernel
theorem dX1_copyFrom_91 : decode cX1_copyFrom 91 = .ok (.goto (-33), 3) := by decide +kernel
theorem dX1_copyFrom_94 : decode cX1_copyFrom 94 = .ok (.aload_n 0, 1) := by decide +kernel
theorem dX1_copyFrom_95 : decode cX1_copyFrom 95 = .ok (.aload_n 1, 1) := by decide +kernel
theorem dX1_copyFrom_96 : decode cX1_copyFrom 96 = .ok (.getfield 21, 3) := by decide +kernel
theorem dX1_copyFrom_99 : decode cX1_copyFrom 99 = .ok (.putfield 21, 3) := by decide +kernel
theorem dX1_copyFrom_102 : decode cX1_copyFrom 102 = .ok (.aload_n 0, 1) := by decide +kernel
theorem dX1_copyFrom_103 : decode cX1_copyFrom 103 = .ok (.aload_n 1, 1) := by decide +kernel
theorem dX1_copyFrom_104 : decode cX1_copyFrom 104 = .ok (.getfield 25, 3) := by decide +kernel
theorem dX1_copyFrom_107 : decode cX1_copyFrom 107 = .ok (.putfield 25, 3) := by decide +kernel
theorem dX1_copyFrom_110 : decode cX1_copyFrom 110 = .ok (.aload_n 0, 1) := by decide +kernel
theorem dX1_copyFrom_111 : decode cX1_copyFrom 111 = .ok (.aload_n 1, 1) := by decide +kernel
theorem dX1_copyFrom_112 : decode cX1_copyFrom 112 = .ok (.getfield 28, 3) := by decide +kernel
theorem dX1_copyFrom_115 : decode cX1_copyFrom 115 = .ok (.putfield 28, 3) := by decide +kernel
theorem dX1_copyFrom_118 : decode cX1_copyFrom 118 = .ok (.aload_n 0, 1) := by decide +kernel
theorem dX1_copyFrom_119 : decode cX1_copyFrom 119 = .ok (.aload_n 1, 1) := by decide +kernel
theorem dX1_copyFrom_120 : decode cX1_copyFrom 120 = .ok (.getfield 31, 3) := by decide +kernel
theorem dX1_copyFrom_123 : decode cX1_copyFrom 123 = .ok (.putfield 31, 3) := by decide +kernel
theorem dX1_copyFrom_126 : decode cX1_copyFrom 126 = .ok (.aload_n 0, 1) := by decide +kernel
theorem dX1_copyFrom_127 : decode cX1_copyFrom 127 = .ok (.aload_n 1, 1) := by decide +kernel
theorem dX1_copyFrom_128 : decode cX1_copyFrom 128 = .ok (.getfield 34, 3) := by decide +kernel
theorem dX1_copyFrom_131 : decode cX1_copyFrom 131 = .ok (.putfield 34, 3) := by decide +kernel
theorem dX1_copyFrom_134 : decode cX1_copyFrom 134 = .ok (.return_, 1) := by decide +kernel
theorem dX1_line_0 : decode cX1_line 0 = .ok (.iload_n 1, 1) := by decide +kernel
theorem dX1_line_1 : decode cX1_line 1 = .ok (.ifCond .lt 20, 3) := by decide +kernel
theorem dX1_line_4 : decode cX1_line 4 = .ok (.iload_n 1, 1) := by decide +kernel
theorem dX1_line_5 : decode cX1_line 5 = .ok (.aload_n 0, 1) := by decide +kernel
theorem dX1_line_6 : decode cX1_line 6 = .ok (.getfield 21, 3) := by decide +kernel
theorem dX1_line_9 : decode cX1_line 9 = .ok (.if_icmp .ge 12, 3) := by decide +kernel
theorem dX1_line_12 : decode cX1_line 12 = .ok (.iload_n 1, 1) := by decide +kernel
theorem dX1_line_13 : decode cX1_line 13 = .ok (.aload_n 0, 1) := by decide +kernel
theorem dX1_line_14 : decode cX1_line 14 = .ok (.getfield 11, 3) := by decide +kernel
theorem dX1_line_17 : decode cX1_line 17 = .ok (.arraylength, 1) := by decide +kernel
theorem dX1_line_18 : decode cX1_line 18 = .ok (.if_icmp .lt 5, 3) := by decide +kernel
theorem dX1_line_21 : decode cX1_line 21 = .ok (.aconst_null, 1) := by decide +kernel
theorem dX1_line_22 : decode cX1_line 22 = .ok (.areturn, 1) := by decide +kernel
theorem dX1_line_23 : decode cX1_line 23 = .ok (.aload_n 0, 1) := by decide +kernel
theorem dX1_line_24 : decode cX1_line 24 = .ok (.getfield 11, 3) := by decide +kernel
theorem dX1_line_27 : decode cX1_line 27 = .ok (.iload_n 1, 1) := by decide +kernel
theorem dX1_line_28 : decode cX1_line 28 = .ok (.aaload, 1) := by decide +kernel
theorem dX1_line_29 : decode cX1_line 29 = .ok (.areturn, 1) := by decide +kernel
theorem dX1_occupant_0 : decode cX1_occupant 0 = .ok (.iload_n 1, 1) := by decide +kernel
theorem dX1_occupant_1 : decode cX1_occupant 1 = .ok (.invokestatic 50, 3) := by decide +kernel
theorem dX1_occupant_4 : decode cX1_occupant 4 = .ok (.ifCond .eq 10, 3) := by decide +kernel
theorem dX1_occupant_7 : decode cX1_occupant 7 = .ok (.iload_n 2, 1) := by decide +kernel
theorem dX1_occupant_8 : decode cX1_occupant 8 = .ok (.invokestatic 54, 3) := by decide +kernel
theorem dX1_occupant_11 : decode cX1_occupant 11 = .ok (.ifCond .ne 5, 3) := by decide +kernel
theorem dX1_occupant_14 : decode cX1_occupant 14 = .ok (.aconst_null, 1) := by decide +kernel
theorem dX1_occupant_15 : decode cX1_occupant 15 = .ok (.areturn, 1) := by decide +kernel
theorem dX1_occupant_16 : decode cX1_occupant 16 = .ok (.iload_n 1, 1) := by decide +kernel
theorem dX1_occupant_17 : decode cX1_occupant 17 = .ok (.bipush 10, 2) := by decide +kernel
theorem dX1_occupant_19 : decode cX1_occupant 19 = .ok (.imul, 1) := by decide +kernel
theorem dX1_occupant_20 : decode cX1_occupant 20 = .ok (.iload_n 2, 1) := by decide +kernel
theorem dX1_occupant_21 : decode cX1_occupant 21 = .ok (.iadd, 1) := by decide +kernel
theorem dX1_occupant_22 : decode cX1_occupant 22 = .ok (.istore_n 3, 1) := by decide +kernel
theorem dX1_occupant_23 : decode cX1_occupant 23 = .ok (.iload_n 3, 1) := by decide +kernel
theorem dX1_occupant_24 : decode cX1_occupant 24 = .ok (.ifCond .lt 12, 3) := by decide +kernel
theorem dX1_occupant_27 : decode cX1_occupant 27 = .ok (.iload_n 3, 1) := by decide +kernel
theorem dX1_occupant_28 : decode cX1_occupant 28 = .ok (.aload_n 0, 1) := by decide +kernel
theorem dX1_occupant_29 : decode cX1_occupant 29 = .ok (.getfield 17, 3) := by decide +kernel
theorem dX1_occupant_32 : decode cX1_occupant 32 = .ok (.arraylength, 1) := by decide +kernel
theorem dX1_occupant_33 : decode cX1_occupant 33 = .ok (.if_icmp .lt 5, 3) := by decide +kernel
theorem dX1_occupant_36 : decode cX1_occupant 36 = .ok (.aconst_null, 1) := by decide +kernel
theorem dX1_occupant_37 : decode cX1_occupant 37 = .ok (.areturn, 1) := by decide +kernel
theorem dX1_occupant_38 : decode cX1_occupant 38 = .ok (.aload_n 0, 1) := by decide +kernel
theorem dX1_occupant_39 : decode cX1_occupant 39 = .ok (.aload_n 0, 1) := by decide +kernel
theorem dX1_occupant_40 : decode cX1_occupant 40 = .ok (.getfield 17, 3) := by decide +kernel
theorem dX1_occupant_43 : decode cX1_occupant 43 = .ok (.iload_n 3, 1) := by decide +kernel
theorem dX1_occupant_44 : decode cX1_occupant 44 = .ok (.iaload, 1) := by decide +kernel
theorem dX1_occupant_45 : decode cX1_occupant 45 = .ok (.invokevirtual 57, 3) := by decide +kernel
theorem dX1_occupant_48 : decode cX1_occupant 48 = .ok (.areturn, 1) := by decide +kernel
theorem dX1_putInto_0 : decode cX1_putInto 0 = .ok (.iload_n 1, 1) := by decide +kernel
theorem dX1_putInto_1 : decode cX1_putInto 1 = .ok (.bipush 10, 2) := by decide +kernel
theorem dX1_putInto_3 : decode cX1_putInto 3 = .ok (.imul, 1) := by decide +kernel
theorem dX1_putInto_4 : decode cX1_putInto 4 = .ok (.iload_n 2, 1) := by decide +kernel
theorem dX1_putInto_5 : decode cX1_putInto 5 = .ok (.iadd, 1) := by decide +kernel
theorem dX1_putInto_6 : decode cX1_putInto 6 = .ok (.istore 4, 2) := by decide +kernel
theorem dX1_putInto_8 : decode cX1_putInto 8 = .ok (.iload 4, 2) := by decide +kernel
theorem dX1_putInto_10 : decode cX1_putInto 10 = .ok (.ifCond .lt 21, 3) := by decide +kernel
theorem dX1_putInto_13 : decode cX1_putInto 13 = .ok (.iload 4, 2) := by decide +kernel
theorem dX1_putInto_15 : decode cX1_putInto 15 = .ok (.aload_n 0, 1) := by decide +kernel
theorem dX1_putInto_16 : decode cX1_putInto 16 = .ok (.getfield 17, 3) := by decide +kernel
theorem dX1_putInto_19 : decode cX1_putInto 19 = .ok (.arraylength, 1) := by decide +kernel
theorem dX1_putInto_20 : decode cX1_putInto 20 = .ok (.if_icmp .ge 11, 3) := by decide +kernel
theorem dX1_putInto_23 : decode cX1_putInto 23 = .ok (.aload_n 0, 1) := by decide +kernel
theorem dX1_putInto_24 : decode cX1_putInto 24 = .ok (.getfield 17, 3) := by decide +kernel
theorem dX1_putInto_27 : decode cX1_putInto 27 = .ok (.iload 4, 2) := by decide +kernel
theorem dX1_putInto_29 : decode cX1_putInto 29 = .ok (.iload_n 3, 1) := by decide +kernel
theorem dX1_putInto_30 : decode cX1_putInto 30 = .ok (.iastore, 1) := by decide +kernel
theorem dX1_putInto_31 : decode cX1_putInto 31 = .ok (.return_, 1) := by decide +kernel
theorem dX1_jars_0 : decode cX1_jars 0 = .ok (.iload_n 1, 1) := by decide +kernel
theorem dX1_jars_1 : decode cX1_jars 1 = .ok (.ifCond .ne 10, 3) := by decide +kernel
theorem dX1_jars_4 : decode cX1_jars 4 = .ok (.aload_n 0, 1) := by decide +kernel
theorem dX1_jars_5 : decode cX1_jars 5 = .ok (.getfield 31, 3) := by decide +kernel
theorem dX1_jars_8 : decode cX1_jars 8 = .ok (.goto 7, 3) := by decide +kernel
theorem dX1_jars_11 : decode cX1_jars 11 = .ok (.aload_n 0, 1) := by decide +kernel
theorem dX1_jars_12 : decode cX1_jars 12 = .ok (.getfield 34, 3) := by decide +kernel
theorem dX1_jars_15 : decode cX1_jars 15 = .ok (.ireturn, 1) := by decide +kernel
theorem dX1_faultOfAdding_0 : decode cX1_faultOfAdding 0 = .ok (.iload_n 1, 1) := by decide +kernel
theorem dX1_faultOfAdding_1 : decode cX1_faultOfAdding 1 = .ok (.invokestatic 61, 3) := by decide +kernel
theorem dX1_faultOfAdding_4 : decode cX1_faultOfAdding 4 = .ok (.ifCond .eq 32, 3) := by decide +kernel
theorem dX1_faultOfAdding_7 : decode cX1_faultOfAdding 7 = .ok (.iload_n 2, 1) := by decide +kernel
theorem dX1_faultOfAdding_8 : decode cX1_faultOfAdding 8 = .ok (.invokestatic 50, 3) := by decide +kernel
theorem dX1_faultOfAdding_11 : decode cX1_faultOfAdding 11 = .ok (.ifCond .eq 25, 3) := by decide +kernel
theorem dX1_faultOfAdding_14 : decode cX1_faultOfAdding 14 = .ok (.ldc 64, 2) := by decide +kernel
theorem dX1_faultOfAdding_16 : decode cX1_faultOfAdding 16 = .ok (.iload_n 3, 1) := by decide +kernel
theorem dX1_faultOfAdding_17 : decode cX1_faultOfAdding 17 = .ok (.invokevirtual 66, 3) := by decide +kernel
theorem dX1_faultOfAdding_20 : decode cX1_faultOfAdding 20 = .ok (.ifCond .lt 16, 3) := by decide +kernel
theorem dX1_faultOfAdding_23 : decode cX1_faultOfAdding 23 = .ok (.iload 4, 2) := by decide +kernel
theorem dX1_faultOfAdding_25 : decode cX1_faultOfAdding 25 = .ok (.iconst 1, 1) := by decide +kernel
theorem dX1_faultOfAdding_26 : decode cX1_faultOfAdding 26 = .ok (.if_icmp .lt 10, 3) := by decide +kernel
theorem dX1_faultOfAdding_29 : decode cX1_faultOfAdding 29 = .ok (.iload 4, 2) := by decide +kernel
theorem dX1_faultOfAdding_31 : decode cX1_faultOfAdding 31 = .ok (.bipush 99, 2) := by decide +kernel
theorem dX1_faultOfAdding_33 : decode cX1_faultOfAdding 33 = .ok (.if_icmp .le 5, 3) := by decide +kernel
theorem dX1_faultOfAdding_36 : decode cX1_faultOfAdding 36 = .ok (.iconst 1, 1) := by decide +kernel
theorem dX1_faultOfAdding_37 : decode cX1_faultOfAdding 37 = .ok (.ireturn, 1) := by decide +kernel
theorem dX1_faultOfAdding_38 : decode cX1_faultOfAdding 38 = .ok (.aload_n 0, 1) := by decide +kernel
theorem dX1_faultOfAdding_39 : decode cX1_faultOfAdding 39 = .ok (.getfield 21, 3) := by decide +kernel
theorem dX1_faultOfAdding_42 : decode cX1_faultOfAdding 42 = .ok (.bipush 12, 2) := by decide +kernel
theorem dX1_faultOfAdding_44 : decode cX1_faultOfAdding 44 = .ok (.if_icmp .lt 5, 3) := by decide +kernel
theorem dX1_faultOfAdding_47 : decode cX1_faultOfAdding 47 = .ok (.iconst 3, 1) := by decide +kernel
theorem dX1_faultOfAdding_48 : decode cX1_faultOfAdding 48 = .ok (.ireturn, 1) := by decide +kernel
theorem dX1_faultOfAdding_49 : decode cX1_faultOfAdding 49 = .ok (.aload_n 0, 1) := by decide +kernel
theorem dX1_faultOfAdding_50 : decode cX1_faultOfAdding 50 = .ok (.iload_n 2, 1) := by decide +kernel
theorem dX1_faultOfAdding_51 : decode cX1_faultOfAdding 51 = .ok (.iload_n 1, 1) := by decide +kernel
theorem dX1_faultOfAdding_52 : decode cX1_faultOfAdding 52 = .ok (.invokestatic 72, 3) := by decide +kernel
theorem dX1_faultOfAdding_55 : decode cX1_faultOfAdding 55 = .ok (.invokevirtual 75, 3) := by decide +kernel
theorem dX1_faultOfAdding_58 : decode cX1_faultOfAdding 58 = .ok (.ifnonnull 7, 3) := by decide +kernel
theorem dX1_faultOfAdding_61 : decode cX1_faultOfAdding 61 = .ok (.iconst 0, 1) := by decide +kernel
theorem dX1_faultOfAdding_62 : decode cX1_faultOfAdding 62 = .ok (.goto 4, 3) := by decide +kernel
theorem dX1_faultOfAdding_65 : decode cX1_faultOfAdding 65 = .ok (.iconst 4, 1) := by decide +kernel
theorem dX1_faultOfAdding_66 : decode cX1_faultOfAdding 66 = .ok (.ireturn, 1) := by decide +kernel
theorem dX1_add_0 : decode cX1_add 0 = .ok (.aload_n 0, 1) := by decide +kernel
theorem dX1_add_1 : decode cX1_add 1 = .ok (.getfield 21, 3) := by decide +kernel
theorem dX1_add_4 : decode cX1_add 4 = .ok (.istore 5, 2) := by decide +kernel
theorem dX1_add_6 : decode cX1_add 6 = .ok (.aload_n 0, 1) := by decide +kernel
theorem dX1_add_7 : decode cX1_add 7 = .ok (.dup, 1) := by decide +kernel
theorem dX1_add_8 : decode cX1_add 8 = .ok (.getfield 21, 3) := by decide +kernel
theorem dX1_add_11 : decode cX1_add 11 = .ok (.iconst 1, 1) := by decide +kernel
theorem dX1_add_12 : decode cX1_add 12 = .ok (.iadd, 1) := by decide +kernel
theorem dX1_add_13 : decode cX1_add 13 = .ok (.putfield 21, 3) := by decide +kernel
theorem dX1_add_16 : decode cX1_add 16 = .ok (.aload_n 0, 1) := by decide +kernel
theorem dX1_add_17 : decode cX1_add 17 = .ok (.iload 5, 2) := by decide +kernel
theorem dX1_add_19 : decode cX1_add 19 = .ok (.invokevirtual 57, 3) := by decide +kernel
theorem dX1_add_22 : decode cX1_add 22 = .ok (.astore 6, 2) := by decide +kernel
theorem dX1_add_24 : decode cX1_add 24 = .ok (.aload 6, 2) := by decide +kernel
theorem dX1_add_26 : decode cX1_add 26 = .ok (.ifnonnull 5, 3) := by decide +kernel
theorem dX1_add_29 : decode cX1_add 29 = .ok (.iconst (-1), 1) := by decide +kernel
theorem dX1_add_30 : decode cX1_add 30 = .ok (.ireturn, 1) := by decide +kernel
theorem dX1_add_31 : decode cX1_add 31 = .ok (.aload 6, 2) := by decide +kernel
theorem dX1_add_33 : decode cX1_add 33 = .ok (.iload_n 1, 1) := by decide +kernel
theorem dX1_add_34 : decode cX1_add 34 = .ok (.putfield 79, 3) := by decide +kernel
theorem dX1_add_37 : decode cX1_add 37 = .ok (.aload 6, 2) := by decide +kernel
theorem dX1_add_39 : decode cX1_add 39 = .ok (.iload_n 2, 1) := by decide +kernel
theorem dX1_add_40 : decode cX1_add 40 = .ok (.putfield 82, 3) := by decide +kernel
theorem dX1_add_43 : decode cX1_add 43 = .ok (.aload 6, 2) := by decide +kernel
theorem dX1_add_45 : decode cX1_add 45 = .ok (.iload_n 1, 1) := by decide +kernel
theorem dX1_add_46 : decode cX1_add 46 = .ok (.invokestatic 72, 3) := by decide +kernel
theorem dX1_add_49 : decode cX1_add 49 = .ok (.putfield 85, 3) := by decide +kernel
theorem dX1_add_52 : decode cX1_add 52 = .ok (.aload 6, 2) := by decide +kernel
theorem dX1_add_54 : decode cX1_add 54 = .ok (.iload_n 3, 1) := by decide +kernel
theorem dX1_add_55 : decode cX1_add 55 = .ok (.putfield 88, 3) := by decide +kernel
theorem dX1_add_58 : decode cX1_add 58 = .ok (.aload 6, 2) := by decide +kernel
theorem dX1_add_60 : decode cX1_add 60 = .ok (.bipush 104, 2) := by decide +kernel
theorem dX1_add_62 : decode cX1_add 62 = .ok (.putfield 92, 3) := by decide +kernel
theorem dX1_add_65 : decode cX1_add 65 = .ok (.aload 6, 2) := by decide +kernel
theorem dX1_add_67 : decode cX1_add 67 = .ok (.iload 4, 2) := by decide +kernel
theorem dX1_add_69 : decode cX1_add 69 = .ok (.putfield 95, 3) := by decide +kernel
theorem dX1_add_72 : decode cX1_add 72 = .ok (.aload 6, 2) := by decide +kernel
theorem dX1_add_74 : decode cX1_add 74 = .ok (.bipush 10, 2) := by decide +kernel
theorem dX1_add_76 : decode cX1_add 76 = .ok (.putfield 98, 3) := by decide +kernel
theorem dX1_add_79 : decode cX1_add 79 = .ok (.aload 6, 2) := by decide +kernel
theorem dX1_add_81 : decode cX1_add 81 = .ok (.iconst 0, 1) := by decide +kernel
theorem dX1_add_82 : decode cX1_add 82 = .ok (.putfield 101, 3) := by decide +kernel
theorem dX1_add_85 : decode cX1_add 85 = .ok (.aload 6, 2) := by decide +kernel
theorem dX1_add_87 : decode cX1_add 87 = .ok (.iconst 0, 1) := by decide +kernel
theorem dX1_add_88 : decode cX1_add 88 = .ok (.putfield 104, 3) := by decide +kernel
theorem dX1_add_91 : decode cX1_add 91 = .ok (.aload_n 0, 1) := by decide +kernel
theorem dX1_add_92 : decode cX1_add 92 = .ok (.iload_n 2, 1) := by decide +kernel
theorem dX1_add_93 : decode cX1_add 93 = .ok (.aload 6, 2) := by decide +kernel
theorem dX1_add_95 : decode cX1_add 95 = .ok (.getfield 85, 3) := by decide +kernel
theorem dX1_add_98 : decode cX1_add 98 = .ok (.iload 5, 2) := by decide +kernel
theorem dX1_add_100 : decode cX1_add 100 = .ok (.invokevirtual 107, 3) := by decide +kernel
theorem dX1_add_103 : decode cX1_add 103 = .ok (.iload 5, 2) := by decide +kernel
theorem dX1_add_105 : decode cX1_add 105 = .ok (.ireturn, 1) := by decide +kernel
theorem dX1_firstColumn_0 : decode cX1_firstColumn 0 = .ok (.iload_n 0, 1) := by decide +kernel
theorem dX1_firstColumn_1 : decode cX1_firstColumn 1 = .ok (.ifCond .ne 7, 3) := by decide +kernel
theorem dX1_firstColumn_4 : decode cX1_firstColumn 4 = .ok (.iconst 0, 1) := by decide +kernel
theorem dX1_firstColumn_5 : decode cX1_firstColumn 5 = .ok (.goto 5, 3) := by decide +kernel
theorem dX1_firstColumn_8 : decode cX1_firstColumn 8 = .ok (.bipush 9, 2) := by decide +kernel
theorem dX1_firstColumn_10 : decode cX1_firstColumn 10 = .ok (.ireturn, 1) := by decide +kernel
theorem dX1_faultOfOrdering_0 : decode cX1_faultOfOrdering 0 = .ok (.aload_n 0, 1) := by decide +kernel
theorem dX1_faultOfOrdering_1 : decode cX1_faultOfOrdering 1 = .ok (.iload_n 1, 1) := by decide +kernel
theorem dX1_faultOfOrdering_2 : decode cX1_faultOfOrdering 2 = .ok (.invokevirtual 57, 3) := by decide +kernel
theorem dX1_faultOfOrdering_5 : decode cX1_faultOfOrdering 5 = .ok (.astore_n 3, 1) := by decide +kernel
theorem dX1_faultOfOrdering_6 : decode cX1_faultOfOrdering 6 = .ok (.aload_n 3, 1) := by decide +kernel
theorem dX1_faultOfOrdering_7 : decode cX1_faultOfOrdering 7 = .ok (.ifnonnull 5, 3) := by decide +kernel
theorem dX1_faultOfOrdering_10 : decode cX1_faultOfOrdering 10 = .ok (.iconst 2, 1) := by decide +kernel
theorem dX1_faultOfOrdering_11 : decode cX1_faultOfOrdering 11 = .ok (.ireturn, 1) := by decide +kernel
theorem dX1_faultOfOrdering_12 : decode cX1_faultOfOrdering 12 = .ok (.ldc 111, 2) := by decide +kernel
theorem dX1_faultOfOrdering_14 : decode cX1_faultOfOrdering 14 = .ok (.iload_n 2, 1) := by decide +kernel
theorem dX1_faultOfOrdering_15 : decode cX1_faultOfOrdering 15 = .ok (.invokevirtual 66, 3) := by decide +kernel
theorem dX1_faultOfOrdering_18 : decode cX1_faultOfOrdering 18 = .ok (.ifCond .ge 5, 3) := by decide +kernel
theorem dX1_faultOfOrdering_21 : decode cX1_faultOfOrdering 21 = .ok (.iconst 1, 1) := by decide +kernel
theorem dX1_faultOfOrdering_22 : decode cX1_faultOfOrdering 22 = .ok (.ireturn, 1) := by decide +kernel
theorem dX1_faultOfOrdering_23 : decode cX1_faultOfOrdering 23 = .ok (.aload_n 3, 1) := by decide +kernel
theorem dX1_faultOfOrdering_24 : decode cX1_faultOfOrdering 24 = .ok (.invokevirtual 113, 3) := by decide +kernel
theorem dX1_faultOfOrdering_27 : decode cX1_faultOfOrdering 27 = .ok (.ifCond .eq 7, 3) := by decide +kernel
theorem dX1_faultOfOrdering_30 : decode cX1_faultOfOrdering 30 = .ok (.iconst 0, 1) := by decide +kernel
theorem dX1_faultOfOrdering_31 : decode cX1_faultOfOrdering 31 = .ok (.goto 4, 3) := by decide +kernel
theorem dX1_faultOfOrdering_34 : decode cX1_faultOfOrdering 34 = .ok (.iconst 3, 1) := by decide +kernel
theorem dX1_faultOfOrdering_35 : decode cX1_faultOfOrdering 35 = .ok (.ireturn, 1) := by decide +kernel
theorem dX1_giveOrder_0 : decode cX1_giveOrder 0 = .ok (.aload_n 0, 1) := by decide +kernel
theorem dX1_giveOrder_1 : decode cX1_giveOrder 1 = .ok (.iload_n 1, 1) := by decide +kernel
theorem dX1_giveOrder_2 : decode cX1_giveOrder 2 = .ok (.invokevirtual 57, 3) := by decide +kernel
theorem dX1_giveOrder_5 : decode cX1_giveOrder 5 = .ok (.astore_n 3, 1) := by decide +kernel
theorem dX1_giveOrder_6 : decode cX1_giveOrder 6 = .ok (.aload_n 3, 1) := by decide +kernel
theorem dX1_giveOrder_7 : decode cX1_giveOrder 7 = .ok (.ifnonnull 5, 3) := by decide +kernel
theorem dX1_giveOrder_10 : decode cX1_giveOrder 10 = .ok (.iconst 0, 1) := by decide +kernel
theorem dX1_giveOrder_11 : decode cX1_giveOrder 11 = .ok (.ireturn, 1) := by decide +kernel
theorem dX1_giveOrder_12 : decode cX1_giveOrder 12 = .ok (.aload_n 3, 1) := by decide +kernel
theorem dX1_giveOrder_13 : decode cX1_giveOrder 13 = .ok (.getfield 92, 3) := by decide +kernel
theorem dX1_giveOrder_16 : decode cX1_giveOrder 16 = .ok (.istore 4, 2) := by decide +kernel
theorem dX1_giveOrder_18 : decode cX1_giveOrder 18 = .ok (.aload_n 3, 1) := by decide +kernel
theorem dX1_giveOrder_19 : decode cX1_giveOrder 19 = .ok (.iload_n 2, 1) := by decide +kernel
theorem dX1_giveOrder_20 : decode cX1_giveOrder 20 = .ok (.putfield 92, 3) := by decide +kernel
theorem dX1_giveOrder_23 : decode cX1_giveOrder 23 = .ok (.iload 4, 2) := by decide +kernel
theorem dX1_giveOrder_25 : decode cX1_giveOrder 25 = .ok (.ireturn, 1) := by decide +kernel
theorem dX1_faultOfRallying_0 : decode cX1_faultOfRallying 0 = .ok (.aload_n 0, 1) := by decide +kernel
theorem dX1_faultOfRallying_1 : decode cX1_faultOfRallying 1 = .ok (.iload_n 1, 1) := by decide +kernel
theorem dX1_faultOfRallying_2 : decode cX1_faultOfRallying 2 = .ok (.invokevirtual 57, 3) := by decide +kernel
theorem dX1_faultOfRallying_5 : decode cX1_faultOfRallying 5 = .ok (.astore_n 2, 1) := by decide +kernel
theorem dX1_faultOfRallying_6 : decode cX1_faultOfRallying 6 = .ok (.aload_n 2, 1) := by decide +kernel
theorem dX1_faultOfRallying_7 : decode cX1_faultOfRallying 7 = .ok (.ifnonnull 5, 3) := by decide +kernel
theorem dX1_faultOfRallying_10 : decode cX1_faultOfRallying 10 = .ok (.iconst 2, 1) := by decide +kernel
theorem dX1_faultOfRallying_11 : decode cX1_faultOfRallying 11 = .ok (.ireturn, 1) := by decide +kernel
theorem dX1_faultOfRallying_12 : decode cX1_faultOfRallying 12 = .ok (.aload_n 2, 1) := by decide +kernel
theorem dX1_faultOfRallying_13 : decode cX1_faultOfRallying 13 = .ok (.invokevirtual 117, 3) := by decide +kernel
theorem dX1_faultOfRallying_16 : decode cX1_faultOfRallying 16 = .ok (.ifCond .ne 5, 3) := by decide +kernel
theorem dX1_faultOfRallying_19 : decode cX1_faultOfRallying 19 = .ok (.iconst 3, 1) := by decide +kernel
theorem dX1_faultOfRallying_20 : decode cX1_faultOfRallying 20 = .ok (.ireturn, 1) := by decide +kernel
theorem dX1_faultOfRallying_21 : decode cX1_faultOfRallying 21 = .ok (.aload_n 0, 1) := by decide +kernel
theorem dX1_faultOfRallying_22 : decode cX1_faultOfRallying 22 = .ok (.aload_n 2, 1) := by decide +kernel
theorem dX1_faultOfRallying_23 : decode cX1_faultOfRallying 23 = .ok (.getfield 79, 3) := by decide +kernel
theorem dX1_faultOfRallying_26 : decode cX1_faultOfRallying 26 = .ok (.invokevirtual 120, 3) := by decide +kernel
theorem dX1_faultOfRallying_29 : decode cX1_faultOfRallying 29 = .ok (.ifCond .le 7, 3) := by decide +kernel
theorem dX1_faultOfRallying_32 : decode cX1_faultOfRallying 32 = .ok (.iconst 0, 1) := by decide +kernel
theorem dX1_faultOfRallying_33 : decode cX1_faultOfRallying 33 = .ok (.goto 4, 3) := by decide +kernel
theorem dX1_faultOfRallying_36 : decode cX1_faultOfRallying 36 = .ok (.iconst 4, 1) := by decide +kernel
theorem dX1_faultOfRallying_37 : decode cX1_faultOfRallying 37 = .ok (.ireturn, 1) := by decide +kernel
theorem dX1_useJar_0 : decode cX1_useJar 0 = .ok (.aload_n 0, 1) := by decide +kernel
theorem dX1_useJar_1 : decode cX1_useJar 1 = .ok (.iload_n 1, 1) := by decide +kernel
theorem dX1_useJar_2 : decode cX1_useJar 2 = .ok (.invokevirtual 57, 3) := by decide +kernel
theorem dX1_useJar_5 : decode cX1_useJar 5 = .ok (.astore_n 2, 1) := by decide +kernel
theorem dX1_useJar_6 : decode cX1_useJar 6 = .ok (.aload_n 2, 1) := by decide +kernel
theorem dX1_useJar_7 : decode cX1_useJar 7 = .ok (.ifnonnull 5, 3) := by decide +kernel
theorem dX1_useJar_10 : decode cX1_useJar 10 = .ok (.iconst (-1), 1) := by decide +kernel
theorem dX1_useJar_11 : decode cX1_useJar 11 = .ok (.ireturn, 1) := by decide +kernel
theorem dX1_useJar_12 : decode cX1_useJar 12 = .ok (.aload_n 2, 1) := by decide +kernel
theorem dX1_useJar_13 : decode cX1_useJar 13 = .ok (.getfield 79, 3) := by decide +kernel
theorem dX1_useJar_16 : decode cX1_useJar 16 = .ok (.ifCond .ne 16, 3) := by decide +kernel
theorem dX1_useJar_19 : decode cX1_useJar 19 = .ok (.aload_n 0, 1) := by decide +kernel
theorem dX1_useJar_20 : decode cX1_useJar 20 = .ok (.dup, 1) := by decide +kernel
theorem dX1_useJar_21 : decode cX1_useJar 21 = .ok (.getfield 31, 3) := by decide +kernel
theorem dX1_useJar_24 : decode cX1_useJar 24 = .ok (.iconst 1, 1) := by decide +kernel
theorem dX1_useJar_25 : decode cX1_useJar 25 = .ok (.isub, 1) := by decide +kernel
theorem dX1_useJar_26 : decode cX1_useJar 26 = .ok (.putfield 31, 3) := by decide +kernel
theorem dX1_useJar_29 : decode cX1_useJar 29 = .ok (.goto 13, 3) := by decide +kernel
theorem dX1_useJar_32 : decode cX1_useJar 32 = .ok (.aload_n 0, 1) := by decide +kernel
theorem dX1_useJar_33 : decode cX1_useJar 33 = .ok (.dup, 1) := by decide +kernel
theorem dX1_useJar_34 : decode cX1_useJar 34 = .ok (.getfield 34, 3) := by decide +kernel
theorem dX1_useJar_37 : decode cX1_useJar 37 = .ok (.iconst 1, 1) := by decide +kernel
theorem dX1_useJar_38 : decode cX1_useJar 38 = .ok (.isub, 1) := by decide +kernel
theorem dX1_useJar_39 : decode cX1_useJar 39 = .ok (.putfield 34, 3) := by decide +kernel
theorem dX1_useJar_42 : decode cX1_useJar 42 = .ok (.aload_n 2, 1) := by decide +kernel
theorem dX1_useJar_43 : decode cX1_useJar 43 = .ok (.bipush 6, 2) := by decide +kernel
theorem dX1_useJar_45 : decode cX1_useJar 45 = .ok (.invokevirtual 123, 3) := by decide +kernel
theorem dX1_useJar_48 : decode cX1_useJar 48 = .ok (.aload_n 2, 1) := by decide +kernel
theorem dX1_useJar_49 : decode cX1_useJar 49 = .ok (.invokevirtual 126, 3) := by decide +kernel
theorem dX1_useJar_52 : decode cX1_useJar 52 = .ok (.aload_n 2, 1) := by decide +kernel
theorem dX1_useJar_53 : decode cX1_useJar 53 = .ok (.getfield 98, 3) := by decide +kernel
theorem dX1_useJar_56 : decode cX1_useJar 56 = .ok (.ireturn, 1) := by decide +kernel
theorem dX1_passTurn_0 : decode cX1_passTurn 0 = .ok (.aload_n 0, 1) := by decide +kernel
theorem dX1_passTurn_1 : decode cX1_passTurn 1 = .ok (.getfield 28, 3) := by decide +kernel
theorem dX1_passTurn_4 : decode cX1_passTurn 4 = .ok (.istore_n 1, 1) := by decide +kernel
theorem dX1_passTurn_5 : decode cX1_passTurn 5 = .ok (.iconst 0, 1) := by decide +kernel
theorem dX1_passTurn_6 : decode cX1_passTurn 6 = .ok (.istore_n 2, 1) := by decide +kernel
theorem dX1_passTurn_7 : decode cX1_passTurn 7 = .ok (.iload_n 2, 1) := by decide +kernel
theorem dX1_passTurn_8 : decode cX1_passTurn 8 = .ok (.aload_n 0, 1) := by decide +kernel
theorem dX1_passTurn_9 : decode cX1_passTurn 9 = .ok (.getfield 21, 3) := by decide +kernel
theorem dX1_passTurn_12 : decode cX1_passTurn 12 = .ok (.if_icmp .ge 50, 3) := by decide +kernel
theorem dX1_passTurn_15 : decode cX1_passTurn 15 = .ok (.aload_n 0, 1) := by decide +kernel
theorem dX1_passTurn_16 : decode cX1_passTurn 16 = .ok (.iload_n 2, 1) := by decide +kernel
theorem dX1_passTurn_17 : decode cX1_passTurn 17 = .ok (.invokevirtual 57, 3) := by decide +kernel
theorem dX1_passTurn_20 : decode cX1_passTurn 20 = .ok (.astore_n 3, 1) := by decide +kernel
theorem dX1_passTurn_21 : decode cX1_passTurn 21 = .ok (.aload_n 3, 1) := by decide +kernel
theorem dX1_passTurn_22 : decode cX1_passTurn 22 = .ok (.ifnull 18, 3) := by decide +kernel
theorem dX1_passTurn_25 : decode cX1_passTurn 25 = .ok (.aload_n 3, 1) := by decide +kernel
theorem dX1_passTurn_26 : decode cX1_passTurn 26 = .ok (.invokevirtual 113, 3) := by decide +kernel
theorem dX1_passTurn_29 : decode cX1_passTurn 29 = .ok (.ifCond .eq 11, 3) := by decide +kernel
theorem dX1_passTurn_32 : decode cX1_passTurn 32 = .ok (.aload_n 0, 1) := by decide +kernel
theorem dX1_passTurn_33 : decode cX1_passTurn 33 = .ok (.aload_n 3, 1) := by decide +kernel
theorem dX1_passTurn_34 : decode cX1_passTurn 34 = .ok (.invokevirtual 129, 3) := by decide +kernel
theorem dX1_passTurn_37 : decode cX1_passTurn 37 = .ok (.goto 19, 3) := by decide +kernel
theorem dX1_passTurn_40 : decode cX1_passTurn 40 = .ok (.aload_n 3, 1) := by decide +kernel
theorem dX1_passTurn_41 : decode cX1_passTurn 41 = .ok (.ifnull 15, 3) := by decide +kernel
theorem dX1_passTurn_44 : decode cX1_passTurn 44 = .ok (.aload_n 3, 1) := by decide +kernel
theorem dX1_passTurn_45 : decode cX1_passTurn 45 = .ok (.invokevirtual 117, 3) := by decide +kernel
theorem dX1_passTurn_48 : decode cX1_passTurn 48 = .ok (.ifCond .eq 8, 3) := by decide +kernel
theorem dX1_passTurn_51 : decode cX1_passTurn 51 = .ok (.aload_n 0, 1) := by decide +kernel
theorem dX1_passTurn_52 : decode cX1_passTurn 52 = .ok (.aload_n 3, 1) := by decide +kernel
theorem dX1_passTurn_53 : decode cX1_passTurn 53 = .ok (.invokevirtual 132, 3) := by decide +kernel
theorem dX1_passTurn_56 : decode cX1_passTurn 56 = .ok (.iinc 2 1, 3) := by decide +kernel
theorem dX1_passTurn_59 : decode cX1_passTurn 59 = .ok (.goto (-52), 3) := by decide +kernel
theorem dX1_passTurn_62 : decode cX1_passTurn 62 = .ok (.aload_n 0, 1) := by decide +kernel
theorem dX1_passTurn_63 : decode cX1_passTurn 63 = .ok (.dup, 1) := by decide +kernel
theorem dX1_passTurn_64 : decode cX1_passTurn 64 = .ok (.getfield 25, 3) := by decide +kernel
theorem dX1_passTurn_67 : decode cX1_passTurn 67 = .ok (.iconst 1, 1) := by decide +kernel
theorem dX1_passTurn_68 : decode cX1_passTurn 68 = .ok (.iadd, 1) := by decide +kernel
theorem dX1_passTurn_69 : decode cX1_passTurn 69 = .ok (.putfield 25, 3) := by decide +kernel
theorem dX1_passTurn_72 : decode cX1_passTurn 72 = .ok (.aload_n 0, 1) := by decide +kernel
theorem dX1_passTurn_73 : decode cX1_passTurn 73 = .ok (.getfield 28, 3) := by decide +kernel
theorem dX1_passTurn_76 : decode cX1_passTurn 76 = .ok (.iload_n 1, 1) := by decide +kernel
theorem dX1_passTurn_77 : decode cX1_passTurn 77 = .ok (.isub, 1) := by decide +kernel
theorem dX1_passTurn_78 : decode cX1_passTurn 78 = .ok (.ireturn, 1) := by decide +kernel
theorem dX1_retreat_0 : decode cX1_retreat 0 = .ok (.aload_n 1, 1) := by decide +kernel
theorem dX1_retreat_1 : decode cX1_retreat 1 = .ok (.dup, 1) := by decide +kernel
theorem dX1_retreat_2 : decode cX1_retreat 2 = .ok (.getfield 104, 3) := by decide +kernel
theorem dX1_retreat_5 : decode cX1_retreat 5 = .ok (.iconst 1, 1) := by decide +kernel
theorem dX1_retreat_6 : decode cX1_retreat 6 = .ok (.iadd, 1) := by decide +kernel
theorem dX1_retreat_7 : decode cX1_retreat 7 = .ok (.putfield 104, 3) := by decide +kernel
theorem dX1_retreat_10 : decode cX1_retreat 10 = .ok (.aload_n 0, 1) := by decide +kernel
theorem dX1_retreat_11 : decode cX1_retreat 11 = .ok (.aload_n 1, 1) := by decide +kernel
theorem dX1_retreat_12 : decode cX1_retreat 12 = .ok (.aload_n 1, 1) := by decide +kernel
theorem dX1_retreat_13 : decode cX1_retreat 13 = .ok (.invokevirtual 135, 3) := by decide +kernel
theorem dX1_retreat_16 : decode cX1_retreat 16 = .ok (.ineg, 1) := by decide +kernel
theorem dX1_retreat_17 : decode cX1_retreat 17 = .ok (.invokevirtual 139, 3) := by decide +kernel
theorem dX1_retreat_20 : decode cX1_retreat 20 = .ok (.pop, 1) := by decide +kernel
theorem dX1_retreat_21 : decode cX1_retreat 21 = .ok (.aload_n 1, 1) := by decide +kernel
theorem dX1_retreat_22 : decode cX1_retreat 22 = .ok (.iconst 1, 1) := by decide +kernel
theorem dX1_retreat_23 : decode cX1_retreat 23 = .ok (.invokevirtual 123, 3) := by decide +kernel
theorem dX1_retreat_26 : decode cX1_retreat 26 = .ok (.aload_n 1, 1) := by decide +kernel
theorem dX1_retreat_27 : decode cX1_retreat 27 = .ok (.invokevirtual 126, 3) := by decide +kernel
theorem dX1_retreat_30 : decode cX1_retreat 30 = .ok (.return_, 1) := by decide +kernel
theorem dX1_obey_0 : decode cX1_obey 0 = .ok (.aload_n 1, 1) := by decide +kernel
theorem dX1_obey_1 : decode cX1_obey 1 = .ok (.getfield 92, 3) := by decide +kernel
theorem dX1_obey_4 : decode cX1_obey 4 = .ok (.bipush 104, 2) := by decide +kernel
theorem dX1_obey_6 : decode cX1_obey 6 = .ok (.if_icmp .ne 9, 3) := by decide +kernel
theorem dX1_obey_9 : decode cX1_obey 9 = .ok (.aload_n 1, 1) := by decide +kernel
theorem dX1_obey_10 : decode cX1_obey 10 = .ok (.iconst 1, 1) := by decide +kernel
theorem dX1_obey_11 : decode cX1_obey 11 = .ok (.invokevirtual 123, 3) := by decide +kernel
theorem dX1_obey_14 : decode cX1_obey 14 = .ok (.return_, 1) := by decide +kernel
theorem dX1_obey_15 : decode cX1_obey 15 = .ok (.aload_n 0, 1) := by decide +kernel
theorem dX1_obey_16 : decode cX1_obey 16 = .ok (.aload_n 1, 1) := by decide +kernel
theorem dX1_obey_17 : decode cX1_obey 17 = .ok (.aload_n 1, 1) := by decide +kernel
theorem dX1_obey_18 : decode cX1_obey 18 = .ok (.invokevirtual 135, 3) := by decide +kernel
theorem dX1_obey_21 : decode cX1_obey 21 = .ok (.invokevirtual 139, 3) := by decide +kernel
theorem dX1_obey_24 : decode cX1_obey 24 = .ok (.istore_n 2, 1) := by decide +kernel
theorem dX1_obey_25 : decode cX1_obey 25 = .ok (.iload_n 2, 1) := by decide +kernel
theorem dX1_obey_26 : decode cX1_obey 26 = .ok (.ifCond .eq 13, 3) := by decide +kernel
theorem dX1_obey_29 : decode cX1_obey 29 = .ok (.aload_n 1, 1) := by decide +kernel
theorem dX1_obey_30 : decode cX1_obey 30 = .ok (.getfield 92, 3) := by decide +kernel
theorem dX1_obey_33 : decode cX1_obey 33 = .ok (.bipush 97, 2) := by decide +kernel
theorem dX1_obey_35 : decode cX1_obey 35 = .ok (.if_icmp .ne 4, 3) := by decide +kernel
theorem dX1_obey_38 : decode cX1_obey 38 = .ok (.return_, 1) := by decide +kernel
theorem dX1_obey_39 : decode cX1_obey 39 = .ok (.iload_n 2, 1) := by decide +kernel
theorem dX1_obey_40 : decode cX1_obey 40 = .ok (.ifCond .eq 13, 3) := by decide +kernel
theorem dX1_obey_43 : decode cX1_obey 43 = .ok (.aload_n 0, 1) := by decide +kernel
theorem dX1_obey_44 : decode cX1_obey 44 = .ok (.aload_n 1, 1) := by decide +kernel
theorem dX1_obey_45 : decode cX1_obey 45 = .ok (.aload_n 1, 1) := by decide +kernel
theorem dX1_obey_46 : decode cX1_obey 46 = .ok (.invokevirtual 135, 3) := by decide +kernel
theorem dX1_obey_49 : decode cX1_obey 49 = .ok (.invokevirtual 139, 3) := by decide +kernel
theorem dX1_obey_52 : decode cX1_obey 52 = .ok (.pop, 1) := by decide +kernel
theorem dX1_obey_53 : decode cX1_obey 53 = .ok (.aload_n 0, 1) := by decide +kernel
theorem dX1_obey_54 : decode cX1_obey 54 = .ok (.aload_n 1, 1) := by decide +kernel
theorem dX1_obey_55 : decode cX1_obey 55 = .ok (.getfield 82, 3) := by decide +kernel
theorem dX1_obey_58 : decode cX1_obey 58 = .ok (.aload_n 1, 1) := by decide +kernel
theorem dX1_obey_59 : decode cX1_obey 59 = .ok (.getfield 85, 3) := by decide +kernel
theorem dX1_obey_62 : decode cX1_obey 62 = .ok (.aload_n 1, 1) := by decide +kernel
theorem dX1_obey_63 : decode cX1_obey 63 = .ok (.invokevirtual 135, 3) := by decide +kernel
theorem dX1_obey_66 : decode cX1_obey 66 = .ok (.iadd, 1) := by decide +kernel
theorem dX1_obey_67 : decode cX1_obey 67 = .ok (.invokevirtual 75, 3) := by decide +kernel
theorem dX1_obey_70 : decode cX1_obey 70 = .ok (.astore_n 3, 1) := by decide +kernel
theorem dX1_obey_71 : decode cX1_obey 71 = .ok (.aload_n 3, 1) := by decide +kernel
theorem dX1_obey_72 : decode cX1_obey 72 = .ok (.ifnull 21, 3) := by decide +kernel
theorem dX1_obey_75 : decode cX1_obey 75 = .ok (.aload_n 3, 1) := by decide +kernel
theorem dX1_obey_76 : decode cX1_obey 76 = .ok (.getfield 79, 3) := by decide +kernel
theorem dX1_obey_79 : decode cX1_obey 79 = .ok (.aload_n 1, 1) := by decide +kernel
theorem dX1_obey_80 : decode cX1_obey 80 = .ok (.getfield 79, 3) := by decide +kernel
theorem dX1_obey_83 : decode cX1_obey 83 = .ok (.if_icmp .eq 10, 3) := by decide +kernel
theorem dX1_obey_86 : decode cX1_obey 86 = .ok (.aload_n 0, 1) := by decide +kernel
theorem dX1_obey_87 : decode cX1_obey 87 = .ok (.aload_n 1, 1) := by decide +kernel
theorem dX1_obey_88 : decode cX1_obey 88 = .ok (.aload_n 3, 1) := by decide +kernel
theorem dX1_obey_89 : decode cX1_obey 89 = .ok (.iload_n 2, 1) := by decide +kernel
theorem dX1_obey_90 : decode cX1_obey 90 = .ok (.invokevirtual 143, 3) := by decide +kernel
theorem dX1_obey_93 : decode cX1_obey 93 = .ok (.return_, 1) := by decide +kernel
theorem dX1_moveIfFree_0 : decode cX1_moveIfFree 0 = .ok (.aload_n 1, 1) := by decide +kernel
theorem dX1_moveIfFree_1 : decode cX1_moveIfFree 1 = .ok (.getfield 85, 3) := by decide +kernel
theorem dX1_moveIfFree_4 : decode cX1_moveIfFree 4 = .ok (.iload_n 2, 1) := by decide +kernel
theorem dX1_moveIfFree_5 : decode cX1_moveIfFree 5 = .ok (.iadd, 1) := by decide +kernel
theorem dX1_moveIfFree_6 : decode cX1_moveIfFree 6 = .ok (.istore_n 3, 1) := by decide +kernel
theorem dX1_moveIfFree_7 : decode cX1_moveIfFree 7 = .ok (.iload_n 3, 1) := by decide +kernel
theorem dX1_moveIfFree_8 : decode cX1_moveIfFree 8 = .ok (.invokestatic 54, 3) := by decide +kernel
theorem dX1_moveIfFree_11 : decode cX1_moveIfFree 11 = .ok (.ifCond .eq 15, 3) := by decide +kernel
theorem dX1_moveIfFree_14 : decode cX1_moveIfFree 14 = .ok (.aload_n 0, 1) := by decide +kernel
theorem dX1_moveIfFree_15 : decode cX1_moveIfFree 15 = .ok (.aload_n 1, 1) := by decide +kernel
theorem dX1_moveIfFree_16 : decode cX1_moveIfFree 16 = .ok (.getfield 82, 3) := by decide +kernel
theorem dX1_moveIfFree_19 : decode cX1_moveIfFree 19 = .ok (.iload_n 3, 1) := by decide +kernel
theorem dX1_moveIfFree_20 : decode cX1_moveIfFree 20 = .ok (.invokevirtual 75, 3) := by decide +kernel
theorem dX1_moveIfFree_23 : decode cX1_moveIfFree 23 = .ok (.ifnull 5, 3) := by decide +kernel
theorem dX1_moveIfFree_26 : decode cX1_moveIfFree 26 = .ok (.iconst 0, 1) := by decide +kernel
theorem dX1_moveIfFree_27 : decode cX1_moveIfFree 27 = .ok (.ireturn, 1) := by decide +kernel
theorem dX1_moveIfFree_28 : decode cX1_moveIfFree 28 = .ok (.aload_n 0, 1) := by decide +kernel
theorem dX1_moveIfFree_29 : decode cX1_moveIfFree 29 = .ok (.aload_n 1, 1) := by decide +kernel
theorem dX1_moveIfFree_30 : decode cX1_moveIfFree 30 = .ok (.getfield 82, 3) := by decide +kernel
theorem dX1_moveIfFree_33 : decode cX1_moveIfFree 33 = .ok (.aload_n 1, 1) := by decide +kernel
theorem dX1_moveIfFree_34 : decode cX1_moveIfFree 34 = .ok (.getfield 85, 3) := by decide +kernel
theorem dX1_moveIfFree_37 : decode cX1_moveIfFree 37 = .ok (.iconst (-1), 1) := by decide +kernel
theorem dX1_moveIfFree_38 : decode cX1_moveIfFree 38 = .ok (.invokevirtual 107, 3) := by decide +kernel
theorem dX1_moveIfFree_41 : decode cX1_moveIfFree 41 = .ok (.aload_n 1, 1) := by decide +kernel
theorem dX1_moveIfFree_42 : decode cX1_moveIfFree 42 = .ok (.iload_n 3, 1) := by decide +kernel
theorem dX1_moveIfFree_43 : decode cX1_moveIfFree 43 = .ok (.putfield 85, 3) := by decide +kernel
theorem dX1_moveIfFree_46 : decode cX1_moveIfFree 46 = .ok (.aload_n 0, 1) := by decide +kernel
theorem dX1_moveIfFree_47 : decode cX1_moveIfFree 47 = .ok (.aload_n 1, 1) := by decide +kernel
theorem dX1_moveIfFree_48 : decode cX1_moveIfFree 48 = .ok (.getfield 82, 3) := by decide +kernel
theorem dX1_moveIfFree_51 : decode cX1_moveIfFree 51 = .ok (.iload_n 3, 1) := by decide +kernel
theorem dX1_moveIfFree_52 : decode cX1_moveIfFree 52 = .ok (.aload_n 1, 1) := by decide +kernel
theorem dX1_moveIfFree_53 : decode cX1_moveIfFree 53 = .ok (.getfield 147, 3) := by decide +kernel
theorem dX1_moveIfFree_56 : decode cX1_moveIfFree 56 = .ok (.invokevirtual 107, 3) := by decide +kernel
theorem dX1_moveIfFree_59 : decode cX1_moveIfFree 59 = .ok (.iconst 1, 1) := by decide +kernel
theorem dX1_moveIfFree_60 : decode cX1_moveIfFree 60 = .ok (.ireturn, 1) := by decide +kernel
theorem dX1_fight_0 : decode cX1_fight 0 = .ok (.aload_n 0, 1) := by decide +kernel
theorem dX1_fight_1 : decode cX1_fight 1 = .ok (.dup, 1) := by decide +kernel
theorem dX1_fight_2 : decode cX1_fight 2 = .ok (.getfield 28, 3) := by decide +kernel
theorem dX1_fight_5 : decode cX1_fight 5 = .ok (.iconst 1, 1) := by decide +kernel
theorem dX1_fight_6 : decode cX1_fight 6 = .ok (.iadd, 1) := by decide +kernel
theorem dX1_fight_7 : decode cX1_fight 7 = .ok (.putfield 28, 3) := by decide +kernel
theorem dX1_fight_10 : decode cX1_fight 10 = .ok (.aload_n 2, 1) := by decide +kernel
theorem dX1_fight_11 : decode cX1_fight 11 = .ok (.aload_n 1, 1) := by decide +kernel
theorem dX1_fight_12 : decode cX1_fight 12 = .ok (.iload_n 3, 1) := by decide +kernel
theorem dX1_fight_13 : decode cX1_fight 13 = .ok (.invokevirtual 150, 3) := by decide +kernel
theorem dX1_fight_16 : decode cX1_fight 16 = .ok (.iconst 2, 1) := by decide +kernel
theorem dX1_fight_17 : decode cX1_fight 17 = .ok (.aload_n 0, 1) := by decide +kernel
theorem dX1_fight_18 : decode cX1_fight 18 = .ok (.aload_n 1, 1) := by decide +kernel
theorem dX1_fight_19 : decode cX1_fight 19 = .ok (.invokevirtual 154, 3) := by decide +kernel
theorem dX1_fight_22 : decode cX1_fight 22 = .ok (.imul, 1) := by decide +kernel
theorem dX1_fight_23 : decode cX1_fight 23 = .ok (.iadd, 1) := by decide +kernel
theorem dX1_fight_24 : decode cX1_fight 24 = .ok (.invokevirtual 158, 3) := by decide +kernel
theorem dX1_fight_27 : decode cX1_fight 27 = .ok (.aload_n 2, 1) := by decide +kernel
theorem dX1_fight_28 : decode cX1_fight 28 = .ok (.getfield 95, 3) := by decide +kernel
theorem dX1_fight_31 : decode cX1_fight 31 = .ok (.ifCond .le 11, 3) := by decide +kernel
theorem dX1_fight_34 : decode cX1_fight 34 = .ok (.aload_n 1, 1) := by decide +kernel
theorem dX1_fight_35 : decode cX1_fight 35 = .ok (.aload_n 2, 1) := by decide +kernel
theorem dX1_fight_36 : decode cX1_fight 36 = .ok (.invokevirtual 161, 3) := by decide +kernel
theorem dX1_fight_39 : decode cX1_fight 39 = .ok (.invokevirtual 158, 3) := by decide +kernel
theorem dX1_fight_42 : decode cX1_fight 42 = .ok (.aload_n 0, 1) := by decide +kernel
theorem dX1_fight_43 : decode cX1_fight 43 = .ok (.aload_n 2, 1) := by decide +kernel
theorem dX1_fight_44 : decode cX1_fight 44 = .ok (.invokevirtual 164, 3) := by decide +kernel
theorem dX1_fight_47 : decode cX1_fight 47 = .ok (.aload_n 0, 1) := by decide +kernel
theorem dX1_fight_48 : decode cX1_fight 48 = .ok (.aload_n 1, 1) := by decide +kernel
theorem dX1_fight_49 : decode cX1_fight 49 = .ok (.invokevirtual 164, 3) := by decide +kernel
theorem dX1_fight_52 : decode cX1_fight 52 = .ok (.return_, 1) := by decide +kernel
theorem dX1_settle_0 : decode cX1_settle 0 = .ok (.aload_n 1, 1) := by decide +kernel
theorem dX1_settle_1 : decode cX1_settle 1 = .ok (.getfield 95, 3) := by decide +kernel
theorem dX1_settle_4 : decode cX1_settle 4 = .ok (.ifCond .ne 24, 3) := by decide +kernel
theorem dX1_settle_7 : decode cX1_settle 7 = .ok (.aload_n 1, 1) := by decide +kernel
theorem dX1_settle_8 : decode cX1_settle 8 = .ok (.iconst 2, 1) := by decide +kernel
theorem dX1_settle_9 : decode cX1_settle 9 = .ok (.putfield 101, 3) := by decide +kernel
theorem dX1_settle_12 : decode cX1_settle 12 = .ok (.aload_n 0, 1) := by decide +kernel
theorem dX1_settle_13 : decode cX1_settle 13 = .ok (.aload_n 1, 1) := by decide +kernel
theorem dX1_settle_14 : decode cX1_settle 14 = .ok (.getfield 82, 3) := by decide +kernel
theorem dX1_settle_17 : decode cX1_settle 17 = .ok (.aload_n 1, 1) := by decide +kernel
theorem dX1_settle_18 : decode cX1_settle 18 = .ok (.getfield 85, 3) := by decide +kernel
theorem dX1_settle_21 : decode cX1_settle 21 = .ok (.iconst (-1), 1) := by decide +kernel
theorem dX1_settle_22 : decode cX1_settle 22 = .ok (.invokevirtual 107, 3) := by decide +kernel
theorem dX1_settle_25 : decode cX1_settle 25 = .ok (.goto 23, 3) := by decide +kernel
theorem dX1_settle_28 : decode cX1_settle 28 = .ok (.aload_n 1, 1) := by decide +kernel
theorem dX1_settle_29 : decode cX1_settle 29 = .ok (.invokevirtual 113, 3) := by decide +kernel
theorem dX1_settle_32 : decode cX1_settle 32 = .ok (.ifCond .eq 16, 3) := by decide +kernel
theorem dX1_settle_35 : decode cX1_settle 35 = .ok (.aload_n 1, 1) := by decide +kernel
theorem dX1_settle_36 : decode cX1_settle 36 = .ok (.getfield 98, 3) := by decide +kernel
theorem dX1_settle_39 : decode cX1_settle 39 = .ok (.iconst 5, 1) := by decide +kernel
theorem dX1_settle_40 : decode cX1_settle 40 = .ok (.if_icmp .ge 8, 3) := by decide +kernel
theorem dX1_settle_43 : decode cX1_settle 43 = .ok (.aload_n 1, 1) := by decide +kernel
theorem dX1_settle_44 : decode cX1_settle 44 = .ok (.iconst 1, 1) := by decide +kernel
theorem dX1_settle_45 : decode cX1_settle 45 = .ok (.putfield 101, 3) := by decide +kernel
theorem dX1_settle_48 : decode cX1_settle 48 = .ok (.return_, 1) := by decide +kernel
theorem dX1_supportInCells_0 : decode cX1_supportInCells 0 = .ok (.iconst 0, 1) := by decide +kernel
theorem dX1_supportInCells_1 : decode cX1_supportInCells 1 = .ok (.istore_n 2, 1) := by decide +kernel
theorem dX1_supportInCells_2 : decode cX1_supportInCells 2 = .ok (.aload_n 1, 1) := by decide +kernel
theorem dX1_supportInCells_3 : decode cX1_supportInCells 3 = .ok (.getfield 82, 3) := by decide +kernel
theorem dX1_supportInCells_6 : decode cX1_supportInCells 6 = .ok (.iconst 1, 1) := by decide +kernel
theorem dX1_supportInCells_7 : decode cX1_supportInCells 7 = .ok (.isub, 1) := by decide +kernel
theorem dX1_supportInCells_8 : decode cX1_supportInCells 8 = .ok (.istore_n 3, 1) := by decide +kernel
theorem dX1_supportInCells_9 : decode cX1_supportInCells 9 = .ok (.iload_n 3, 1) := by decide +kernel
theorem dX1_supportInCells_10 : decode cX1_supportInCells 10 = .ok (.aload_n 1, 1) := by decide +kernel
theorem dX1_supportInCells_11 : decode cX1_supportInCells 11 = .ok (.getfield 82, 3) := by decide +kernel
theorem dX1_supportInCells_14 : decode cX1_supportInCells 14 = .ok (.iconst 1, 1) := by decide +kernel
theorem dX1_supportInCells_15 : decode cX1_supportInCells 15 = .ok (.iadd, 1) := by decide +kernel
theorem dX1_supportInCells_16 : decode cX1_supportInCells 16 = .ok (.if_icmp .gt 48, 3) := by decide +kernel
theorem dX1_supportInCells_19 : decode cX1_supportInCells 19 = .ok (.aload_n 0, 1) := by decide +kernel
theorem dX1_supportInCells_20 : decode cX1_supportInCells 20 = .ok (.iload_n 3, 1) := by decide +kernel
theorem dX1_supportInCells_21 : decode cX1_supportInCells 21 = .ok (.aload_n 1, 1) := by decide +kernel
theorem dX1_supportInCells_22 : decode cX1_supportInCells 22 = .ok (.getfield 85, 3) := by decide +kernel
theorem dX1_supportInCells_25 : decode cX1_supportInCells 25 = .ok (.invokevirtual 75, 3) := by decide +kernel
theorem dX1_supportInCells_28 : decode cX1_supportInCells 28 = .ok (.astore 4, 2) := by decide +kernel
theorem dX1_supportInCells_30 : decode cX1_supportInCells 30 = .ok (.aload 4, 2) := by decide +kernel
theorem dX1_supportInCells_32 : decode cX1_supportInCells 32 = .ok (.ifnull 26, 3) := by decide +kernel
theorem dX1_supportInCells_35 : decode cX1_supportInCells 35 = .ok (.aload 4, 2) := by decide +kernel
theorem dX1_supportInCells_37 : decode cX1_supportInCells 37 = .ok (.getfield 79, 3) := by decide +kernel
theorem dX1_supportInCells_40 : decode cX1_supportInCells 40 = .ok (.aload_n 1, 1) := by decide +kernel
theorem dX1_supportInCells_41 : decode cX1_supportInCells 41 = .ok (.getfield 79, 3) := by decide +kernel
theorem dX1_supportInCells_44 : decode cX1_supportInCells 44 = .ok (.if_icmp .ne 14, 3) := by decide +kernel
theorem dX1_supportInCells_47 : decode cX1_supportInCells 47 = .ok (.aload 4, 2) := by decide +kernel
theorem dX1_supportInCells_49 : decode cX1_supportInCells 49 = .ok (.invokevirtual 113, 3) := by decide +kernel
theorem dX1_supportInCells_52 : decode cX1_supportInCells 52 = .ok (.ifCond .eq 6, 3) := by decide +kernel
theorem dX1_supportInCells_55 : decode cX1_supportInCells 55 = .ok (.iinc 2 1, 3) := by decide +kernel
theorem dX1_supportInCells_58 : decode cX1_supportInCells 58 = .ok (.iinc 3 2, 3) := by decide +kernel
theorem dX1_supportInCells_61 : decode cX1_supportInCells 61 = .ok (.goto (-52), 3) := by decide +kernel
theorem dX1_supportInCells_64 : decode cX1_supportInCells 64 = .ok (.iload_n 2, 1) := by decide +kernel
theorem dX1_supportInCells_65 : decode cX1_supportInCells 65 = .ok (.ireturn, 1) := by decide +kernel
theorem dX1_supportAmongLines_0 : decode cX1_supportAmongLines 0 = .ok (.iconst 0, 1) := by decide +kernel
theorem dX1_supportAmongLines_1 : decode cX1_supportAmongLines 1 = .ok (.istore_n 2, 1) := by decide +kernel
theorem dX1_supportAmongLines_2 : decode cX1_supportAmongLines 2 = .ok (.iconst 0, 1) := by decide +kernel
theorem dX1_supportAmongLines_3 : decode cX1_supportAmongLines 3 = .ok (.istore_n 3, 1) := by decide +kernel
theorem dX1_supportAmongLines_4 : decode cX1_supportAmongLines 4 = .ok (.iload_n 3, 1) := by decide +kernel
theorem dX1_supportAmongLines_5 : decode cX1_supportAmongLines 5 = .ok (.aload_n 0, 1) := by decide +kernel
theorem dX1_supportAmongLines_6 : decode cX1_supportAmongLines 6 = .ok (.getfield 21, 3) := by decide +kernel
theorem dX1_supportAmongLines_9 : decode cX1_supportAmongLines 9 = .ok (.if_icmp .ge 73, 3) := by decide +kernel
theorem dX1_supportAmongLines_12 : decode cX1_supportAmongLines 12 = .ok (.aload_n 0, 1) := by decide +kernel
theorem dX1_supportAmongLines_13 : decode cX1_supportAmongLines 13 = .ok (.iload_n 3, 1) := by decide +kernel
theorem dX1_supportAmongLines_14 : decode cX1_supportAmongLines 14 = .ok (.invokevirtual 57, 3) := by decide +kernel
theorem dX1_supportAmongLines_17 : decode cX1_supportAmongLines 17 = .ok (.astore 4, 2) := by decide +kernel
theorem dX1_supportAmongLines_19 : decode cX1_supportAmongLines 19 = .ok (.aload 4, 2) := by decide +kernel
theorem dX1_supportAmongLines_21 : decode cX1_supportAmongLines 21 = .ok (.ifnull 55, 3) := by decide +kernel
theorem dX1_supportAmongLines_24 : decode cX1_supportAmongLines 24 = .ok (.aload 4, 2) := by decide +kernel
theorem dX1_supportAmongLines_26 : decode cX1_supportAmongLines 26 = .ok (.invokevirtual 113, 3) := by decide +kernel
theorem dX1_supportAmongLines_29 : decode cX1_supportAmongLines 29 = .ok (.ifCond .eq 47, 3) := by decide +kernel
theorem dX1_supportAmongLines_32 : decode cX1_supportAmongLines 32 = .ok (.aload 4, 2) := by decide +kernel
theorem dX1_supportAmongLines_34 : decode cX1_supportAmongLines 34 = .ok (.getfield 79, 3) := by decide +kernel
theorem dX1_supportAmongLines_37 : decode cX1_supportAmongLines 37 = .ok (.aload_n 1, 1) := by decide +kernel
theorem dX1_supportAmongLines_38 : decode cX1_supportAmongLines 38 = .ok (.getfield 79, 3) := by decide +kernel
theorem dX1_supportAmongLines_41 : decode cX1_supportAmongLines 41 = .ok (.if_icmp .ne 35, 3) := by decide +kernel
theorem dX1_supportAmongLines_44 : decode cX1_supportAmongLines 44 = .ok (.aload 4, 2) := by decide +kernel
theorem dX1_supportAmongLines_46 : decode cX1_supportAmongLines 46 = .ok (.getfield 85, 3) := by decide +kernel
theorem dX1_supportAmongLines_49 : decode cX1_supportAmongLines 49 = .ok (.aload_n 1, 1) := by decide +kernel
theorem dX1_supportAmongLines_50 : decode cX1_supportAmongLines 50 = .ok (.getfield 85, 3) := by decide +kernel
theorem dX1_supportAmongLines_53 : decode cX1_supportAmongLines 53 = .ok (.if_icmp .ne 23, 3) := by decide +kernel
theorem dX1_supportAmongLines_56 : decode cX1_supportAmongLines 56 = .ok (.aload 4, 2) := by decide +kernel
theorem dX1_supportAmongLines_58 : decode cX1_supportAmongLines 58 = .ok (.getfield 82, 3) := by decide +kernel
theorem dX1_supportAmongLines_61 : decode cX1_supportAmongLines 61 = .ok (.aload_n 1, 1) := by decide +kernel
theorem dX1_supportAmongLines_62 : decode cX1_supportAmongLines 62 = .ok (.getfield 82, 3) := by decide +kernel
theorem dX1_supportAmongLines_65 : decode cX1_supportAmongLines 65 = .ok (.isub, 1) := by decide +kernel
theorem dX1_supportAmongLines_66 : decode cX1_supportAmongLines 66 = .ok (.invokestatic 167, 3) := by decide +kernel
theorem dX1_supportAmongLines_69 : decode cX1_supportAmongLines 69 = .ok (.iconst 1, 1) := by decide +kernel
theorem dX1_supportAmongLines_70 : decode cX1_supportAmongLines 70 = .ok (.if_icmp .ne 6, 3) := by decide +kernel
theorem dX1_supportAmongLines_73 : decode cX1_supportAmongLines 73 = .ok (.iinc 2 1, 3) := by decide +kernel
theorem dX1_supportAmongLines_76 : decode cX1_supportAmongLines 76 = .ok (.iinc 3 1, 3) := by decide +kernel
theorem dX1_supportAmongLines_79 : decode cX1_supportAmongLines 79 = .ok (.goto (-75), 3) := by decide +kernel
theorem dX1_supportAmongLines_82 : decode cX1_supportAmongLines 82 = .ok (.iload_n 2, 1) := by decide +kernel
theorem dX1_supportAmongLines_83 : decode cX1_supportAmongLines 83 = .ok (.ireturn, 1) := by decide +kernel
theorem dX1_enemyInCells_0 : decode cX1_enemyInCells 0 = .ok (.iconst 1, 1) := by decide +kernel
theorem dX1_enemyInCells_1 : decode cX1_enemyInCells 1 = .ok (.istore_n 2, 1) := by decide +kernel
theorem dX1_enemyInCells_2 : decode cX1_enemyInCells 2 = .ok (.iload_n 2, 1) := by decide +kernel
theorem dX1_enemyInCells_3 : decode cX1_enemyInCells 3 = .ok (.bipush 10, 2) := by decide +kernel
theorem dX1_enemyInCells_5 : decode cX1_enemyInCells 5 = .ok (.if_icmp .ge 49, 3) := by decide +kernel
theorem dX1_enemyInCells_8 : decode cX1_enemyInCells 8 = .ok (.aload_n 0, 1) := by decide +kernel
theorem dX1_enemyInCells_9 : decode cX1_enemyInCells 9 = .ok (.aload_n 1, 1) := by decide +kernel
theorem dX1_enemyInCells_10 : decode cX1_enemyInCells 10 = .ok (.getfield 82, 3) := by decide +kernel
theorem dX1_enemyInCells_13 : decode cX1_enemyInCells 13 = .ok (.aload_n 1, 1) := by decide +kernel
theorem dX1_enemyInCells_14 : decode cX1_enemyInCells 14 = .ok (.getfield 85, 3) := by decide +kernel
theorem dX1_enemyInCells_17 : decode cX1_enemyInCells 17 = .ok (.iload_n 2, 1) := by decide +kernel
theorem dX1_enemyInCells_18 : decode cX1_enemyInCells 18 = .ok (.aload_n 1, 1) := by decide +kernel
theorem dX1_enemyInCells_19 : decode cX1_enemyInCells 19 = .ok (.invokevirtual 135, 3) := by decide +kernel
theorem dX1_enemyInCells_22 : decode cX1_enemyInCells 22 = .ok (.imul, 1) := by decide +kernel
theorem dX1_enemyInCells_23 : decode cX1_enemyInCells 23 = .ok (.iadd, 1) := by decide +kernel
theorem dX1_enemyInCells_24 : decode cX1_enemyInCells 24 = .ok (.invokevirtual 75, 3) := by decide +kernel
theorem dX1_enemyInCells_27 : decode cX1_enemyInCells 27 = .ok (.astore_n 3, 1) := by decide +kernel
theorem dX1_enemyInCells_28 : decode cX1_enemyInCells 28 = .ok (.aload_n 3, 1) := by decide +kernel
theorem dX1_enemyInCells_29 : decode cX1_enemyInCells 29 = .ok (.ifnull 19, 3) := by decide +kernel
theorem dX1_enemyInCells_32 : decode cX1_enemyInCells 32 = .ok (.aload_n 3, 1) := by decide +kernel
theorem dX1_enemyInCells_33 : decode cX1_enemyInCells 33 = .ok (.getfield 79, 3) := by decide +kernel
theorem dX1_enemyInCells_36 : decode cX1_enemyInCells 36 = .ok (.aload_n 1, 1) := by decide +kernel
theorem dX1_enemyInCells_37 : decode cX1_enemyInCells 37 = .ok (.getfield 79, 3) := by decide +kernel
theorem dX1_enemyInCells_40 : decode cX1_enemyInCells 40 = .ok (.if_icmp .eq 8, 3) := by decide +kernel
theorem dX1_enemyInCells_43 : decode cX1_enemyInCells 43 = .ok (.aload_n 3, 1) := by decide +kernel
theorem dX1_enemyInCells_44 : decode cX1_enemyInCells 44 = .ok (.getfield 147, 3) := by decide +kernel
theorem dX1_enemyInCells_47 : decode cX1_enemyInCells 47 = .ok (.ireturn, 1) := by decide +kernel
theorem dX1_enemyInCells_48 : decode cX1_enemyInCells 48 = .ok (.iinc 2 1, 3) := by decide +kernel
theorem dX1_enemyInCells_51 : decode cX1_enemyInCells 51 = .ok (.goto (-49), 3) := by decide +kernel
theorem dX1_enemyInCells_54 : decode cX1_enemyInCells 54 = .ok (.iconst (-1), 1) := by decide +kernel
theorem dX1_enemyInCells_55 : decode cX1_enemyInCells 55 = .ok (.ireturn, 1) := by decide +kernel
theorem dX1_enemyAmongLines_0 : decode cX1_enemyAmongLines 0 = .ok (.iconst (-1), 1) := by decide +kernel
theorem dX1_enemyAmongLines_1 : decode cX1_enemyAmongLines 1 = .ok (.istore_n 2, 1) := by decide +kernel
theorem dX1_enemyAmongLines_2 : decode cX1_enemyAmongLines 2 = .ok (.bipush 10, 2) := by decide +kernel
theorem dX1_enemyAmongLines_4 : decode cX1_enemyAmongLines 4 = .ok (.istore_n 3, 1) := by decide +kernel
theorem dX1_enemyAmongLines_5 : decode cX1_enemyAmongLines 5 = .ok (.iconst 0, 1) := by decide +kernel
theorem dX1_enemyAmongLines_6 : decode cX1_enemyAmongLines 6 = .ok (.istore 4, 2) := by decide +kernel
theorem dX1_enemyAmongLines_8 : decode cX1_enemyAmongLines 8 = .ok (.iload 4, 2) := by decide +kernel
theorem dX1_enemyAmongLines_10 : decode cX1_enemyAmongLines 10 = .ok (.aload_n 0, 1) := by decide +kernel
theorem dX1_enemyAmongLines_11 : decode cX1_enemyAmongLines 11 = .ok (.getfield 21, 3) := by decide +kernel
theorem dX1_enemyAmongLines_14 : decode cX1_enemyAmongLines 14 = .ok (.if_icmp .ge 88, 3) := by decide +kernel
theorem dX1_enemyAmongLines_17 : decode cX1_enemyAmongLines 17 = .ok (.aload_n 0, 1) := by decide +kernel
theorem dX1_enemyAmongLines_18 : decode cX1_enemyAmongLines 18 = .ok (.iload 4, 2) := by decide +kernel
theorem dX1_enemyAmongLines_20 : decode cX1_enemyAmongLines 20 = .ok (.invokevirtual 57, 3) := by decide +kernel
theorem dX1_enemyAmongLines_23 : decode cX1_enemyAmongLines 23 = .ok (.astore 5, 2) := by decide +kernel
theorem dX1_enemyAmongLines_25 : decode cX1_enemyAmongLines 25 = .ok (.aload 5, 2) := by decide +kernel
theorem dX1_enemyAmongLines_27 : decode cX1_enemyAmongLines 27 = .ok (.ifnull 69, 3) := by decide +kernel
theorem dX1_enemyAmongLines_30 : decode cX1_enemyAmongLines 30 = .ok (.aload 5, 2) := by decide +kernel
theorem dX1_enemyAmongLines_32 : decode cX1_enemyAmongLines 32 = .ok (.invokevirtual 172, 3) := by decide +kernel
theorem dX1_enemyAmongLines_35 : decode cX1_enemyAmongLines 35 = .ok (.ifCond .ne 61, 3) := by decide +kernel
theorem dX1_enemyAmongLines_38 : decode cX1_enemyAmongLines 38 = .ok (.aload 5, 2) := by decide +kernel
theorem dX1_enemyAmongLines_40 : decode cX1_enemyAmongLines 40 = .ok (.getfield 79, 3) := by decide +kernel
theorem dX1_enemyAmongLines_43 : decode cX1_enemyAmongLines 43 = .ok (.aload_n 1, 1) := by decide +kernel
theorem dX1_enemyAmongLines_44 : decode cX1_enemyAmongLines 44 = .ok (.getfield 79, 3) := by decide +kernel
theorem dX1_enemyAmongLines_47 : decode cX1_enemyAmongLines 47 = .ok (.if_icmp .eq 49, 3) := by decide +kernel
theorem dX1_enemyAmongLines_50 : decode cX1_enemyAmongLines 50 = .ok (.aload 5, 2) := by decide +kernel
theorem dX1_enemyAmongLines_52 : decode cX1_enemyAmongLines 52 = .ok (.getfield 82, 3) := by decide +kernel
theorem dX1_enemyAmongLines_55 : decode cX1_enemyAmongLines 55 = .ok (.aload_n 1, 1) := by decide +kernel
theorem dX1_enemyAmongLines_56 : decode cX1_enemyAmongLines 56 = .ok (.getfield 82, 3) := by decide +kernel
theorem dX1_enemyAmongLines_59 : decode cX1_enemyAmongLines 59 = .ok (.if_icmp .ne 37, 3) := by decide +kernel
theorem dX1_enemyAmongLines_62 : decode cX1_enemyAmongLines 62 = .ok (.aload 5, 2) := by decide +kernel
theorem dX1_enemyAmongLines_64 : decode cX1_enemyAmongLines 64 = .ok (.getfield 85, 3) := by decide +kernel
theorem dX1_enemyAmongLines_67 : decode cX1_enemyAmongLines 67 = .ok (.aload_n 1, 1) := by decide +kernel
theorem dX1_enemyAmongLines_68 : decode cX1_enemyAmongLines 68 = .ok (.getfield 85, 3) := by decide +kernel
theorem dX1_enemyAmongLines_71 : decode cX1_enemyAmongLines 71 = .ok (.isub, 1) := by decide +kernel
theorem dX1_enemyAmongLines_72 : decode cX1_enemyAmongLines 72 = .ok (.aload_n 1, 1) := by decide +kernel
theorem dX1_enemyAmongLines_73 : decode cX1_enemyAmongLines 73 = .ok (.invokevirtual 135, 3) := by decide +kernel
theorem dX1_enemyAmongLines_76 : decode cX1_enemyAmongLines 76 = .ok (.imul, 1) := by decide +kernel
theorem dX1_enemyAmongLines_77 : decode cX1_enemyAmongLines 77 = .ok (.istore 6, 2) := by decide +kernel
theorem dX1_enemyAmongLines_79 : decode cX1_enemyAmongLines 79 = .ok (.iload 6, 2) := by decide +kernel
theorem dX1_enemyAmongLines_81 : decode cX1_enemyAmongLines 81 = .ok (.ifCond .le 15, 3) := by decide +kernel
theorem dX1_enemyAmongLines_84 : decode cX1_enemyAmongLines 84 = .ok (.iload 6, 2) := by decide +kernel
theorem dX1_enemyAmongLines_86 : decode cX1_enemyAmongLines 86 = .ok (.iload_n 3, 1) := by decide +kernel
theorem dX1_enemyAmongLines_87 : decode cX1_enemyAmongLines 87 = .ok (.if_icmp .ge 9, 3) := by decide +kernel
theorem dX1_enemyAmongLines_90 : decode cX1_enemyAmongLines 90 = .ok (.iload 4, 2) := by decide +kernel
theorem dX1_enemyAmongLines_92 : decode cX1_enemyAmongLines 92 = .ok (.istore_n 2, 1) := by decide +kernel
theorem dX1_enemyAmongLines_93 : decode cX1_enemyAmongLines 93 = .ok (.iload 6, 2) := by decide +kernel
theorem dX1_enemyAmongLines_95 : decode cX1_enemyAmongLines 95 = .ok (.istore_n 3, 1) := by decide +kernel
theorem dX1_enemyAmongLines_96 : decode cX1_enemyAmongLines 96 = .ok (.iinc 4 1, 3) := by decide +kernel
theorem dX1_enemyAmongLines_99 : decode cX1_enemyAmongLines 99 = .ok (.goto (-91), 3) := by decide +kernel
theorem dX1_enemyAmongLines_102 : decode cX1_enemyAmongLines 102 = .ok (.iload_n 2, 1) := by decide +kernel
theorem dX1_enemyAmongLines_103 : decode cX1_enemyAmongLines 103 = .ok (.ireturn, 1) := by decide +kernel
theorem dX1_strengthAmongLines_0 : decode cX1_strengthAmongLines 0 = .ok (.iconst 0, 1) := by decide +kernel
theorem dX1_strengthAmongLines_1 : decode cX1_strengthAmongLines 1 = .ok (.istore_n 2, 1) := by decide +kernel
theorem dX1_strengthAmongLines_2 : decode cX1_strengthAmongLines 2 = .ok (.iconst 0, 1) := by decide +kernel
theorem dX1_strengthAmongLines_3 : decode cX1_strengthAmongLines 3 = .ok (.istore_n 3, 1) := by decide +kernel
theorem dX1_strengthAmongLines_4 : decode cX1_strengthAmongLines 4 = .ok (.iload_n 3, 1) := by decide +kernel
theorem dX1_strengthAmongLines_5 : decode cX1_strengthAmongLines 5 = .ok (.aload_n 0, 1) := by decide +kernel
theorem dX1_strengthAmongLines_6 : decode cX1_strengthAmongLines 6 = .ok (.getfield 21, 3) := by decide +kernel
theorem dX1_strengthAmongLines_9 : decode cX1_strengthAmongLines 9 = .ok (.if_icmp .ge 38, 3) := by decide +kernel
theorem dX1_strengthAmongLines_12 : decode cX1_strengthAmongLines 12 = .ok (.aload_n 0, 1) := by decide +kernel
theorem dX1_strengthAmongLines_13 : decode cX1_strengthAmongLines 13 = .ok (.iload_n 3, 1) := by decide +kernel
theorem dX1_strengthAmongLines_14 : decode cX1_strengthAmongLines 14 = .ok (.invokevirtual 57, 3) := by decide +kernel
theorem dX1_strengthAmongLines_17 : decode cX1_strengthAmongLines 17 = .ok (.astore 4, 2) := by decide +kernel
theorem dX1_strengthAmongLines_19 : decode cX1_strengthAmongLines 19 = .ok (.aload 4, 2) := by decide +kernel
theorem dX1_strengthAmongLines_21 : decode cX1_strengthAmongLines 21 = .ok (.ifnull 20, 3) := by decide +kernel
theorem dX1_strengthAmongLines_24 : decode cX1_strengthAmongLines 24 = .ok (.aload 4, 2) := by decide +kernel
theorem dX1_strengthAmongLines_26 : decode cX1_strengthAmongLines 26 = .ok (.getfield 79, 3) := by decide +kernel
theorem dX1_strengthAmongLines_29 : decode cX1_strengthAmongLines 29 = .ok (.iload_n 1, 1) := by decide +kernel
theorem dX1_strengthAmongLines_30 : decode cX1_strengthAmongLines 30 = .ok (.if_icmp .ne 11, 3) := by decide +kernel
theorem dX1_strengthAmongLines_33 : decode cX1_strengthAmongLines 33 = .ok (.iload_n 2, 1) := by decide +kernel
theorem dX1_strengthAmongLines_34 : decode cX1_strengthAmongLines 34 = .ok (.aload 4, 2) := by decide +kernel
theorem dX1_strengthAmongLines_36 : decode cX1_strengthAmongLines 36 = .ok (.getfield 95, 3) := by decide +kernel
theorem dX1_strengthAmongLines_39 : decode cX1_strengthAmongLines 39 = .ok (.iadd, 1) := by decide +kernel
theorem dX1_strengthAmongLines_40 : decode cX1_strengthAmongLines 40 = .ok (.istore_n 2, 1) := by decide +kernel
theorem dX1_strengthAmongLines_41 : decode cX1_strengthAmongLines 41 = .ok (.iinc 3 1, 3) := by decide +kernel
theorem dX1_strengthAmongLines_44 : decode cX1_strengthAmongLines 44 = .ok (.goto (-40), 3) := by decide +kernel
theorem dX1_strengthAmongLines_47 : decode cX1_strengthAmongLines 47 = .ok (.iload_n 2, 1) := by decide +kernel
theorem dX1_strengthAmongLines_48 : decode cX1_strengthAmongLines 48 = .ok (.ireturn, 1) := by decide +kernel
theorem dX1_strengthInCells_0 : decode cX1_strengthInCells 0 = .ok (.iconst 0, 1) := by decide +kernel
theorem dX1_strengthInCells_1 : decode cX1_strengthInCells 1 = .ok (.istore_n 2, 1) := by decide +kernel
theorem dX1_strengthInCells_2 : decode cX1_strengthInCells 2 = .ok (.iconst 0, 1) := by decide +kernel
theorem dX1_strengthInCells_3 : decode cX1_strengthInCells 3 = .ok (.istore_n 3, 1) := by decide +kernel
theorem dX1_strengthInCells_4 : decode cX1_strengthInCells 4 = .ok (.iload_n 3, 1) := by decide +kernel
theorem dX1_strengthInCells_5 : decode cX1_strengthInCells 5 = .ok (.iconst 3, 1) := by decide +kernel
theorem dX1_strengthInCells_6 : decode cX1_strengthInCells 6 = .ok (.if_icmp .ge 56, 3) := by decide +kernel
theorem dX1_strengthInCells_9 : decode cX1_strengthInCells 9 = .ok (.iconst 0, 1) := by decide +kernel
theorem dX1_strengthInCells_10 : decode cX1_strengthInCells 10 = .ok (.istore 4, 2) := by decide +kernel
theorem dX1_strengthInCells_12 : decode cX1_strengthInCells 12 = .ok (.iload 4, 2) := by decide +kernel
theorem dX1_strengthInCells_14 : decode cX1_strengthInCells 14 = .ok (.bipush 10, 2) := by decide +kernel
theorem dX1_strengthInCells_16 : decode cX1_strengthInCells 16 = .ok (.if_icmp .ge 40, 3) := by decide +kernel
theorem dX1_strengthInCells_19 : decode cX1_strengthInCells 19 = .ok (.aload_n 0, 1) := by decide +kernel
theorem dX1_strengthInCells_20 : decode cX1_strengthInCells 20 = .ok (.iload_n 3, 1) := by decide +kernel
theorem dX1_strengthInCells_21 : decode cX1_strengthInCells 21 = .ok (.iload 4, 2) := by decide +kernel
theorem dX1_strengthInCells_23 : decode cX1_strengthInCells 23 = .ok (.invokevirtual 75, 3) := by decide +kernel
theorem dX1_strengthInCells_26 : decode cX1_strengthInCells 26 = .ok (.astore 5, 2) := by decide +kernel
theorem dX1_strengthInCells_28 : decode cX1_strengthInCells 28 = .ok (.aload 5, 2) := by decide +kernel
theorem dX1_strengthInCells_30 : decode cX1_strengthInCells 30 = .ok (.ifnull 20, 3) := by decide +kernel
theorem dX1_strengthInCells_33 : decode cX1_strengthInCells 33 = .ok (.aload 5, 2) := by decide +kernel
theorem dX1_strengthInCells_35 : decode cX1_strengthInCells 35 = .ok (.getfield 79, 3) := by decide +kernel
theorem dX1_strengthInCells_38 : decode cX1_strengthInCells 38 = .ok (.iload_n 1, 1) := by decide +kernel
theorem dX1_strengthInCells_39 : decode cX1_strengthInCells 39 = .ok (.if_icmp .ne 11, 3) := by decide +kernel
theorem dX1_strengthInCells_42 : decode cX1_strengthInCells 42 = .ok (.iload_n 2, 1) := by decide +kernel
theorem dX1_strengthInCells_43 : decode cX1_strengthInCells 43 = .ok (.aload 5, 2) := by decide +kernel
theorem dX1_strengthInCells_45 : decode cX1_strengthInCells 45 = .ok (.getfield 95, 3) := by decide +kernel
theorem dX1_strengthInCells_48 : decode cX1_strengthInCells 48 = .ok (.iadd, 1) := by decide +kernel
theorem dX1_strengthInCells_49 : decode cX1_strengthInCells 49 = .ok (.istore_n 2, 1) := by decide +kernel
theorem dX1_strengthInCells_50 : decode cX1_strengthInCells 50 = .ok (.iinc 4 1, 3) := by decide +kernel
theorem dX1_strengthInCells_53 : decode cX1_strengthInCells 53 = .ok (.goto (-41), 3) := by decide +kernel
theorem dX1_strengthInCells_56 : decode cX1_strengthInCells 56 = .ok (.iinc 3 1, 3) := by decide +kernel
theorem dX1_strengthInCells_59 : decode cX1_strengthInCells 59 = .ok (.goto (-55), 3) := by decide +kernel
theorem dX1_strengthInCells_62 : decode cX1_strengthInCells 62 = .ok (.iload_n 2, 1) := by decide +kernel
theorem dX1_strengthInCells_63 : decode cX1_strengthInCells 63 = .ok (.ireturn, 1) := by decide +kernel
theorem dX1_fallen_0 : decode cX1_fallen 0 = .ok (.iconst 0, 1) := by decide +kernel
theorem dX1_fallen_1 : decode cX1_fallen 1 = .ok (.istore_n 2, 1) := by decide +kernel
theorem dX1_fallen_2 : decode cX1_fallen 2 = .ok (.iconst 0, 1) := by decide +kernel
theorem dX1_fallen_3 : decode cX1_fallen 3 = .ok (.istore_n 3, 1) := by decide +kernel
theorem dX1_fallen_4 : decode cX1_fallen 4 = .ok (.iload_n 3, 1) := by decide +kernel
theorem dX1_fallen_5 : decode cX1_fallen 5 = .ok (.aload_n 0, 1) := by decide +kernel
theorem dX1_fallen_6 : decode cX1_fallen 6 = .ok (.getfield 21, 3) := by decide +kernel
theorem dX1_fallen_9 : decode cX1_fallen 9 = .ok (.if_icmp .ge 41, 3) := by decide +kernel
theorem dX1_fallen_12 : decode cX1_fallen 12 = .ok (.aload_n 0, 1) := by decide +kernel
theorem dX1_fallen_13 : decode cX1_fallen 13 = .ok (.iload_n 3, 1) := by decide +kernel
theorem dX1_fallen_14 : decode cX1_fallen 14 = .ok (.invokevirtual 57, 3) := by decide +kernel
theorem dX1_fallen_17 : decode cX1_fallen 17 = .ok (.astore 4, 2) := by decide +kernel
theorem dX1_fallen_19 : decode cX1_fallen 19 = .ok (.aload 4, 2) := by decide +kernel
theorem dX1_fallen_21 : decode cX1_fallen 21 = .ok (.ifnull 23, 3) := by decide +kernel
theorem dX1_fallen_24 : decode cX1_fallen 24 = .ok (.aload 4, 2) := by decide +kernel
theorem dX1_fallen_26 : decode cX1_fallen 26 = .ok (.getfield 79, 3) := by decide +kernel
theorem dX1_fallen_29 : decode cX1_fallen 29 = .ok (.iload_n 1, 1) := by decide +kernel
theorem dX1_fallen_30 : decode cX1_fallen 30 = .ok (.if_icmp .ne 14, 3) := by decide +kernel
theorem dX1_fallen_33 : decode cX1_fallen 33 = .ok (.aload 4, 2) := by decide +kernel
theorem dX1_fallen_35 : decode cX1_fallen 35 = .ok (.invokevirtual 172, 3) := by decide +kernel
theorem dX1_fallen_38 : decode cX1_fallen 38 = .ok (.ifCond .eq 6, 3) := by decide +kernel
theorem dX1_fallen_41 : decode cX1_fallen 41 = .ok (.iinc 2 1, 3) := by decide +kernel
theorem dX1_fallen_44 : decode cX1_fallen 44 = .ok (.iinc 3 1, 3) := by decide +kernel
theorem dX1_fallen_47 : decode cX1_fallen 47 = .ok (.goto (-43), 3) := by decide +kernel
theorem dX1_fallen_50 : decode cX1_fallen 50 = .ok (.iload_n 2, 1) := by decide +kernel
theorem dX1_fallen_51 : decode cX1_fallen 51 = .ok (.ireturn, 1) := by decide +kernel
theorem dX1_front_0 : decode cX1_front 0 = .ok (.iconst (-1), 1) := by decide +kernel
theorem dX1_front_1 : decode cX1_front 1 = .ok (.istore_n 3, 1) := by decide +kernel
theorem dX1_front_2 : decode cX1_front 2 = .ok (.iconst 0, 1) := by decide +kernel
theorem dX1_front_3 : decode cX1_front 3 = .ok (.istore 4, 2) := by decide +kernel
theorem dX1_front_5 : decode cX1_front 5 = .ok (.iload 4, 2) := by decide +kernel
theorem dX1_front_7 : decode cX1_front 7 = .ok (.bipush 10, 2) := by decide +kernel
theorem dX1_front_9 : decode cX1_front 9 = .ok (.if_icmp .ge 51, 3) := by decide +kernel
theorem dX1_front_12 : decode cX1_front 12 = .ok (.iload_n 1, 1) := by decide +kernel
theorem dX1_front_13 : decode cX1_front 13 = .ok (.ifCond .ne 8, 3) := by decide +kernel
theorem dX1_front_16 : decode cX1_front 16 = .ok (.iload 4, 2) := by decide +kernel
theorem dX1_front_18 : decode cX1_front 18 = .ok (.goto 8, 3) := by decide +kernel
theorem dX1_front_21 : decode cX1_front 21 = .ok (.bipush 9, 2) := by decide +kernel
theorem dX1_front_23 : decode cX1_front 23 = .ok (.iload 4, 2) := by decide +kernel
theorem dX1_front_25 : decode cX1_front 25 = .ok (.isub, 1) := by decide +kernel
theorem dX1_front_26 : decode cX1_front 26 = .ok (.istore 5, 2) := by decide +kernel
theorem dX1_front_28 : decode cX1_front 28 = .ok (.aload_n 0, 1) := by decide +kernel
theorem dX1_front_29 : decode cX1_front 29 = .ok (.iload_n 2, 1) := by decide +kernel
theorem dX1_front_30 : decode cX1_front 30 = .ok (.iload 5, 2) := by decide +kernel
theorem dX1_front_32 : decode cX1_front 32 = .ok (.invokevirtual 75, 3) := by decide +kernel
theorem dX1_front_35 : decode cX1_front 35 = .ok (.astore 6, 2) := by decide +kernel
theorem dX1_front_37 : decode cX1_front 37 = .ok (.aload 6, 2) := by decide +kernel
theorem dX1_front_39 : decode cX1_front 39 = .ok (.ifnull 15, 3) := by decide +kernel
theorem dX1_front_42 : decode cX1_front 42 = .ok (.aload 6, 2) := by decide +kernel
theorem dX1_front_44 : decode cX1_front 44 = .ok (.getfield 79, 3) := by decide +kernel
theorem dX1_front_47 : decode cX1_front 47 = .ok (.iload_n 1, 1) := by decide +kernel
theorem dX1_front_48 : decode cX1_front 48 = .ok (.if_icmp .ne 6, 3) := by decide +kernel
theorem dX1_front_51 : decode cX1_front 51 = .ok (.iload 5, 2) := by decide +kernel
theorem dX1_front_53 : decode cX1_front 53 = .ok (.istore_n 3, 1) := by decide +kernel
theorem dX1_front_54 : decode cX1_front 54 = .ok (.iinc 4 1, 3) := by decide +kernel
theorem dX1_front_57 : decode cX1_front 57 = .ok (.goto (-52), 3) := by decide +kernel
theorem dX1_front_60 : decode cX1_front 60 = .ok (.iload_n 3, 1) := by decide +kernel
theorem dX1_front_61 : decode cX1_front 61 = .ok (.ireturn, 1) := by decide +kernel
theorem dX1_lineOfRank_0 : decode cX1_lineOfRank 0 = .ok (.iconst 0, 1) := by decide +kernel
theorem dX1_lineOfRank_1 : decode cX1_lineOfRank 1 = .ok (.istore_n 2, 1) := by decide +kernel
theorem dX1_lineOfRank_2 : decode cX1_lineOfRank 2 = .ok (.iload_n 2, 1) := by decide +kernel
theorem dX1_lineOfRank_3 : decode cX1_lineOfRank 3 = .ok (.aload_n 0, 1) := by decide +kernel
theorem dX1_lineOfRank_4 : decode cX1_lineOfRank 4 = .ok (.getfield 21, 3) := by decide +kernel
theorem dX1_lineOfRank_7 : decode cX1_lineOfRank 7 = .ok (.if_icmp .ge 30, 3) := by decide +kernel
theorem dX1_lineOfRank_10 : decode cX1_lineOfRank 10 = .ok (.aload_n 0, 1) := by decide +kernel
theorem dX1_lineOfRank_11 : decode cX1_lineOfRank 11 = .ok (.iload_n 2, 1) := by decide +kernel
theorem dX1_lineOfRank_12 : decode cX1_lineOfRank 12 = .ok (.invokevirtual 57, 3) := by decide +kernel
theorem dX1_lineOfRank_15 : decode cX1_lineOfRank 15 = .ok (.astore_n 3, 1) := by decide +kernel
theorem dX1_lineOfRank_16 : decode cX1_lineOfRank 16 = .ok (.aload_n 3, 1) := by decide +kernel
theorem dX1_lineOfRank_17 : decode cX1_lineOfRank 17 = .ok (.ifnull 14, 3) := by decide +kernel
theorem dX1_lineOfRank_20 : decode cX1_lineOfRank 20 = .ok (.aload_n 0, 1) := by decide +kernel
theorem dX1_lineOfRank_21 : decode cX1_lineOfRank 21 = .ok (.aload_n 3, 1) := by decide +kernel
theorem dX1_lineOfRank_22 : decode cX1_lineOfRank 22 = .ok (.invokevirtual 175, 3) := by decide +kernel
theorem dX1_lineOfRank_25 : decode cX1_lineOfRank 25 = .ok (.iload_n 1, 1) := by decide +kernel
theorem dX1_lineOfRank_26 : decode cX1_lineOfRank 26 = .ok (.if_icmp .ne 5, 3) := by decide +kernel
theorem dX1_lineOfRank_29 : decode cX1_lineOfRank 29 = .ok (.iload_n 2, 1) := by decide +kernel
theorem dX1_lineOfRank_30 : decode cX1_lineOfRank 30 = .ok (.ireturn, 1) := by decide +kernel
theorem dX1_lineOfRank_31 : decode cX1_lineOfRank 31 = .ok (.iinc 2 1, 3) := by decide +kernel
theorem dX1_lineOfRank_34 : decode cX1_lineOfRank 34 = .ok (.goto (-32), 3) := by decide +kernel
theorem dX1_lineOfRank_37 : decode cX1_lineOfRank 37 = .ok (.iconst (-1), 1) := by decide +kernel
theorem dX1_lineOfRank_38 : decode cX1_lineOfRank 38 = .ok (.ireturn, 1) := by decide +kernel
theorem dX1_strongerThan_0 : decode cX1_strongerThan 0 = .ok (.iconst 0, 1) := by decide +kernel
theorem dX1_strongerThan_1 : decode cX1_strongerThan 1 = .ok (.istore_n 2, 1) := by decide +kernel
theorem dX1_strongerThan_2 : decode cX1_strongerThan 2 = .ok (.iconst 0, 1) := by decide +kernel
theorem dX1_strongerThan_3 : decode cX1_strongerThan 3 = .ok (.istore_n 3, 1) := by decide +kernel
theorem dX1_strongerThan_4 : decode cX1_strongerThan 4 = .ok (.iload_n 3, 1) := by decide +kernel
theorem dX1_strongerThan_5 : decode cX1_strongerThan 5 = .ok (.aload_n 0, 1) := by decide +kernel
theorem dX1_strongerThan_6 : decode cX1_strongerThan 6 = .ok (.getfield 21, 3) := by decide +kernel
theorem dX1_strongerThan_9 : decode cX1_strongerThan 9 = .ok (.if_icmp .ge 56, 3) := by decide +kernel
theorem dX1_strongerThan_12 : decode cX1_strongerThan 12 = .ok (.aload_n 0, 1) := by decide +kernel
theorem dX1_strongerThan_13 : decode cX1_strongerThan 13 = .ok (.iload_n 3, 1) := by decide +kernel
theorem dX1_strongerThan_14 : decode cX1_strongerThan 14 = .ok (.invokevirtual 57, 3) := by decide +kernel
theorem dX1_strongerThan_17 : decode cX1_strongerThan 17 = .ok (.astore 4, 2) := by decide +kernel
theorem dX1_strongerThan_19 : decode cX1_strongerThan 19 = .ok (.aload 4, 2) := by decide +kernel
theorem dX1_strongerThan_21 : decode cX1_strongerThan 21 = .ok (.ifnull 38, 3) := by decide +kernel
theorem dX1_strongerThan_24 : decode cX1_strongerThan 24 = .ok (.aload 4, 2) := by decide +kernel
theorem dX1_strongerThan_26 : decode cX1_strongerThan 26 = .ok (.getfield 95, 3) := by decide +kernel
theorem dX1_strongerThan_29 : decode cX1_strongerThan 29 = .ok (.aload_n 1, 1) := by decide +kernel
theorem dX1_strongerThan_30 : decode cX1_strongerThan 30 = .ok (.getfield 95, 3) := by decide +kernel
theorem dX1_strongerThan_33 : decode cX1_strongerThan 33 = .ok (.if_icmp .gt 23, 3) := by decide +kernel
theorem dX1_strongerThan_36 : decode cX1_strongerThan 36 = .ok (.aload 4, 2) := by decide +kernel
theorem dX1_strongerThan_38 : decode cX1_strongerThan 38 = .ok (.getfield 95, 3) := by decide +kernel
theorem dX1_strongerThan_41 : decode cX1_strongerThan 41 = .ok (.aload_n 1, 1) := by decide +kernel
theorem dX1_strongerThan_42 : decode cX1_strongerThan 42 = .ok (.getfield 95, 3) := by decide +kernel
theorem dX1_strongerThan_45 : decode cX1_strongerThan 45 = .ok (.if_icmp .ne 14, 3) := by decide +kernel
theorem dX1_strongerThan_48 : decode cX1_strongerThan 48 = .ok (.iload_n 3, 1) := by decide +kernel
theorem dX1_strongerThan_49 : decode cX1_strongerThan 49 = .ok (.aload_n 1, 1) := by decide +kernel
theorem dX1_strongerThan_50 : decode cX1_strongerThan 50 = .ok (.getfield 147, 3) := by decide +kernel
theorem dX1_strongerThan_53 : decode cX1_strongerThan 53 = .ok (.if_icmp .ge 6, 3) := by decide +kernel
theorem dX1_strongerThan_56 : decode cX1_strongerThan 56 = .ok (.iinc 2 1, 3) := by decide +kernel
theorem dX1_strongerThan_59 : decode cX1_strongerThan 59 = .ok (.iinc 3 1, 3) := by decide +kernel
theorem dX1_strongerThan_62 : decode cX1_strongerThan 62 = .ok (.goto (-58), 3) := by decide +kernel
theorem dX1_strongerThan_65 : decode cX1_strongerThan 65 = .ok (.iload_n 2, 1) := by decide +kernel
theorem dX1_strongerThan_66 : decode cX1_strongerThan 66 = .ok (.ireturn, 1) := by decide +kernel
theorem dX1_unfallenCount_0 : decode cX1_unfallenCount 0 = .ok (.aload_n 0, 1) := by decide +kernel
theorem dX1_unfallenCount_1 : decode cX1_unfallenCount 1 = .ok (.getfield 21, 3) := by decide +kernel
theorem dX1_unfallenCount_4 : decode cX1_unfallenCount 4 = .ok (.aload_n 0, 1) := by decide +kernel
theorem dX1_unfallenCount_5 : decode cX1_unfallenCount 5 = .ok (.iconst 0, 1) := by decide +kernel
theorem dX1_unfallenCount_6 : decode cX1_unfallenCount 6 = .ok (.invokevirtual 178, 3) := by decide +kernel
theorem dX1_unfallenCount_9 : decode cX1_unfallenCount 9 = .ok (.isub, 1) := by decide +kernel
theorem dX1_unfallenCount_10 : decode cX1_unfallenCount 10 = .ok (.aload_n 0, 1) := by decide +kernel
theorem dX1_unfallenCount_11 : decode cX1_unfallenCount 11 = .ok (.iconst 1, 1) := by decide +kernel
theorem dX1_unfallenCount_12 : decode cX1_unfallenCount 12 = .ok (.invokevirtual 178, 3) := by decide +kernel
theorem dX1_unfallenCount_15 : decode cX1_unfallenCount 15 = .ok (.isub, 1) := by decide +kernel
theorem dX1_unfallenCount_16 : decode cX1_unfallenCount 16 = .ok (.ireturn, 1) := by decide +kernel
theorem dX1_moraleSum_0 : decode cX1_moraleSum 0 = .ok (.iconst 0, 1) := by decide +kernel
theorem dX1_moraleSum_1 : decode cX1_moraleSum 1 = .ok (.istore_n 1, 1) := by decide +kernel
theorem dX1_moraleSum_2 : decode cX1_moraleSum 2 = .ok (.iconst 0, 1) := by decide +kernel
theorem dX1_moraleSum_3 : decode cX1_moraleSum 3 = .ok (.istore_n 2, 1) := by decide +kernel
theorem dX1_moraleSum_4 : decode cX1_moraleSum 4 = .ok (.iload_n 2, 1) := by decide +kernel
theorem dX1_moraleSum_5 : decode cX1_moraleSum 5 = .ok (.aload_n 0, 1) := by decide +kernel
theorem dX1_moraleSum_6 : decode cX1_moraleSum 6 = .ok (.getfield 21, 3) := by decide +kernel
theorem dX1_moraleSum_9 : decode cX1_moraleSum 9 = .ok (.if_icmp .ge 33, 3) := by decide +kernel
theorem dX1_moraleSum_12 : decode cX1_moraleSum 12 = .ok (.aload_n 0, 1) := by decide +kernel
theorem dX1_moraleSum_13 : decode cX1_moraleSum 13 = .ok (.iload_n 2, 1) := by decide +kernel
theorem dX1_moraleSum_14 : decode cX1_moraleSum 14 = .ok (.invokevirtual 57, 3) := by decide +kernel
theorem dX1_moraleSum_17 : decode cX1_moraleSum 17 = .ok (.astore_n 3, 1) := by decide +kernel
theorem dX1_moraleSum_18 : decode cX1_moraleSum 18 = .ok (.aload_n 3, 1) := by decide +kernel
theorem dX1_moraleSum_19 : decode cX1_moraleSum 19 = .ok (.ifnull 17, 3) := by decide +kernel
theorem dX1_moraleSum_22 : decode cX1_moraleSum 22 = .ok (.aload_n 3, 1) := by decide +kernel
theorem dX1_moraleSum_23 : decode cX1_moraleSum 23 = .ok (.invokevirtual 172, 3) := by decide +kernel
theorem dX1_moraleSum_26 : decode cX1_moraleSum 26 = .ok (.ifCond .ne 10, 3) := by decide +kernel
theorem dX1_moraleSum_29 : decode cX1_moraleSum 29 = .ok (.iload_n 1, 1) := by decide +kernel
theorem dX1_moraleSum_30 : decode cX1_moraleSum 30 = .ok (.aload_n 3, 1) := by decide +kernel
theorem dX1_moraleSum_31 : decode cX1_moraleSum 31 = .ok (.getfield 98, 3) := by decide +kernel
theorem dX1_moraleSum_34 : decode cX1_moraleSum 34 = .ok (.iadd, 1) := by decide +kernel
theorem dX1_moraleSum_35 : decode cX1_moraleSum 35 = .ok (.istore_n 1, 1) := by decide +kernel
theorem dX1_moraleSum_36 : decode cX1_moraleSum 36 = .ok (.iinc 2 1, 3) := by decide +kernel
theorem dX1_moraleSum_39 : decode cX1_moraleSum 39 = .ok (.goto (-35), 3) := by decide +kernel
theorem dX1_moraleSum_42 : decode cX1_moraleSum 42 = .ok (.iload_n 1, 1) := by decide +kernel
theorem dX1_moraleSum_43 : decode cX1_moraleSum 43 = .ok (.ireturn, 1) := by decide +kernel
theorem dX1_standingCount_0 : decode cX1_standingCount 0 = .ok (.iconst 0, 1) := by decide +kernel
theorem dX1_standingCount_1 : decode cX1_standingCount 1 = .ok (.istore_n 1, 1) := by decide +kernel
theorem dX1_standingCount_2 : decode cX1_standingCount 2 = .ok (.iconst 0, 1) := by decide +kernel
theorem dX1_standingCount_3 : decode cX1_standingCount 3 = .ok (.istore_n 2, 1) := by decide +kernel
theorem dX1_standingCount_4 : decode cX1_standingCount 4 = .ok (.iload_n 2, 1) := by decide +kernel
theorem dX1_standingCount_5 : decode cX1_standingCount 5 = .ok (.aload_n 0, 1) := by decide +kernel
theorem dX1_standingCount_6 : decode cX1_standingCount 6 = .ok (.getfield 21, 3) := by decide +kernel
theorem dX1_standingCount_9 : decode cX1_standingCount 9 = .ok (.if_icmp .ge 29, 3) := by decide +kernel
theorem dX1_standingCount_12 : decode cX1_standingCount 12 = .ok (.aload_n 0, 1) := by decide +kernel
theorem dX1_standingCount_13 : decode cX1_standingCount 13 = .ok (.iload_n 2, 1) := by decide +kernel
theorem dX1_standingCount_14 : decode cX1_standingCount 14 = .ok (.invokevirtual 57, 3) := by decide +kernel
theorem dX1_standingCount_17 : decode cX1_standingCount 17 = .ok (.astore_n 3, 1) := by decide +kernel
theorem dX1_standingCount_18 : decode cX1_standingCount 18 = .ok (.aload_n 3, 1) := by decide +kernel
theorem dX1_standingCount_19 : decode cX1_standingCount 19 = .ok (.ifnull 13, 3) := by decide +kernel
theorem dX1_standingCount_22 : decode cX1_standingCount 22 = .ok (.aload_n 3, 1) := by decide +kernel
theorem dX1_standingCount_23 : decode cX1_standingCount 23 = .ok (.invokevirtual 113, 3) := by decide +kernel
theorem dX1_standingCount_26 : decode cX1_standingCount 26 = .ok (.ifCond .eq 6, 3) := by decide +kernel
theorem dX1_standingCount_29 : decode cX1_standingCount 29 = .ok (.iinc 1 1, 3) := by decide +kernel
theorem dX1_standingCount_32 : decode cX1_standingCount 32 = .ok (.iinc 2 1, 3) := by decide +kernel
theorem dX1_standingCount_35 : decode cX1_standingCount 35 = .ok (.goto (-31), 3) := by decide +kernel
theorem dX1_standingCount_38 : decode cX1_standingCount 38 = .ok (.iload_n 1, 1) := by decide +kernel
theorem dX1_standingCount_39 : decode cX1_standingCount 39 = .ok (.ireturn, 1) := by decide +kernel
theorem dX1_agrees_0 : decode cX1_agrees 0 = .ok (.iconst 0, 1) := by decide +kernel
theorem dX1_agrees_1 : decode cX1_agrees 1 = .ok (.istore_n 1, 1) := by decide +kernel
theorem dX1_agrees_2 : decode cX1_agrees 2 = .ok (.iload_n 1, 1) := by decide +kernel
theorem dX1_agrees_3 : decode cX1_agrees 3 = .ok (.aload_n 0, 1) := by decide +kernel
theorem dX1_agrees_4 : decode cX1_agrees 4 = .ok (.getfield 21, 3) := by decide +kernel
theorem dX1_agrees_7 : decode cX1_agrees 7 = .ok (.if_icmp .ge 54, 3) := by decide +kernel
theorem dX1_agrees_10 : decode cX1_agrees 10 = .ok (.aload_n 0, 1) := by decide +kernel
theorem dX1_agrees_11 : decode cX1_agrees 11 = .ok (.iload_n 1, 1) := by decide +kernel
theorem dX1_agrees_12 : decode cX1_agrees 12 = .ok (.invokevirtual 57, 3) := by decide +kernel
theorem dX1_agrees_15 : decode cX1_agrees 15 = .ok (.astore_n 2, 1) := by decide +kernel
theorem dX1_agrees_16 : decode cX1_agrees 16 = .ok (.aload_n 2, 1) := by decide +kernel
theorem dX1_agrees_17 : decode cX1_agrees 17 = .ok (.ifnull 38, 3) := by decide +kernel
theorem dX1_agrees_20 : decode cX1_agrees 20 = .ok (.aload_n 2, 1) := by decide +kernel
theorem dX1_agrees_21 : decode cX1_agrees 21 = .ok (.invokevirtual 172, 3) := by decide +kernel
theorem dX1_agrees_24 : decode cX1_agrees 24 = .ok (.ifCond .ne 31, 3) := by decide +kernel
theorem dX1_agrees_27 : decode cX1_agrees 27 = .ok (.aload_n 0, 1) := by decide +kernel
theorem dX1_agrees_28 : decode cX1_agrees 28 = .ok (.aload_n 2, 1) := by decide +kernel
theorem dX1_agrees_29 : decode cX1_agrees 29 = .ok (.invokevirtual 181, 3) := by decide +kernel
theorem dX1_agrees_32 : decode cX1_agrees 32 = .ok (.aload_n 0, 1) := by decide +kernel
theorem dX1_agrees_33 : decode cX1_agrees 33 = .ok (.aload_n 2, 1) := by decide +kernel
theorem dX1_agrees_34 : decode cX1_agrees 34 = .ok (.invokevirtual 154, 3) := by decide +kernel
theorem dX1_agrees_37 : decode cX1_agrees 37 = .ok (.if_icmp .ne 16, 3) := by decide +kernel
theorem dX1_agrees_40 : decode cX1_agrees 40 = .ok (.aload_n 0, 1) := by decide +kernel
theorem dX1_agrees_41 : decode cX1_agrees 41 = .ok (.aload_n 2, 1) := by decide +kernel
theorem dX1_agrees_42 : decode cX1_agrees 42 = .ok (.invokevirtual 184, 3) := by decide +kernel
theorem dX1_agrees_45 : decode cX1_agrees 45 = .ok (.aload_n 0, 1) := by decide +kernel
theorem dX1_agrees_46 : decode cX1_agrees 46 = .ok (.aload_n 2, 1) := by decide +kernel
theorem dX1_agrees_47 : decode cX1_agrees 47 = .ok (.invokevirtual 187, 3) := by decide +kernel
theorem dX1_agrees_50 : decode cX1_agrees 50 = .ok (.if_icmp .eq 5, 3) := by decide +kernel
theorem dX1_agrees_53 : decode cX1_agrees 53 = .ok (.iconst 0, 1) := by decide +kernel
theorem dX1_agrees_54 : decode cX1_agrees 54 = .ok (.ireturn, 1) := by decide +kernel
theorem dX1_agrees_55 : decode cX1_agrees 55 = .ok (.iinc 1 1, 3) := by decide +kernel
theorem dX1_agrees_58 : decode cX1_agrees 58 = .ok (.goto (-56), 3) := by decide +kernel
theorem dX1_agrees_61 : decode cX1_agrees 61 = .ok (.aload_n 0, 1) := by decide +kernel
theorem dX1_agrees_62 : decode cX1_agrees 62 = .ok (.iconst 0, 1) := by decide +kernel
theorem dX1_agrees_63 : decode cX1_agrees 63 = .ok (.invokevirtual 190, 3) := by decide +kernel
theorem dX1_agrees_66 : decode cX1_agrees 66 = .ok (.aload_n 0, 1) := by decide +kernel
theorem dX1_agrees_67 : decode cX1_agrees 67 = .ok (.iconst 0, 1) := by decide +kernel
theorem dX1_agrees_68 : decode cX1_agrees 68 = .ok (.invokevirtual 193, 3) := by decide +kernel
theorem dX1_agrees_71 : decode cX1_agrees 71 = .ok (.if_icmp .ne 20, 3) := by decide +kernel
theorem dX1_agrees_74 : decode cX1_agrees 74 = .ok (.aload_n 0, 1) := by decide +kernel
theorem dX1_agrees_75 : decode cX1_agrees 75 = .ok (.iconst 1, 1) := by decide +kernel
theorem dX1_agrees_76 : decode cX1_agrees 76 = .ok (.invokevirtual 190, 3) := by decide +kernel
theorem dX1_agrees_79 : decode cX1_agrees 79 = .ok (.aload_n 0, 1) := by decide +kernel
theorem dX1_agrees_80 : decode cX1_agrees 80 = .ok (.iconst 1, 1) := by decide +kernel
theorem dX1_agrees_81 : decode cX1_agrees 81 = .ok (.invokevirtual 193, 3) := by decide +kernel
theorem dX1_agrees_84 : decode cX1_agrees 84 = .ok (.if_icmp .ne 7, 3) := by decide +kernel
theorem dX1_agrees_87 : decode cX1_agrees 87 = .ok (.iconst 1, 1) := by decide +kernel
theorem dX1_agrees_88 : decode cX1_agrees 88 = .ok (.goto 4, 3) := by decide +kernel
theorem dX1_agrees_91 : decode cX1_agrees 91 = .ok (.iconst 0, 1) := by decide +kernel
theorem dX1_agrees_92 : decode cX1_agrees 92 = .ok (.ireturn, 1) := by decide +kernel
theorem dX2_init_0 : decode cX2_init 0 = .ok (.aload_n 0, 1) := by decide +kernel
theorem dX2_init_1 : decode cX2_init 1 = .ok (.invokespecial 3, 3) := by decide +kernel
theorem dX2_init_4 : decode cX2_init 4 = .ok (.aload_n 0, 1) := by decide +kernel
theorem dX2_init_5 : decode cX2_init 5 = .ok (.bipush 8, 2) := by decide +kernel
theorem dX2_init_7 : decode cX2_init 7 = .ok (.anewarray 9, 3) := by decide +kernel
theorem dX2_init_10 : decode cX2_init 10 = .ok (.putfield 11, 3) := by decide +kernel
theorem dX2_init_13 : decode cX2_init 13 = .ok (.aload_n 0, 1) := by decide +kernel
theorem dX2_init_14 : decode cX2_init 14 = .ok (.iconst 0, 1) := by decide +kernel
theorem dX2_init_15 : decode cX2_init 15 = .ok (.putfield 17, 3) := by decide +kernel
theorem dX2_init_18 : decode cX2_init 18 = .ok (.aload_n 0, 1) := by decide +kernel
theorem dX2_init_19 : decode cX2_init 19 = .ok (.iconst 0, 1) := by decide +kernel
theorem dX2_init_20 : decode cX2_init 20 = .ok (.putfield 21, 3) := by decide +kernel
theorem dX2_init_23 : decode cX2_init 23 = .ok (.iconst 0, 1) := by decide +kernel
theorem dX2_init_24 : decode cX2_init 24 = .ok (.istore_n 1, 1) := by decide +kernel
theorem dX2_init_25 : decode cX2_init 25 = .ok (.iload_n 1, 1) := by decide +kernel
theorem dX2_init_26 : decode cX2_init 26 = .ok (.aload_n 0, 1) := by decide +kernel
theorem dX2_init_27 : decode cX2_init 27 = .ok (.getfield 11, 3) := by decide +kernel
theorem dX2_init_30 : decode cX2_init 30 = .ok (.arraylength, 1) := by decide +kernel
theorem dX2_init_31 : decode cX2_init 31 = .ok (.if_icmp .ge 22, 3) := by decide +kernel
theorem dX2_init_34 : decode cX2_init 34 = .ok (.aload_n 0, 1) := by decide +kernel
theorem dX2_init_35 : decode cX2_init 35 = .ok (.getfield 11, 3) := by decide +kernel
theorem dX2_init_38 : decode cX2_init 38 = .ok (.iload_n 1, 1) := by decide +kernel
theorem dX2_init_39 : decode cX2_init 39 = .ok (.new 9, 3) := by decide +kernel
theorem dX2_init_42 : decode cX2_init 42 = .ok (.dup, 1) := by decide +kernel
theorem dX2_init_43 : decode cX2_init 43 = .ok (.invokespecial 24, 3) := by decide +kernel
theorem dX2_init_46 : decode cX2_init 46 = .ok (.aastore, 1) := by decide +kernel
theorem dX2_init_47 : decode cX2_init 47 = .ok (.iinc 1 1, 3) := by decide +kernel
theorem dX2_init_50 : decode cX2_init 50 = .ok (.goto (-25), 3) := by decide +kernel
theorem dX2_init_53 : decode cX2_init 53 = .ok (.return_, 1) := by decide +kernel
theorem dX2_keep_0 : decode cX2_keep 0 = .ok (.aload_n 0, 1) := by decide +kernel
theorem dX2_keep_1 : decode cX2_keep 1 = .ok (.aload_n 0, 1) := by decide +kernel
theorem dX2_keep_2 : decode cX2_keep 2 = .ok (.getfield 17, 3) := by decide +kernel
theorem dX2_keep_5 : decode cX2_keep 5 = .ok (.iconst 1, 1) := by decide +kernel
theorem dX2_keep_6 : decode cX2_keep 6 = .ok (.iadd, 1) := by decide +kernel
theorem dX2_keep_7 : decode cX2_keep 7 = .ok (.bipush 8, 2) := by decide +kernel
theorem dX2_keep_9 : decode cX2_keep 9 = .ok (.irem, 1) := by decide +kernel
theorem dX2_keep_10 : decode cX2_keep 10 = .ok (.putfield 17, 3) := by decide +kernel
theorem dX2_keep_13 : decode cX2_keep 13 = .ok (.aload_n 0, 1) := by decide +kernel
theorem dX2_keep_14 : decode cX2_keep 14 = .ok (.bipush 8, 2) := by decide +kernel
theorem dX2_keep_16 : decode cX2_keep 16 = .ok (.aload_n 0, 1) := by decide +kernel
theorem dX2_keep_17 : decode cX2_keep 17 = .ok (.getfield 21, 3) := by decide +kernel
theorem dX2_keep_20 : decode cX2_keep 20 = .ok (.iconst 1, 1) := by decide +kernel
theorem dX2_keep_21 : decode cX2_keep 21 = .ok (.iadd, 1) := by decide +kernel
theorem dX2_keep_22 : decode cX2_keep 22 = .ok (.invokestatic 25, 3) := by decide +kernel
theorem dX2_keep_25 : decode cX2_keep 25 = .ok (.putfield 21, 3) := by decide +kernel
theorem dX2_keep_28 : decode cX2_keep 28 = .ok (.aload_n 0, 1) := by decide +kernel
theorem dX2_keep_29 : decode cX2_keep 29 = .ok (.invokevirtual 31, 3) := by decide +kernel
theorem dX2_keep_32 : decode cX2_keep 32 = .ok (.astore_n 2, 1) := by decide +kernel
theorem dX2_keep_33 : decode cX2_keep 33 = .ok (.aload_n 2, 1) := by decide +kernel
theorem dX2_keep_34 : decode cX2_keep 34 = .ok (.ifnull 8, 3) := by decide +kernel
theorem dX2_keep_37 : decode cX2_keep 37 = .ok (.aload_n 2, 1) := by decide +kernel
theorem dX2_keep_38 : decode cX2_keep 38 = .ok (.aload_n 1, 1) := by decide +kernel
theorem dX2_keep_39 : decode cX2_keep 39 = .ok (.invokevirtual 35, 3) := by decide +kernel
theorem dX2_keep_42 : decode cX2_keep 42 = .ok (.return_, 1) := by decide +kernel
theorem dX2_takeBack_0 : decode cX2_takeBack 0 = .ok (.aload_n 0, 1) := by decide +kernel
theorem dX2_takeBack_1 : decode cX2_takeBack 1 = .ok (.invokevirtual 31, 3) := by decide +kernel
theorem dX2_takeBack_4 : decode cX2_takeBack 4 = .ok (.astore_n 2, 1) := by decide +kernel
theorem dX2_takeBack_5 : decode cX2_takeBack 5 = .ok (.aload_n 0, 1) := by decide +kernel
theorem dX2_takeBack_6 : decode cX2_takeBack 6 = .ok (.getfield 21, 3) := by decide +kernel
theorem dX2_takeBack_9 : decode cX2_takeBack 9 = .ok (.ifCond .eq 7, 3) := by decide +kernel
theorem dX2_takeBack_12 : decode cX2_takeBack 12 = .ok (.aload_n 2, 1) := by decide +kernel
theorem dX2_takeBack_13 : decode cX2_takeBack 13 = .ok (.ifnonnull 5, 3) := by decide +kernel
theorem dX2_takeBack_16 : decode cX2_takeBack 16 = .ok (.iconst 0, 1) := by decide +kernel
theorem dX2_takeBack_17 : decode cX2_takeBack 17 = .ok (.ireturn, 1) := by decide +kernel
theorem dX2_takeBack_18 : decode cX2_takeBack 18 = .ok (.aload_n 1, 1) := by decide +kernel
theorem dX2_takeBack_19 : decode cX2_takeBack 19 = .ok (.aload_n 2, 1) := by decide +kernel
theorem dX2_takeBack_20 : decode cX2_takeBack 20 = .ok (.invokevirtual 35, 3) := by decide +kernel
theorem dX2_takeBack_23 : decode cX2_takeBack 23 = .ok (.aload_n 0, 1) := by decide +kernel
theorem dX2_takeBack_24 : decode cX2_takeBack 24 = .ok (.aload_n 0, 1) := by decide +kernel
theorem dX2_takeBack_25 : decode cX2_takeBack 25 = .ok (.getfield 17, 3) := by decide +kernel
theorem dX2_takeBack_28 : decode cX2_takeBack 28 = .ok (.bipush 8, 2) := by decide +kernel
theorem dX2_takeBack_30 : decode cX2_takeBack 30 = .ok (.iadd, 1) := by decide +kernel
theorem dX2_takeBack_31 : decode cX2_takeBack 31 = .ok (.iconst 1, 1) := by decide +kernel
theorem dX2_takeBack_32 : decode cX2_takeBack 32 = .ok (.isub, 1) := by decide +kernel
theorem dX2_takeBack_33 : decode cX2_takeBack 33 = .ok (.bipush 8, 2) := by decide +kernel
theorem dX2_takeBack_35 : decode cX2_takeBack 35 = .ok (.irem, 1) := by decide +kernel
theorem dX2_takeBack_36 : decode cX2_takeBack 36 = .ok (.putfield 17, 3) := by decide +kernel
theorem dX2_takeBack_39 : decode cX2_takeBack 39 = .ok (.aload_n 0, 1) := by decide +kernel
theorem dX2_takeBack_40 : decode cX2_takeBack 40 = .ok (.dup, 1) := by decide +kernel
theorem dX2_takeBack_41 : decode cX2_takeBack 41 = .ok (.getfield 21, 3) := by decide +kernel
theorem dX2_takeBack_44 : decode cX2_takeBack 44 = .ok (.iconst 1, 1) := by decide +kernel
theorem dX2_takeBack_45 : decode cX2_takeBack 45 = .ok (.isub, 1) := by decide +kernel
theorem dX2_takeBack_46 : decode cX2_takeBack 46 = .ok (.putfield 21, 3) := by decide +kernel
theorem dX2_takeBack_49 : decode cX2_takeBack 49 = .ok (.iconst 1, 1) := by decide +kernel
theorem dX2_takeBack_50 : decode cX2_takeBack 50 = .ok (.ireturn, 1) := by decide +kernel
theorem dX2_newestState_0 : decode cX2_newestState 0 = .ok (.aload_n 0, 1) := by decide +kernel
theorem dX2_newestState_1 : decode cX2_newestState 1 = .ok (.getfield 17, 3) := by decide +kernel
theorem dX2_newestState_4 : decode cX2_newestState 4 = .ok (.ifCond .lt 15, 3) := by decide +kernel
theorem dX2_newestState_7 : decode cX2_newestState 7 = .ok (.aload_n 0, 1) := by decide +kernel
theorem dX2_newestState_8 : decode cX2_newestState 8 = .ok (.getfield 17, 3) := by decide +kernel
theorem dX2_newestState_11 : decode cX2_newestState 11 = .ok (.aload_n 0, 1) := by decide +kernel
theorem dX2_newestState_12 : decode cX2_newestState 12 = .ok (.getfield 11, 3) := by decide +kernel
theorem dX2_newestState_15 : decode cX2_newestState 15 = .ok (.arraylength, 1) := by decide +kernel
theorem dX2_newestState_16 : decode cX2_newestState 16 = .ok (.if_icmp .lt 7, 3) := by decide +kernel
theorem dX2_newestState_19 : decode cX2_newestState 19 = .ok (.aconst_null, 1) := by decide +kernel
theorem dX2_newestState_20 : decode cX2_newestState 20 = .ok (.goto 12, 3) := by decide +kernel
theorem dX2_newestState_23 : decode cX2_newestState 23 = .ok (.aload_n 0, 1) := by decide +kernel
theorem dX2_newestState_24 : decode cX2_newestState 24 = .ok (.getfield 11, 3) := by decide +kernel
theorem dX2_newestState_27 : decode cX2_newestState 27 = .ok (.aload_n 0, 1) := by decide +kernel
theorem dX2_newestState_28 : decode cX2_newestState 28 = .ok (.getfield 17, 3) := by decide +kernel
theorem dX2_newestState_31 : decode cX2_newestState 31 = .ok (.aaload, 1) := by decide +kernel
theorem dX2_newestState_32 : decode cX2_newestState 32 = .ok (.areturn, 1) := by decide +kernel
theorem dX3_init_0 : decode cX3_init 0 = .ok (.aload_n 0, 1) := by decide +kernel
theorem dX3_init_1 : decode cX3_init 1 = .ok (.invokespecial 3, 3) := by decide +kernel
theorem dX3_init_4 : decode cX3_init 4 = .ok (.aload_n 0, 1) := by decide +kernel
theorem dX3_init_5 : decode cX3_init 5 = .ok (.iconst 0, 1) := by decide +kernel
theorem dX3_init_6 : decode cX3_init 6 = .ok (.putfield 9, 3) := by decide +kernel
theorem dX3_init_9 : decode cX3_init 9 = .ok (.aload_n 0, 1) := by decide +kernel
theorem dX3_init_10 : decode cX3_init 10 = .ok (.iconst 0, 1) := by decide +kernel
theorem dX3_init_11 : decode cX3_init 11 = .ok (.putfield 15, 3) := by decide +kernel
theorem dX3_init_14 : decode cX3_init 14 = .ok (.aload_n 0, 1) := by decide +kernel
theorem dX3_init_15 : decode cX3_init 15 = .ok (.iconst 0, 1) := by decide +kernel
theorem dX3_init_16 : decode cX3_init 16 = .ok (.putfield 18, 3) := by decide +kernel
theorem dX3_init_19 : decode cX3_init 19 = .ok (.aload_n 0, 1) := by decide +kernel
theorem dX3_init_20 : decode cX3_init 20 = .ok (.bipush 112, 2) := by decide +kernel
theorem dX3_init_22 : decode cX3_init 22 = .ok (.putfield 21, 3) := by decide +kernel
theorem dX3_init_25 : decode cX3_init 25 = .ok (.aload_n 0, 1) := by decide +kernel
theorem dX3_init_26 : decode cX3_init 26 = .ok (.bipush 104, 2) := by decide +kernel
theorem dX3_init_28 : decode cX3_init 28 = .ok (.putfield 25, 3) := by decide +kernel
theorem dX3_init_31 : decode cX3_init 31 = .ok (.aload_n 0, 1) := by decide +kernel
theorem dX3_init_32 : decode cX3_init 32 = .ok (.iconst 0, 1) := by decide +kernel
theorem dX3_init_33 : decode cX3_init 33 = .ok (.putfield 28, 3) := by decide +kernel
theorem dX3_init_36 : decode cX3_init 36 = .ok (.aload_n 0, 1) := by decide +kernel
theorem dX3_init_37 : decode cX3_init 37 = .ok (.iconst 0, 1) := by decide +kernel
theorem dX3_init_38 : decode cX3_init 38 = .ok (.putfield 31, 3) := by decide +kernel
theorem dX3_init_41 : decode cX3_init 41 = .ok (.aload_n 0, 1) := by decide +kernel
theorem dX3_init_42 : decode cX3_init 42 = .ok (.iconst 2, 1) := by decide +kernel
theorem dX3_init_43 : decode cX3_init 43 = .ok (.putfield 34, 3) := by decide +kernel
theorem dX3_init_46 : decode cX3_init 46 = .ok (.aload_n 0, 1) := by decide +kernel
theorem dX3_init_47 : decode cX3_init 47 = .ok (.iconst 0, 1) := by decide +kernel
theorem dX3_init_48 : decode cX3_init 48 = .ok (.putfield 37, 3) := by decide +kernel
theorem dX3_init_51 : decode cX3_init 51 = .ok (.aload_n 0, 1) := by decide +kernel
theorem dX3_init_52 : decode cX3_init 52 = .ok (.iload_n 1, 1) := by decide +kernel
theorem dX3_init_53 : decode cX3_init 53 = .ok (.putfield 40, 3) := by decide +kernel
theorem dX3_init_56 : decode cX3_init 56 = .ok (.return_, 1) := by decide +kernel
theorem dX3_copyFrom_0 : decode cX3_copyFrom 0 = .ok (.aload_n 0, 1) := by decide +kernel
theorem dX3_copyFrom_1 : decode cX3_copyFrom 1 = .ok (.aload_n 1, 1) := by decide +kernel
theorem dX3_copyFrom_2 : decode cX3_copyFrom 2 = .ok (.getfield 9, 3) := by decide +kernel
theorem dX3_copyFrom_5 : decode cX3_copyFrom 5 = .ok (.putfield 9, 3) := by decide +kernel
theorem dX3_copyFrom_8 : decode cX3_copyFrom 8 = .ok (.aload_n 0, 1) := by decide +kernel
theorem dX3_copyFrom_9 : decode cX3_copyFrom 9 = .ok (.aload_n 1, 1) := by decide +kernel
theorem dX3_copyFrom_10 : decode cX3_copyFrom 10 = .ok (.getfield 15, 3) := by decide +kernel
theorem dX3_copyFrom_13 : decode cX3_copyFrom 13 = .ok (.putfield 15, 3) := by decide +kernel
theorem dX3_copyFrom_16 : decode cX3_copyFrom 16 = .ok (.aload_n 0, 1) := by decide +kernel
theorem dX3_copyFrom_17 : decode cX3_copyFrom 17 = .ok (.aload_n 1, 1) := by decide +kernel
theorem dX3_copyFrom_18 : decode cX3_copyFrom 18 = .ok (.getfield 18, 3) := by decide +kernel
theorem dX3_copyFrom_21 : decode cX3_copyFrom 21 = .ok (.putfield 18, 3) := by decide +kernel
theorem dX3_copyFrom_24 : decode cX3_copyFrom 24 = .ok (.aload_n 0, 1) := by decide +kernel
theorem dX3_copyFrom_25 : decode cX3_copyFrom 25 = .ok (.aload_n 1, 1) := by decide +kernel
theorem dX3_copyFrom_26 : decode cX3_copyFrom 26 = .ok (.getfield 21, 3) := by decide +kernel
theorem dX3_copyFrom_29 : decode cX3_copyFrom 29 = .ok (.putfield 21, 3) := by decide +kernel
theorem dX3_copyFrom_32 : decode cX3_copyFrom 32 = .ok (.aload_n 0, 1) := by decide +kernel
theorem dX3_copyFrom_33 : decode cX3_copyFrom 33 = .ok (.aload_n 1, 1) := by decide +kernel
theorem dX3_copyFrom_34 : decode cX3_copyFrom 34 = .ok (.getfield 25, 3) := by decide +kernel
theorem dX3_copyFrom_37 : decode cX3_copyFrom 37 = .ok (.putfield 25, 3) := by decide +kernel
theorem dX3_copyFrom_40 : decode cX3_copyFrom 40 = .ok (.aload_n 0, 1) := by decide +kernel
theorem dX3_copyFrom_41 : decode cX3_copyFrom 41 = .ok (.aload_n 1, 1) := by decide +kernel
theorem dX3_copyFrom_42 : decode cX3_copyFrom 42 = .ok (.getfield 28, 3) := by decide +kernel
theorem dX3_copyFrom_45 : decode cX3_copyFrom 45 = .ok (.putfield 28, 3) := by decide +kernel
theorem dX3_copyFrom_48 : decode cX3_copyFrom 48 = .ok (.aload_n 0, 1) := by decide +kernel
theorem dX3_copyFrom_49 : decode cX3_copyFrom 49 = .ok (.aload_n 1, 1) := by decide +kernel
theorem dX3_copyFrom_50 : decode cX3_copyFrom 50 = .ok (.getfield 31, 3) := by decide +kernel
theorem dX3_copyFrom_53 : decode cX3_copyFrom 53 = .ok (.putfield 31, 3) := by decide +kernel
theorem dX3_copyFrom_56 : decode cX3_copyFrom 56 = .ok (.aload_n 0, 1) := by decide +kernel
theorem dX3_copyFrom_57 : decode cX3_copyFrom 57 = .ok (.aload_n 1, 1) := by decide +kernel
theorem dX3_copyFrom_58 : decode cX3_copyFrom 58 = .ok (.getfield 34, 3) := by decide +kernel
theorem dX3_copyFrom_61 : decode cX3_copyFrom 61 = .ok (.putfield 34, 3) := by decide +kernel
theorem dX3_copyFrom_64 : decode cX3_copyFrom 64 = .ok (.aload_n 0, 1) := by decide +kernel
theorem dX3_copyFrom_65 : decode cX3_copyFrom 65 = .ok (.aload_n 1, 1) := by decide +kernel
theorem dX3_copyFrom_66 : decode cX3_copyFrom 66 = .ok (.getfield 37, 3) := by decide +kernel
theorem dX3_copyFrom_69 : decode cX3_copyFrom 69 = .ok (.putfield 37, 3) := by decide +kernel
theorem dX3_copyFrom_72 : decode cX3_copyFrom 72 = .ok (.return_, 1) := by decide +kernel
theorem dX3_stands_0 : decode cX3_stands 0 = .ok (.aload_n 0, 1) := by decide +kernel
theorem dX3_stands_1 : decode cX3_stands 1 = .ok (.getfield 34, 3) := by decide +kernel
theorem dX3_stands_4 : decode cX3_stands 4 = .ok (.ifCond .ne 7, 3) := by decide +kernel
theorem dX3_stands_7 : decode cX3_stands 7 = .ok (.iconst 1, 1) := by decide +kernel
theorem dX3_stands_8 : decode cX3_stands 8 = .ok (.goto 4, 3) := by decide +kernel
theorem dX3_stands_11 : decode cX3_stands 11 = .ok (.iconst 0, 1) := by decide +kernel
theorem dX3_stands_12 : decode cX3_stands 12 = .ok (.ireturn, 1) := by decide +kernel
theorem dX3_routed_0 : decode cX3_routed 0 = .ok (.aload_n 0, 1) := by decide +kernel
theorem dX3_routed_1 : decode cX3_routed 1 = .ok (.getfield 34, 3) := by decide +kernel
theorem dX3_routed_4 : decode cX3_routed 4 = .ok (.iconst 1, 1) := by decide +kernel
theorem dX3_routed_5 : decode cX3_routed 5 = .ok (.if_icmp .ne 7, 3) := by decide +kernel
theorem dX3_routed_8 : decode cX3_routed 8 = .ok (.iconst 1, 1) := by decide +kernel
theorem dX3_routed_9 : decode cX3_routed 9 = .ok (.goto 4, 3) := by decide +kernel
theorem dX3_routed_12 : decode cX3_routed 12 = .ok (.iconst 0, 1) := by decide +kernel
theorem dX3_routed_13 : decode cX3_routed 13 = .ok (.ireturn, 1) := by decide +kernel
theorem dX3_hasFallen_0 : decode cX3_hasFallen 0 = .ok (.aload_n 0, 1) := by decide +kernel
theorem dX3_hasFallen_1 : decode cX3_hasFallen 1 = .ok (.getfield 34, 3) := by decide +kernel
theorem dX3_hasFallen_4 : decode cX3_hasFallen 4 = .ok (.iconst 2, 1) := by decide +kernel
theorem dX3_hasFallen_5 : decode cX3_hasFallen 5 = .ok (.if_icmp .ne 7, 3) := by decide +kernel
theorem dX3_hasFallen_8 : decode cX3_hasFallen 8 = .ok (.iconst 1, 1) := by decide +kernel
theorem dX3_hasFallen_9 : decode cX3_hasFallen 9 = .ok (.goto 4, 3) := by decide +kernel
theorem dX3_hasFallen_12 : decode cX3_hasFallen 12 = .ok (.iconst 0, 1) := by decide +kernel
theorem dX3_hasFallen_13 : decode cX3_hasFallen 13 = .ok (.ireturn, 1) := by decide +kernel
theorem dX3_forward_0 : decode cX3_forward 0 = .ok (.aload_n 0, 1) := by decide +kernel
theorem dX3_forward_1 : decode cX3_forward 1 = .ok (.getfield 9, 3) := by decide +kernel
theorem dX3_forward_4 : decode cX3_forward 4 = .ok (.ifCond .ne 7, 3) := by decide +kernel
theorem dX3_forward_7 : decode cX3_forward 7 = .ok (.iconst 1, 1) := by decide +kernel
theorem dX3_forward_8 : decode cX3_forward 8 = .ok (.goto 4, 3) := by decide +kernel
theorem dX3_forward_11 : decode cX3_forward 11 = .ok (.iconst (-1), 1) := by decide +kernel
theorem dX3_forward_12 : decode cX3_forward 12 = .ok (.ireturn, 1) := by decide +kernel
theorem dX3_attack_0 : decode cX3_attack 0 = .ok (.aload_n 0, 1) := by decide +kernel
theorem dX3_attack_1 : decode cX3_attack 1 = .ok (.getfield 21, 3) := by decide +kernel
theorem dX3_attack_4 : decode cX3_attack 4 = .ok (.bipush 112, 2) := by decide +kernel
theorem dX3_attack_6 : decode cX3_attack 6 = .ok (.if_icmp .ne 21, 3) := by decide +kernel
theorem dX3_attack_9 : decode cX3_attack 9 = .ok (.aload_n 0, 1) := by decide +kernel
theorem dX3_attack_10 : decode cX3_attack 10 = .ok (.getfield 28, 3) := by decide +kernel
theorem dX3_attack_13 : decode cX3_attack 13 = .ok (.iconst 4, 1) := by decide +kernel
theorem dX3_attack_14 : decode cX3_attack 14 = .ok (.idiv, 1) := by decide +kernel
theorem dX3_attack_15 : decode cX3_attack 15 = .ok (.iload_n 1, 1) := by decide +kernel
theorem dX3_attack_16 : decode cX3_attack 16 = .ok (.ifCond .eq 8, 3) := by decide +kernel
theorem dX3_attack_19 : decode cX3_attack 19 = .ok (.bipush 6, 2) := by decide +kernel
theorem dX3_attack_21 : decode cX3_attack 21 = .ok (.goto 4, 3) := by decide +kernel
theorem dX3_attack_24 : decode cX3_attack 24 = .ok (.iconst 0, 1) := by decide +kernel
theorem dX3_attack_25 : decode cX3_attack 25 = .ok (.iadd, 1) := by decide +kernel
theorem dX3_attack_26 : decode cX3_attack 26 = .ok (.ireturn, 1) := by decide +kernel
theorem dX3_attack_27 : decode cX3_attack 27 = .ok (.aload_n 0, 1) := by decide +kernel
theorem dX3_attack_28 : decode cX3_attack 28 = .ok (.getfield 21, 3) := by decide +kernel
theorem dX3_attack_31 : decode cX3_attack 31 = .ok (.bipush 110, 2) := by decide +kernel
theorem dX3_attack_33 : decode cX3_attack 33 = .ok (.if_icmp .ne 12, 3) := by decide +kernel
theorem dX3_attack_36 : decode cX3_attack 36 = .ok (.aload_n 0, 1) := by decide +kernel
theorem dX3_attack_37 : decode cX3_attack 37 = .ok (.getfield 28, 3) := by decide +kernel
theorem dX3_attack_40 : decode cX3_attack 40 = .ok (.iconst 5, 1) := by decide +kernel
theorem dX3_attack_41 : decode cX3_attack 41 = .ok (.idiv, 1) := by decide +kernel
theorem dX3_attack_42 : decode cX3_attack 42 = .ok (.iconst 2, 1) := by decide +kernel
theorem dX3_attack_43 : decode cX3_attack 43 = .ok (.iadd, 1) := by decide +kernel
theorem dX3_attack_44 : decode cX3_attack 44 = .ok (.ireturn, 1) := by decide +kernel
theorem dX3_attack_45 : decode cX3_attack 45 = .ok (.aload_n 0, 1) := by decide +kernel
theorem dX3_attack_46 : decode cX3_attack 46 = .ok (.getfield 21, 3) := by decide +kernel
theorem dX3_attack_49 : decode cX3_attack 49 = .ok (.bipush 99, 2) := by decide +kernel
theorem dX3_attack_51 : decode cX3_attack 51 = .ok (.if_icmp .ne 10, 3) := by decide +kernel
theorem dX3_attack_54 : decode cX3_attack 54 = .ok (.aload_n 0, 1) := by decide +kernel
theorem dX3_attack_55 : decode cX3_attack 55 = .ok (.getfield 28, 3) := by decide +kernel
theorem dX3_attack_58 : decode cX3_attack 58 = .ok (.iconst 3, 1) := by decide +kernel
theorem dX3_attack_59 : decode cX3_attack 59 = .ok (.idiv, 1) := by decide +kernel
theorem dX3_attack_60 : decode cX3_attack 60 = .ok (.ireturn, 1) := by decide +kernel
theorem dX3_attack_61 : decode cX3_attack 61 = .ok (.aload_n 0, 1) := by decide +kernel
theorem dX3_attack_62 : decode cX3_attack 62 = .ok (.getfield 28, 3) := by decide +kernel
theorem dX3_attack_65 : decode cX3_attack 65 = .ok (.bipush 6, 2) := by decide +kernel
theorem dX3_attack_67 : decode cX3_attack 67 = .ok (.idiv, 1) := by decide +kernel
theorem dX3_attack_68 : decode cX3_attack 68 = .ok (.iconst 1, 1) := by decide +kernel
theorem dX3_attack_69 : decode cX3_attack 69 = .ok (.iadd, 1) := by decide +kernel
theorem dX3_attack_70 : decode cX3_attack 70 = .ok (.ireturn, 1) := by decide +kernel
theorem dX3_counter_0 : decode cX3_counter 0 = .ok (.aload_n 0, 1) := by decide +kernel
theorem dX3_counter_1 : decode cX3_counter 1 = .ok (.getfield 21, 3) := by decide +kernel
theorem dX3_counter_4 : decode cX3_counter 4 = .ok (.bipush 112, 2) := by decide +kernel
theorem dX3_counter_6 : decode cX3_counter 6 = .ok (.if_icmp .ne 11, 3) := by decide +kernel
theorem dX3_counter_9 : decode cX3_counter 9 = .ok (.aload_n 0, 1) := by decide +kernel
theorem dX3_counter_10 : decode cX3_counter 10 = .ok (.getfield 28, 3) := by decide +kernel
theorem dX3_counter_13 : decode cX3_counter 13 = .ok (.bipush 8, 2) := by decide +kernel
theorem dX3_counter_15 : decode cX3_counter 15 = .ok (.idiv, 1) := by decide +kernel
theorem dX3_counter_16 : decode cX3_counter 16 = .ok (.ireturn, 1) := by decide +kernel
theorem dX3_counter_17 : decode cX3_counter 17 = .ok (.aload_n 0, 1) := by decide +kernel
theorem dX3_counter_18 : decode cX3_counter 18 = .ok (.getfield 21, 3) := by decide +kernel
theorem dX3_counter_21 : decode cX3_counter 21 = .ok (.bipush 110, 2) := by decide +kernel
theorem dX3_counter_23 : decode cX3_counter 23 = .ok (.if_icmp .ne 10, 3) := by decide +kernel
theorem dX3_counter_26 : decode cX3_counter 26 = .ok (.aload_n 0, 1) := by decide +kernel
theorem dX3_counter_27 : decode cX3_counter 27 = .ok (.getfield 28, 3) := by decide +kernel
theorem dX3_counter_30 : decode cX3_counter 30 = .ok (.iconst 4, 1) := by decide +kernel
theorem dX3_counter_31 : decode cX3_counter 31 = .ok (.idiv, 1) := by decide +kernel
theorem dX3_counter_32 : decode cX3_counter 32 = .ok (.ireturn, 1) := by decide +kernel
theorem dX3_counter_33 : decode cX3_counter 33 = .ok (.aload_n 0, 1) := by decide +kernel
theorem dX3_counter_34 : decode cX3_counter 34 = .ok (.getfield 21, 3) := by decide +kernel
theorem dX3_counter_37 : decode cX3_counter 37 = .ok (.bipush 99, 2) := by decide +kernel
theorem dX3_counter_39 : decode cX3_counter 39 = .ok (.if_icmp .ne 11, 3) := by decide +kernel
theorem dX3_counter_42 : decode cX3_counter 42 = .ok (.aload_n 0, 1) := by decide +kernel
theorem dX3_counter_43 : decode cX3_counter 43 = .ok (.getfield 28, 3) := by decide +kernel
theorem dX3_counter_46 : decode cX3_counter 46 = .ok (.bipush 10, 2) := by decide +kernel
theorem dX3_counter_48 : decode cX3_counter 48 = .ok (.idiv, 1) := by decide +kernel
theorem dX3_counter_49 : decode cX3_counter 49 = .ok (.ireturn, 1) := by decide +kernel
theorem dX3_counter_50 : decode cX3_counter 50 = .ok (.aload_n 0, 1) := by decide +kernel
theorem dX3_counter_51 : decode cX3_counter 51 = .ok (.getfield 28, 3) := by decide +kernel
theorem dX3_counter_54 : decode cX3_counter 54 = .ok (.bipush 6, 2) := by decide +kernel
theorem dX3_counter_56 : decode cX3_counter 56 = .ok (.idiv, 1) := by decide +kernel
theorem dX3_counter_57 : decode cX3_counter 57 = .ok (.ireturn, 1) := by decide +kernel
theorem dX3_suffer_0 : decode cX3_suffer 0 = .ok (.aload_n 0, 1) := by decide +kernel
theorem dX3_suffer_1 : decode cX3_suffer 1 = .ok (.iconst 0, 1) := by decide +kernel
theorem dX3_suffer_2 : decode cX3_suffer 2 = .ok (.aload_n 0, 1) := by decide +kernel
theorem dX3_suffer_3 : decode cX3_suffer 3 = .ok (.getfield 28, 3) := by decide +kernel
theorem dX3_suffer_6 : decode cX3_suffer 6 = .ok (.iload_n 1, 1) := by decide +kernel
theorem dX3_suffer_7 : decode cX3_suffer 7 = .ok (.isub, 1) := by decide +kernel
theorem dX3_suffer_8 : decode cX3_suffer 8 = .ok (.invokestatic 43, 3) := by decide +kernel
theorem dX3_suffer_11 : decode cX3_suffer 11 = .ok (.putfield 28, 3) := by decide +kernel
theorem dX3_suffer_14 : decode cX3_suffer 14 = .ok (.aload_n 0, 1) := by decide +kernel
theorem dX3_suffer_15 : decode cX3_suffer 15 = .ok (.iconst 0, 1) := by decide +kernel
theorem dX3_suffer_16 : decode cX3_suffer 16 = .ok (.aload_n 0, 1) := by decide +kernel
theorem dX3_suffer_17 : decode cX3_suffer 17 = .ok (.getfield 31, 3) := by decide +kernel
theorem dX3_suffer_20 : decode cX3_suffer 20 = .ok (.iload_n 1, 1) := by decide +kernel
theorem dX3_suffer_21 : decode cX3_suffer 21 = .ok (.iconst 3, 1) := by decide +kernel
theorem dX3_suffer_22 : decode cX3_suffer 22 = .ok (.idiv, 1) := by decide +kernel
theorem dX3_suffer_23 : decode cX3_suffer 23 = .ok (.isub, 1) := by decide +kernel
theorem dX3_suffer_24 : decode cX3_suffer 24 = .ok (.invokestatic 43, 3) := by decide +kernel
theorem dX3_suffer_27 : decode cX3_suffer 27 = .ok (.putfield 31, 3) := by decide +kernel
theorem dX3_suffer_30 : decode cX3_suffer 30 = .ok (.return_, 1) := by decide +kernel
theorem dX3_gainMorale_0 : decode cX3_gainMorale 0 = .ok (.aload_n 0, 1) := by decide +kernel
theorem dX3_gainMorale_1 : decode cX3_gainMorale 1 = .ok (.bipush 20, 2) := by decide +kernel
theorem dX3_gainMorale_3 : decode cX3_gainMorale 3 = .ok (.aload_n 0, 1) := by decide +kernel
theorem dX3_gainMorale_4 : decode cX3_gainMorale 4 = .ok (.getfield 31, 3) := by decide +kernel
theorem dX3_gainMorale_7 : decode cX3_gainMorale 7 = .ok (.iload_n 1, 1) := by decide +kernel
theorem dX3_gainMorale_8 : decode cX3_gainMorale 8 = .ok (.iadd, 1) := by decide +kernel
theorem dX3_gainMorale_9 : decode cX3_gainMorale 9 = .ok (.invokestatic 49, 3) := by decide +kernel
theorem dX3_gainMorale_12 : decode cX3_gainMorale 12 = .ok (.putfield 31, 3) := by decide +kernel
theorem dX3_gainMorale_15 : decode cX3_gainMorale 15 = .ok (.return_, 1) := by decide +kernel
theorem dX3_standIfBold_0 : decode cX3_standIfBold 0 = .ok (.aload_n 0, 1) := by decide +kernel
theorem dX3_standIfBold_1 : decode cX3_standIfBold 1 = .ok (.getfield 31, 3) := by decide +kernel
theorem dX3_standIfBold_4 : decode cX3_standIfBold 4 = .ok (.bipush 8, 2) := by decide +kernel
theorem dX3_standIfBold_6 : decode cX3_standIfBold 6 = .ok (.if_icmp .lt 14, 3) := by decide +kernel
theorem dX3_standIfBold_9 : decode cX3_standIfBold 9 = .ok (.aload_n 0, 1) := by decide +kernel
theorem dX3_standIfBold_10 : decode cX3_standIfBold 10 = .ok (.iconst 0, 1) := by decide +kernel
theorem dX3_standIfBold_11 : decode cX3_standIfBold 11 = .ok (.putfield 34, 3) := by decide +kernel
theorem dX3_standIfBold_14 : decode cX3_standIfBold 14 = .ok (.aload_n 0, 1) := by decide +kernel
theorem dX3_standIfBold_15 : decode cX3_standIfBold 15 = .ok (.bipush 104, 2) := by decide +kernel
theorem dX3_standIfBold_17 : decode cX3_standIfBold 17 = .ok (.putfield 25, 3) := by decide +kernel
theorem dX3_standIfBold_20 : decode cX3_standIfBold 20 = .ok (.return_, 1) := by decide +kernel
theorem dX3_letter_0 : decode cX3_letter 0 = .ok (.aload_n 0, 1) := by decide +kernel
theorem dX3_letter_1 : decode cX3_letter 1 = .ok (.getfield 9, 3) := by decide +kernel
theorem dX3_letter_4 : decode cX3_letter 4 = .ok (.ifCond .ne 10, 3) := by decide +kernel
theorem dX3_letter_7 : decode cX3_letter 7 = .ok (.aload_n 0, 1) := by decide +kernel
theorem dX3_letter_8 : decode cX3_letter 8 = .ok (.getfield 21, 3) := by decide +kernel
theorem dX3_letter_11 : decode cX3_letter 11 = .ok (.goto 11, 3) := by decide +kernel
theorem dX3_letter_14 : decode cX3_letter 14 = .ok (.aload_n 0, 1) := by decide +kernel
theorem dX3_letter_15 : decode cX3_letter 15 = .ok (.getfield 21, 3) := by decide +kernel
theorem dX3_letter_18 : decode cX3_letter 18 = .ok (.bipush (-32), 2) := by decide +kernel
theorem dX3_letter_20 : decode cX3_letter 20 = .ok (.iadd, 1) := by decide +kernel
theorem dX3_letter_21 : decode cX3_letter 21 = .ok (.i2c, 1) := by decide +kernel
theorem dX3_letter_22 : decode cX3_letter 22 = .ok (.ireturn, 1) := by decide +kernel
theorem dX4_init_0 : decode cX4_init 0 = .ok (.aload_n 0, 1) := by decide +kernel
theorem dX4_init_1 : decode cX4_init 1 = .ok (.invokespecial 1, 3) := by decide +kernel
theorem dX4_init_4 : decode cX4_init 4 = .ok (.aload_n 0, 1) := by decide +kernel
theorem dX4_init_5 : decode cX4_init 5 = .ok (.new 7, 3) := by decide +kernel
theorem dX4_init_8 : decode cX4_init 8 = .ok (.dup, 1) := by decide +kernel
theorem dX4_init_9 : decode cX4_init 9 = .ok (.invokespecial 9, 3) := by decide +kernel
theorem dX4_init_12 : decode cX4_init 12 = .ok (.putfield 10, 3) := by decide +kernel
theorem dX4_init_15 : decode cX4_init 15 = .ok (.aload_n 0, 1) := by decide +kernel
theorem dX4_init_16 : decode cX4_init 16 = .ok (.new 7, 3) := by decide +kernel
theorem dX4_init_19 : decode cX4_init 19 = .ok (.dup, 1) := by decide +kernel
theorem dX4_init_20 : decode cX4_init 20 = .ok (.invokespecial 9, 3) := by decide +kernel
theorem dX4_init_23 : decode cX4_init 23 = .ok (.putfield 16, 3) := by decide +kernel
theorem dX4_init_26 : decode cX4_init 26 = .ok (.aload_n 0, 1) := by decide +kernel
theorem dX4_init_27 : decode cX4_init 27 = .ok (.new 7, 3) := by decide +kernel
theorem dX4_init_30 : decode cX4_init 30 = .ok (.dup, 1) := by decide +kernel
theorem dX4_init_31 : decode cX4_init 31 = .ok (.invokespecial 9, 3) := by decide +kernel
theorem dX4_init_34 : decode cX4_init 34 = .ok (.putfield 19, 3) := by decide +kernel
theorem dX4_init_37 : decode cX4_init 37 = .ok (.aload_n 0, 1) := by decide +kernel
theorem dX4_init_38 : decode cX4_init 38 = .ok (.new 22, 3) := by decide +kernel
theorem dX4_init_41 : decode cX4_init 41 = .ok (.dup, 1) := by decide +kernel
theorem dX4_init_42 : decode cX4_init 42 = .ok (.invokespecial 24, 3) := by decide +kernel
theorem dX4_init_45 : decode cX4_init 45 = .ok (.putfield 25, 3) := by decide +kernel
theorem dX4_init_48 : decode cX4_init 48 = .ok (.aload_n 0, 1) := by decide +kernel
theorem dX4_init_49 : decode cX4_init 49 = .ok (.new 29, 3) := by decide +kernel
theorem dX4_init_52 : decode cX4_init 52 = .ok (.dup, 1) := by decide +kernel
theorem dX4_init_53 : decode cX4_init 53 = .ok (.invokespecial 31, 3) := by decide +kernel
theorem dX4_init_56 : decode cX4_init 56 = .ok (.putfield 32, 3) := by decide +kernel
theorem dX4_init_59 : decode cX4_init 59 = .ok (.aload_n 0, 1) := by decide +kernel
theorem dX4_init_60 : decode cX4_init 60 = .ok (.bipush 20, 2) := by decide +kernel
theorem dX4_init_62 : decode cX4_init 62 = .ok (.newarray .char, 2) := by decide +kernel
theorem dX4_init_64 : decode cX4_init 64 = .ok (.putfield 36, 3) := by decide +kernel
theorem dX4_init_67 : decode cX4_init 67 = .ok (.aload_n 0, 1) := by decide +kernel
theorem dX4_init_68 : decode cX4_init 68 = .ok (.iconst 0, 1) := by decide +kernel
theorem dX4_init_69 : decode cX4_init 69 = .ok (.putfield 40, 3) := by decide +kernel
theorem dX4_init_72 : decode cX4_init 72 = .ok (.aload_n 0, 1) := by decide +kernel
theorem dX4_init_73 : decode cX4_init 73 = .ok (.iconst 0, 1) := by decide +kernel
theorem dX4_init_74 : decode cX4_init 74 = .ok (.putfield 44, 3) := by decide +kernel
theorem dX4_init_77 : decode cX4_init 77 = .ok (.aload_n 0, 1) := by decide +kernel
theorem dX4_init_78 : decode cX4_init 78 = .ok (.iconst (-1), 1) := by decide +kernel
theorem dX4_init_79 : decode cX4_init 79 = .ok (.putfield 48, 3) := by decide +kernel
theorem dX4_init_82 : decode cX4_init 82 = .ok (.aload_n 0, 1) := by decide +kernel
theorem dX4_init_83 : decode cX4_init 83 = .ok (.iconst (-1), 1) := by decide +kernel
theorem dX4_init_84 : decode cX4_init 84 = .ok (.putfield 51, 3) := by decide +kernel
theorem dX4_init_87 : decode cX4_init 87 = .ok (.return_, 1) := by decide +kernel
theorem dX4_addLine_0 : decode cX4_addLine 0 = .ok (.aload_n 0, 1) := by decide +kernel
theorem dX4_addLine_1 : decode cX4_addLine 1 = .ok (.getfield 10, 3) := by decide +kernel
theorem dX4_addLine_4 : decode cX4_addLine 4 = .ok (.iload_n 1, 1) := by decide +kernel
theorem dX4_addLine_5 : decode cX4_addLine 5 = .ok (.iload_n 2, 1) := by decide +kernel
theorem dX4_addLine_6 : decode cX4_addLine 6 = .ok (.iload_n 3, 1) := by decide +kernel
theorem dX4_addLine_7 : decode cX4_addLine 7 = .ok (.iload 4, 2) := by decide +kernel
theorem dX4_addLine_9 : decode cX4_addLine 9 = .ok (.invokevirtual 54, 3) := by decide +kernel
theorem dX4_addLine_12 : decode cX4_addLine 12 = .ok (.istore 5, 2) := by decide +kernel
theorem dX4_addLine_14 : decode cX4_addLine 14 = .ok (.iload 5, 2) := by decide +kernel
theorem dX4_addLine_16 : decode cX4_addLine 16 = .ok (.iconst 1, 1) := by decide +kernel
theorem dX4_addLine_17 : decode cX4_addLine 17 = .ok (.if_icmp .ne 13, 3) := by decide +kernel
theorem dX4_addLine_20 : decode cX4_addLine 20 = .ok (.new 58, 3) := by decide +kernel
theorem dX4_addLine_23 : decode cX4_addLine 23 = .ok (.dup, 1) := by decide +kernel
theorem dX4_addLine_24 : decode cX4_addLine 24 = .ok (.ldc 60, 2) := by decide +kernel
theorem dX4_addLine_26 : decode cX4_addLine 26 = .ok (.invokespecial 62, 3) := by decide +kernel
theorem dX4_addLine_29 : decode cX4_addLine 29 = .ok (.athrow, 1) := by decide +kernel
theorem dX4_addLine_30 : decode cX4_addLine 30 = .ok (.iload 5, 2) := by decide +kernel
theorem dX4_addLine_32 : decode cX4_addLine 32 = .ok (.iconst 3, 1) := by decide +kernel
theorem dX4_addLine_33 : decode cX4_addLine 33 = .ok (.if_icmp .ne 13, 3) := by decide +kernel
theorem dX4_addLine_36 : decode cX4_addLine 36 = .ok (.new 65, 3) := by decide +kernel
theorem dX4_addLine_39 : decode cX4_addLine 39 = .ok (.dup, 1) := by decide +kernel
theorem dX4_addLine_40 : decode cX4_addLine 40 = .ok (.ldc 67, 2) := by decide +kernel
theorem dX4_addLine_42 : decode cX4_addLine 42 = .ok (.invokespecial 69, 3) := by decide +kernel
theorem dX4_addLine_45 : decode cX4_addLine 45 = .ok (.athrow, 1) := by decide +kernel
theorem dX4_addLine_46 : decode cX4_addLine 46 = .ok (.iload 5, 2) := by decide +kernel
theorem dX4_addLine_48 : decode cX4_addLine 48 = .ok (.iconst 4, 1) := by decide +kernel
theorem dX4_addLine_49 : decode cX4_addLine 49 = .ok (.if_icmp .ne 13, 3) := by decide +kernel
theorem dX4_addLine_52 : decode cX4_addLine 52 = .ok (.new 70, 3) := by decide +kernel
theorem dX4_addLine_55 : decode cX4_addLine 55 = .ok (.dup, 1) := by decide +kernel
theorem dX4_addLine_56 : decode cX4_addLine 56 = .ok (.ldc 72, 2) := by decide +kernel
theorem dX4_addLine_58 : decode cX4_addLine 58 = .ok (.invokespecial 74, 3) := by decide +kernel
theorem dX4_addLine_61 : decode cX4_addLine 61 = .ok (.athrow, 1) := by decide +kernel
theorem dX4_addLine_62 : decode cX4_addLine 62 = .ok (.aload_n 0, 1) := by decide +kernel
theorem dX4_addLine_63 : decode cX4_addLine 63 = .ok (.getfield 25, 3) := by decide +kernel
theorem dX4_addLine_66 : decode cX4_addLine 66 = .ok (.aload_n 0, 1) := by decide +kernel
theorem dX4_addLine_67 : decode cX4_addLine 67 = .ok (.getfield 10, 3) := by decide +kernel
theorem dX4_addLine_70 : decode cX4_addLine 70 = .ok (.invokevirtual 75, 3) := by decide +kernel
theorem dX4_addLine_73 : decode cX4_addLine 73 = .ok (.aload_n 0, 1) := by decide +kernel
theorem dX4_addLine_74 : decode cX4_addLine 74 = .ok (.getfield 10, 3) := by decide +kernel
theorem dX4_addLine_77 : decode cX4_addLine 77 = .ok (.iload_n 1, 1) := by decide +kernel
theorem dX4_addLine_78 : decode cX4_addLine 78 = .ok (.iload_n 2, 1) := by decide +kernel
theorem dX4_addLine_79 : decode cX4_addLine 79 = .ok (.iload_n 3, 1) := by decide +kernel
theorem dX4_addLine_80 : decode cX4_addLine 80 = .ok (.iload 4, 2) := by decide +kernel
theorem dX4_addLine_82 : decode cX4_addLine 82 = .ok (.invokevirtual 79, 3) := by decide +kernel
theorem dX4_addLine_85 : decode cX4_addLine 85 = .ok (.ireturn, 1) := by decide +kernel
theorem dX4_setOrder_0 : decode cX4_setOrder 0 = .ok (.aload_n 0, 1) := by decide +kernel
theorem dX4_setOrder_1 : decode cX4_setOrder 1 = .ok (.getfield 10, 3) := by decide +kernel
theorem dX4_setOrder_4 : decode cX4_setOrder 4 = .ok (.iload_n 1, 1) := by decide +kernel
theorem dX4_setOrder_5 : decode cX4_setOrder 5 = .ok (.iload_n 2, 1) := by decide +kernel
theorem dX4_setOrder_6 : decode cX4_setOrder 6 = .ok (.invokevirtual 82, 3) := by decide +kernel
theorem dX4_setOrder_9 : decode cX4_setOrder 9 = .ok (.istore_n 3, 1) := by decide +kernel
theorem dX4_setOrder_10 : decode cX4_setOrder 10 = .ok (.iload_n 3, 1) := by decide +kernel
theorem dX4_setOrder_11 : decode cX4_setOrder 11 = .ok (.iconst 2, 1) := by decide +kernel
theorem dX4_setOrder_12 : decode cX4_setOrder 12 = .ok (.if_icmp .ne 13, 3) := by decide +kernel
theorem dX4_setOrder_15 : decode cX4_setOrder 15 = .ok (.new 86, 3) := by decide +kernel
theorem dX4_setOrder_18 : decode cX4_setOrder 18 = .ok (.dup, 1) := by decide +kernel
theorem dX4_setOrder_19 : decode cX4_setOrder 19 = .ok (.ldc 88, 2) := by decide +kernel
theorem dX4_setOrder_21 : decode cX4_setOrder 21 = .ok (.invokespecial 90, 3) := by decide +kernel
theorem dX4_setOrder_24 : decode cX4_setOrder 24 = .ok (.athrow, 1) := by decide +kernel
theorem dX4_setOrder_25 : decode cX4_setOrder 25 = .ok (.iload_n 3, 1) := by decide +kernel
theorem dX4_setOrder_26 : decode cX4_setOrder 26 = .ok (.iconst 1, 1) := by decide +kernel
theorem dX4_setOrder_27 : decode cX4_setOrder 27 = .ok (.if_icmp .ne 13, 3) := by decide +kernel
theorem dX4_setOrder_30 : decode cX4_setOrder 30 = .ok (.new 58, 3) := by decide +kernel
theorem dX4_setOrder_33 : decode cX4_setOrder 33 = .ok (.dup, 1) := by decide +kernel
theorem dX4_setOrder_34 : decode cX4_setOrder 34 = .ok (.ldc 91, 2) := by decide +kernel
theorem dX4_setOrder_36 : decode cX4_setOrder 36 = .ok (.invokespecial 62, 3) := by decide +kernel
theorem dX4_setOrder_39 : decode cX4_setOrder 39 = .ok (.athrow, 1) := by decide +kernel
theorem dX4_setOrder_40 : decode cX4_setOrder 40 = .ok (.iload_n 3, 1) := by decide +kernel
theorem dX4_setOrder_41 : decode cX4_setOrder 41 = .ok (.iconst 3, 1) := by decide +kernel
theorem dX4_setOrder_42 : decode cX4_setOrder 42 = .ok (.if_icmp .ne 13, 3) := by decide +kernel
theorem dX4_setOrder_45 : decode cX4_setOrder 45 = .ok (.new 65, 3) := by decide +kernel
theorem dX4_setOrder_48 : decode cX4_setOrder 48 = .ok (.dup, 1) := by decide +kernel
theorem dX4_setOrder_49 : decode cX4_setOrder 49 = .ok (.ldc 93, 2) := by decide +kernel
theorem dX4_setOrder_51 : decode cX4_setOrder 51 = .ok (.invokespecial 69, 3) := by decide +kernel
theorem dX4_setOrder_54 : decode cX4_setOrder 54 = .ok (.athrow, 1) := by decide +kernel
theorem dX4_setOrder_55 : decode cX4_setOrder 55 = .ok (.aload_n 0, 1) := by decide +kernel
theorem dX4_setOrder_56 : decode cX4_setOrder 56 = .ok (.getfield 25, 3) := by decide +kernel
theorem dX4_setOrder_59 : decode cX4_setOrder 59 = .ok (.aload_n 0, 1) := by decide +kernel
theorem dX4_setOrder_60 : decode cX4_setOrder 60 = .ok (.getfield 10, 3) := by decide +kernel
theorem dX4_setOrder_63 : decode cX4_setOrder 63 = .ok (.invokevirtual 75, 3) := by decide +kernel
theorem dX4_setOrder_66 : decode cX4_setOrder 66 = .ok (.aload_n 0, 1) := by decide +kernel
theorem dX4_setOrder_67 : decode cX4_setOrder 67 = .ok (.getfield 10, 3) := by decide +kernel
theorem dX4_setOrder_70 : decode cX4_setOrder 70 = .ok (.iload_n 1, 1) := by decide +kernel
theorem dX4_setOrder_71 : decode cX4_setOrder 71 = .ok (.iload_n 2, 1) := by decide +kernel
theorem dX4_setOrder_72 : decode cX4_setOrder 72 = .ok (.invokevirtual 95, 3) := by decide +kernel
theorem dX4_setOrder_75 : decode cX4_setOrder 75 = .ok (.ireturn, 1) := by decide +kernel
theorem dX4_rally_0 : decode cX4_rally 0 = .ok (.aload_n 0, 1) := by decide +kernel
theorem dX4_rally_1 : decode cX4_rally 1 = .ok (.getfield 10, 3) := by decide +kernel
theorem dX4_rally_4 : decode cX4_rally 4 = .ok (.iload_n 1, 1) := by decide +kernel
theorem dX4_rally_5 : decode cX4_rally 5 = .ok (.invokevirtual 99, 3) := by decide +kernel
theorem dX4_rally_8 : decode cX4_rally 8 = .ok (.istore_n 2, 1) := by decide +kernel
theorem dX4_rally_9 : decode cX4_rally 9 = .ok (.iload_n 2, 1) := by decide +kernel
theorem dX4_rally_10 : decode cX4_rally 10 = .ok (.iconst 2, 1) := by decide +kernel
theorem dX4_rally_11 : decode cX4_rally 11 = .ok (.if_icmp .ne 13, 3) := by decide +kernel
theorem dX4_rally_14 : decode cX4_rally 14 = .ok (.new 86, 3) := by decide +kernel
theorem dX4_rally_17 : decode cX4_rally 17 = .ok (.dup, 1) := by decide +kernel
theorem dX4_rally_18 : decode cX4_rally 18 = .ok (.ldc 88, 2) := by decide +kernel
theorem dX4_rally_20 : decode cX4_rally 20 = .ok (.invokespecial 90, 3) := by decide +kernel
theorem dX4_rally_23 : decode cX4_rally 23 = .ok (.athrow, 1) := by decide +kernel
theorem dX4_rally_24 : decode cX4_rally 24 = .ok (.iload_n 2, 1) := by decide +kernel
theorem dX4_rally_25 : decode cX4_rally 25 = .ok (.iconst 3, 1) := by decide +kernel
theorem dX4_rally_26 : decode cX4_rally 26 = .ok (.if_icmp .ne 13, 3) := by decide +kernel
theorem dX4_rally_29 : decode cX4_rally 29 = .ok (.new 65, 3) := by decide +kernel
theorem dX4_rally_32 : decode cX4_rally 32 = .ok (.dup, 1) := by decide +kernel
theorem dX4_rally_33 : decode cX4_rally 33 = .ok (.ldc 103, 2) := by decide +kernel
theorem dX4_rally_35 : decode cX4_rally 35 = .ok (.invokespecial 69, 3) := by decide +kernel
theorem dX4_rally_38 : decode cX4_rally 38 = .ok (.athrow, 1) := by decide +kernel
theorem dX4_rally_39 : decode cX4_rally 39 = .ok (.iload_n 2, 1) := by decide +kernel
theorem dX4_rally_40 : decode cX4_rally 40 = .ok (.iconst 4, 1) := by decide +kernel
theorem dX4_rally_41 : decode cX4_rally 41 = .ok (.if_icmp .ne 13, 3) := by decide +kernel
theorem dX4_rally_44 : decode cX4_rally 44 = .ok (.new 70, 3) := by decide +kernel
theorem dX4_rally_47 : decode cX4_rally 47 = .ok (.dup, 1) := by decide +kernel
theorem dX4_rally_48 : decode cX4_rally 48 = .ok (.ldc 105, 2) := by decide +kernel
theorem dX4_rally_50 : decode cX4_rally 50 = .ok (.invokespecial 74, 3) := by decide +kernel
theorem dX4_rally_53 : decode cX4_rally 53 = .ok (.athrow, 1) := by decide +kernel
theorem dX4_rally_54 : decode cX4_rally 54 = .ok (.aload_n 0, 1) := by decide +kernel
theorem dX4_rally_55 : decode cX4_rally 55 = .ok (.getfield 25, 3) := by decide +kernel
theorem dX4_rally_58 : decode cX4_rally 58 = .ok (.aload_n 0, 1) := by decide +kernel
theorem dX4_rally_59 : decode cX4_rally 59 = .ok (.getfield 10, 3) := by decide +kernel
theorem dX4_rally_62 : decode cX4_rally 62 = .ok (.invokevirtual 75, 3) := by decide +kernel
theorem dX4_rally_65 : decode cX4_rally 65 = .ok (.aload_n 0, 1) := by decide +kernel
theorem dX4_rally_66 : decode cX4_rally 66 = .ok (.getfield 10, 3) := by decide +kernel
theorem dX4_rally_69 : decode cX4_rally 69 = .ok (.iload_n 1, 1) := by decide +kernel
theorem dX4_rally_70 : decode cX4_rally 70 = .ok (.invokevirtual 107, 3) := by decide +kernel
theorem dX4_rally_73 : decode cX4_rally 73 = .ok (.ireturn, 1) := by decide +kernel
theorem dX4_turn_0 : decode cX4_turn 0 = .ok (.aload_n 0, 1) := by decide +kernel
theorem dX4_turn_1 : decode cX4_turn 1 = .ok (.getfield 25, 3) := by decide +kernel
theorem dX4_turn_4 : decode cX4_turn 4 = .ok (.aload_n 0, 1) := by decide +kernel
theorem dX4_turn_5 : decode cX4_turn 5 = .ok (.getfield 10, 3) := by decide +kernel
theorem dX4_turn_8 : decode cX4_turn 8 = .ok (.invokevirtual 75, 3) := by decide +kernel
theorem dX4_turn_11 : decode cX4_turn 11 = .ok (.aload_n 0, 1) := by decide +kernel
theorem dX4_turn_12 : decode cX4_turn 12 = .ok (.getfield 10, 3) := by decide +kernel
theorem dX4_turn_15 : decode cX4_turn 15 = .ok (.invokevirtual 110, 3) := by decide +kernel
theorem dX4_turn_18 : decode cX4_turn 18 = .ok (.ireturn, 1) := by decide +kernel
theorem dX4_lineCount_0 : decode cX4_lineCount 0 = .ok (.aload_n 0, 1) := by decide +kernel
theorem dX4_lineCount_1 : decode cX4_lineCount 1 = .ok (.getfield 10, 3) := by decide +kernel
theorem dX4_lineCount_4 : decode cX4_lineCount 4 = .ok (.getfield 114, 3) := by decide +kernel
theorem dX4_lineCount_7 : decode cX4_lineCount 7 = .ok (.ireturn, 1) := by decide +kernel
theorem dX4_sideOf_0 : decode cX4_sideOf 0 = .ok (.aload_n 0, 1) := by decide +kernel
theorem dX4_sideOf_1 : decode cX4_sideOf 1 = .ok (.iload_n 1, 1) := by decide +kernel
theorem dX4_sideOf_2 : decode cX4_sideOf 2 = .ok (.invokevirtual 117, 3) := by decide +kernel
theorem dX4_sideOf_5 : decode cX4_sideOf 5 = .ok (.getfield 121, 3) := by decide +kernel
theorem dX4_sideOf_8 : decode cX4_sideOf 8 = .ok (.ireturn, 1) := by decide +kernel
theorem dX4_laneOf_0 : decode cX4_laneOf 0 = .ok (.aload_n 0, 1) := by decide +kernel
theorem dX4_laneOf_1 : decode cX4_laneOf 1 = .ok (.iload_n 1, 1) := by decide +kernel
theorem dX4_laneOf_2 : decode cX4_laneOf 2 = .ok (.invokevirtual 126, 3) := by decide +kernel
theorem dX4_laneOf_5 : decode cX4_laneOf 5 = .ok (.getfield 129, 3) := by decide +kernel
theorem dX4_laneOf_8 : decode cX4_laneOf 8 = .ok (.ireturn, 1) := by decide +kernel
theorem dX4_columnOf_0 : decode cX4_columnOf 0 = .ok (.aload_n 0, 1) := by decide +kernel
theorem dX4_columnOf_1 : decode cX4_columnOf 1 = .ok (.iload_n 1, 1) := by decide +kernel
theorem dX4_columnOf_2 : decode cX4_columnOf 2 = .ok (.invokevirtual 126, 3) := by decide +kernel
theorem dX4_columnOf_5 : decode cX4_columnOf 5 = .ok (.getfield 132, 3) := by decide +kernel
theorem dX4_columnOf_8 : decode cX4_columnOf 8 = .ok (.ireturn, 1) := by decide +kernel
theorem dX4_kindOf_0 : decode cX4_kindOf 0 = .ok (.aload_n 0, 1) := by decide +kernel
theorem dX4_kindOf_1 : decode cX4_kindOf 1 = .ok (.iload_n 1, 1) := by decide +kernel
theorem dX4_kindOf_2 : decode cX4_kindOf 2 = .ok (.invokevirtual 117, 3) := by decide +kernel
theorem dX4_kindOf_5 : decode cX4_kindOf 5 = .ok (.getfield 135, 3) := by decide +kernel
theorem dX4_kindOf_8 : decode cX4_kindOf 8 = .ok (.ireturn, 1) := by decide +kernel
theorem dX4_strengthOf_0 : decode cX4_strengthOf 0 = .ok (.aload_n 0, 1) := by decide +kernel
theorem dX4_strengthOf_1 : decode cX4_strengthOf 1 = .ok (.iload_n 1, 1) := by decide +kernel
theorem dX4_strengthOf_2 : decode cX4_strengthOf 2 = .ok (.invokevirtual 117, 3) := by decide +kernel
theorem dX4_strengthOf_5 : decode cX4_strengthOf 5 = .ok (.getfield 139, 3) := by decide +kernel
theorem dX4_strengthOf_8 : decode cX4_strengthOf 8 = .ok (.ireturn, 1) := by decide +kernel
theorem dX4_moraleOf_0 : decode cX4_moraleOf 0 = .ok (.aload_n 0, 1) := by decide +kernel
theorem dX4_moraleOf_1 : decode cX4_moraleOf 1 = .ok (.iload_n 1, 1) := by decide +kernel
theorem dX4_moraleOf_2 : decode cX4_moraleOf 2 = .ok (.invokevirtual 117, 3) := by decide +kernel
theorem dX4_moraleOf_5 : decode cX4_moraleOf 5 = .ok (.getfield 142, 3) := by decide +kernel
theorem dX4_moraleOf_8 : decode cX4_moraleOf 8 = .ok (.ireturn, 1) := by decide +kernel
theorem dX4_orderOf_0 : decode cX4_orderOf 0 = .ok (.aload_n 0, 1) := by decide +kernel
theorem dX4_orderOf_1 : decode cX4_orderOf 1 = .ok (.iload_n 1, 1) := by decide +kernel
theorem dX4_orderOf_2 : decode cX4_orderOf 2 = .ok (.invokevirtual 117, 3) := by decide +kernel
theorem dX4_orderOf_5 : decode cX4_orderOf 5 = .ok (.astore_n 2, 1) := by decide +kernel
theorem dX4_orderOf_6 : decode cX4_orderOf 6 = .ok (.aload_n 2, 1) := by decide +kernel
theorem dX4_orderOf_7 : decode cX4_orderOf 7 = .ok (.invokevirtual 145, 3) := by decide +kernel
theorem dX4_orderOf_10 : decode cX4_orderOf 10 = .ok (.ifCond .ne 13, 3) := by decide +kernel
theorem dX4_orderOf_13 : decode cX4_orderOf 13 = .ok (.new 65, 3) := by decide +kernel
theorem dX4_orderOf_16 : decode cX4_orderOf 16 = .ok (.dup, 1) := by decide +kernel
theorem dX4_orderOf_17 : decode cX4_orderOf 17 = .ok (.ldc 93, 2) := by decide +kernel
theorem dX4_orderOf_19 : decode cX4_orderOf 19 = .ok (.invokespecial 69, 3) := by decide +kernel
theorem dX4_orderOf_22 : decode cX4_orderOf 22 = .ok (.athrow, 1) := by decide +kernel
theorem dX4_orderOf_23 : decode cX4_orderOf 23 = .ok (.aload_n 2, 1) := by decide +kernel
theorem dX4_orderOf_24 : decode cX4_orderOf 24 = .ok (.getfield 149, 3) := by decide +kernel
theorem dX4_orderOf_27 : decode cX4_orderOf 27 = .ok (.ireturn, 1) := by decide +kernel
theorem dX4_isStanding_0 : decode cX4_isStanding 0 = .ok (.aload_n 0, 1) := by decide +kernel
theorem dX4_isStanding_1 : decode cX4_isStanding 1 = .ok (.iload_n 1, 1) := by decide +kernel
theorem dX4_isStanding_2 : decode cX4_isStanding 2 = .ok (.invokevirtual 117, 3) := by decide +kernel
theorem dX4_isStanding_5 : decode cX4_isStanding 5 = .ok (.invokevirtual 145, 3) := by decide +kernel
theorem dX4_isStanding_8 : decode cX4_isStanding 8 = .ok (.ireturn, 1) := by decide +kernel
theorem dX4_isRouted_0 : decode cX4_isRouted 0 = .ok (.aload_n 0, 1) := by decide +kernel
theorem dX4_isRouted_1 : decode cX4_isRouted 1 = .ok (.iload_n 1, 1) := by decide +kernel
theorem dX4_isRouted_2 : decode cX4_isRouted 2 = .ok (.invokevirtual 117, 3) := by decide +kernel
theorem dX4_isRouted_5 : decode cX4_isRouted 5 = .ok (.invokevirtual 152, 3) := by decide +kernel
theorem dX4_isRouted_8 : decode cX4_isRouted 8 = .ok (.ireturn, 1) := by decide +kernel
theorem dX4_routedTurns_0 : decode cX4_routedTurns 0 = .ok (.aload_n 0, 1) := by decide +kernel
theorem dX4_routedTurns_1 : decode cX4_routedTurns 1 = .ok (.iload_n 1, 1) := by decide +kernel
theorem dX4_routedTurns_2 : decode cX4_routedTurns 2 = .ok (.invokevirtual 117, 3) := by decide +kernel
theorem dX4_routedTurns_5 : decode cX4_routedTurns 5 = .ok (.getfield 155, 3) := by decide +kernel
theorem dX4_routedTurns_8 : decode cX4_routedTurns 8 = .ok (.ireturn, 1) := by decide +kernel
theorem dX4_lineIn_0 : decode cX4_lineIn 0 = .ok (.iload_n 1, 1) := by decide +kernel
theorem dX4_lineIn_1 : decode cX4_lineIn 1 = .ok (.invokestatic 158, 3) := by decide +kernel
theorem dX4_lineIn_4 : decode cX4_lineIn 4 = .ok (.ifCond .eq 10, 3) := by decide +kernel
theorem dX4_lineIn_7 : decode cX4_lineIn 7 = .ok (.iload_n 2, 1) := by decide +kernel
theorem dX4_lineIn_8 : decode cX4_lineIn 8 = .ok (.invokestatic 162, 3) := by decide +kernel
theorem dX4_lineIn_11 : decode cX4_lineIn 11 = .ok (.ifCond .ne 13, 3) := by decide +kernel
theorem dX4_lineIn_14 : decode cX4_lineIn 14 = .ok (.new 86, 3) := by decide +kernel
theorem dX4_lineIn_17 : decode cX4_lineIn 17 = .ok (.dup, 1) := by decide +kernel
theorem dX4_lineIn_18 : decode cX4_lineIn 18 = .ok (.ldc 165, 2) := by decide +kernel
theorem dX4_lineIn_20 : decode cX4_lineIn 20 = .ok (.invokespecial 90, 3) := by decide +kernel
theorem dX4_lineIn_23 : decode cX4_lineIn 23 = .ok (.athrow, 1) := by decide +kernel
theorem dX4_lineIn_24 : decode cX4_lineIn 24 = .ok (.aload_n 0, 1) := by decide +kernel
theorem dX4_lineIn_25 : decode cX4_lineIn 25 = .ok (.getfield 10, 3) := by decide +kernel
theorem dX4_lineIn_28 : decode cX4_lineIn 28 = .ok (.iload_n 1, 1) := by decide +kernel
theorem dX4_lineIn_29 : decode cX4_lineIn 29 = .ok (.iload_n 2, 1) := by decide +kernel
theorem dX4_lineIn_30 : decode cX4_lineIn 30 = .ok (.invokevirtual 167, 3) := by decide +kernel
theorem dX4_lineIn_33 : decode cX4_lineIn 33 = .ok (.astore_n 3, 1) := by decide +kernel
theorem dX4_lineIn_34 : decode cX4_lineIn 34 = .ok (.aload_n 3, 1) := by decide +kernel
theorem dX4_lineIn_35 : decode cX4_lineIn 35 = .ok (.ifnonnull 13, 3) := by decide +kernel
theorem dX4_lineIn_38 : decode cX4_lineIn 38 = .ok (.new 171, 3) := by decide +kernel
theorem dX4_lineIn_41 : decode cX4_lineIn 41 = .ok (.dup, 1) := by decide +kernel
theorem dX4_lineIn_42 : decode cX4_lineIn 42 = .ok (.ldc 173, 2) := by decide +kernel
theorem dX4_lineIn_44 : decode cX4_lineIn 44 = .ok (.invokespecial 175, 3) := by decide +kernel
theorem dX4_lineIn_47 : decode cX4_lineIn 47 = .ok (.athrow, 1) := by decide +kernel
theorem dX4_lineIn_48 : decode cX4_lineIn 48 = .ok (.aload_n 3, 1) := by decide +kernel
theorem dX4_lineIn_49 : decode cX4_lineIn 49 = .ok (.getfield 176, 3) := by decide +kernel
theorem dX4_lineIn_52 : decode cX4_lineIn 52 = .ok (.ireturn, 1) := by decide +kernel
theorem dX4_attackOf_0 : decode cX4_attackOf 0 = .ok (.aload_n 0, 1) := by decide +kernel
theorem dX4_attackOf_1 : decode cX4_attackOf 1 = .ok (.iload_n 1, 1) := by decide +kernel
theorem dX4_attackOf_2 : decode cX4_attackOf 2 = .ok (.invokevirtual 117, 3) := by decide +kernel
theorem dX4_attackOf_5 : decode cX4_attackOf 5 = .ok (.iconst 0, 1) := by decide +kernel
theorem dX4_attackOf_6 : decode cX4_attackOf 6 = .ok (.invokevirtual 179, 3) := by decide +kernel
theorem dX4_attackOf_9 : decode cX4_attackOf 9 = .ok (.ireturn, 1) := by decide +kernel
theorem dX4_counterOf_0 : decode cX4_counterOf 0 = .ok (.aload_n 0, 1) := by decide +kernel
theorem dX4_counterOf_1 : decode cX4_counterOf 1 = .ok (.iload_n 1, 1) := by decide +kernel
theorem dX4_counterOf_2 : decode cX4_counterOf 2 = .ok (.invokevirtual 117, 3) := by decide +kernel
theorem dX4_counterOf_5 : decode cX4_counterOf 5 = .ok (.invokevirtual 183, 3) := by decide +kernel
theorem dX4_counterOf_8 : decode cX4_counterOf 8 = .ok (.ireturn, 1) := by decide +kernel
theorem dX4_supportOf_0 : decode cX4_supportOf 0 = .ok (.aload_n 0, 1) := by decide +kernel
theorem dX4_supportOf_1 : decode cX4_supportOf 1 = .ok (.getfield 10, 3) := by decide +kernel
theorem dX4_supportOf_4 : decode cX4_supportOf 4 = .ok (.aload_n 0, 1) := by decide +kernel
theorem dX4_supportOf_5 : decode cX4_supportOf 5 = .ok (.iload_n 1, 1) := by decide +kernel
theorem dX4_supportOf_6 : decode cX4_supportOf 6 = .ok (.invokevirtual 126, 3) := by decide +kernel
theorem dX4_supportOf_9 : decode cX4_supportOf 9 = .ok (.invokevirtual 186, 3) := by decide +kernel
theorem dX4_supportOf_12 : decode cX4_supportOf 12 = .ok (.ireturn, 1) := by decide +kernel
theorem dX4_supportByLines_0 : decode cX4_supportByLines 0 = .ok (.aload_n 0, 1) := by decide +kernel
theorem dX4_supportByLines_1 : decode cX4_supportByLines 1 = .ok (.getfield 10, 3) := by decide +kernel
theorem dX4_supportByLines_4 : decode cX4_supportByLines 4 = .ok (.aload_n 0, 1) := by decide +kernel
theorem dX4_supportByLines_5 : decode cX4_supportByLines 5 = .ok (.iload_n 1, 1) := by decide +kernel
theorem dX4_supportByLines_6 : decode cX4_supportByLines 6 = .ok (.invokevirtual 126, 3) := by decide +kernel
theorem dX4_supportByLines_9 : decode cX4_supportByLines 9 = .ok (.invokevirtual 190, 3) := by decide +kernel
theorem dX4_supportByLines_12 : decode cX4_supportByLines 12 = .ok (.ireturn, 1) := by decide +kernel
theorem dX4_enemyAhead_0 : decode cX4_enemyAhead 0 = .ok (.aload_n 0, 1) := by decide +kernel
theorem dX4_enemyAhead_1 : decode cX4_enemyAhead 1 = .ok (.getfield 10, 3) := by decide +kernel
theorem dX4_enemyAhead_4 : decode cX4_enemyAhead 4 = .ok (.aload_n 0, 1) := by decide +kernel
theorem dX4_enemyAhead_5 : decode cX4_enemyAhead 5 = .ok (.iload_n 1, 1) := by decide +kernel
theorem dX4_enemyAhead_6 : decode cX4_enemyAhead 6 = .ok (.invokevirtual 126, 3) := by decide +kernel
theorem dX4_enemyAhead_9 : decode cX4_enemyAhead 9 = .ok (.invokevirtual 193, 3) := by decide +kernel
theorem dX4_enemyAhead_12 : decode cX4_enemyAhead 12 = .ok (.istore_n 2, 1) := by decide +kernel
theorem dX4_enemyAhead_13 : decode cX4_enemyAhead 13 = .ok (.iload_n 2, 1) := by decide +kernel
theorem dX4_enemyAhead_14 : decode cX4_enemyAhead 14 = .ok (.iconst (-1), 1) := by decide +kernel
theorem dX4_enemyAhead_15 : decode cX4_enemyAhead 15 = .ok (.if_icmp .ne 13, 3) := by decide +kernel
theorem dX4_enemyAhead_18 : decode cX4_enemyAhead 18 = .ok (.new 171, 3) := by decide +kernel
theorem dX4_enemyAhead_21 : decode cX4_enemyAhead 21 = .ok (.dup, 1) := by decide +kernel
theorem dX4_enemyAhead_22 : decode cX4_enemyAhead 22 = .ok (.ldc 196, 2) := by decide +kernel
theorem dX4_enemyAhead_24 : decode cX4_enemyAhead 24 = .ok (.invokespecial 175, 3) := by decide +kernel
theorem dX4_enemyAhead_27 : decode cX4_enemyAhead 27 = .ok (.athrow, 1) := by decide +kernel
theorem dX4_enemyAhead_28 : decode cX4_enemyAhead 28 = .ok (.iload_n 2, 1) := by decide +kernel
theorem dX4_enemyAhead_29 : decode cX4_enemyAhead 29 = .ok (.ireturn, 1) := by decide +kernel
theorem dX4_enemyByDistances_0 : decode cX4_enemyByDistances 0 = .ok (.aload_n 0, 1) := by decide +kernel
theorem dX4_enemyByDistances_1 : decode cX4_enemyByDistances 1 = .ok (.getfield 10, 3) := by decide +kernel
theorem dX4_enemyByDistances_4 : decode cX4_enemyByDistances 4 = .ok (.aload_n 0, 1) := by decide +kernel
theorem dX4_enemyByDistances_5 : decode cX4_enemyByDistances 5 = .ok (.iload_n 1, 1) := by decide +kernel
theorem dX4_enemyByDistances_6 : decode cX4_enemyByDistances 6 = .ok (.invokevirtual 126, 3) := by decide +kernel
theorem dX4_enemyByDistances_9 : decode cX4_enemyByDistances 9 = .ok (.invokevirtual 198, 3) := by decide +kernel
theorem dX4_enemyByDistances_12 : decode cX4_enemyByDistances 12 = .ok (.istore_n 2, 1) := by decide +kernel
theorem dX4_enemyByDistances_13 : decode cX4_enemyByDistances 13 = .ok (.iload_n 2, 1) := by decide +kernel
theorem dX4_enemyByDistances_14 : decode cX4_enemyByDistances 14 = .ok (.iconst (-1), 1) := by decide +kernel
theorem dX4_enemyByDistances_15 : decode cX4_enemyByDistances 15 = .ok (.if_icmp .ne 13, 3) := by decide +kernel
theorem dX4_enemyByDistances_18 : decode cX4_enemyByDistances 18 = .ok (.new 171, 3) := by decide +kernel
theorem dX4_enemyByDistances_21 : decode cX4_enemyByDistances 21 = .ok (.dup, 1) := by decide +kernel
theorem dX4_enemyByDistances_22 : decode cX4_enemyByDistances 22 = .ok (.ldc 196, 2) := by decide +kernel
theorem dX4_enemyByDistances_24 : decode cX4_enemyByDistances 24 = .ok (.invokespecial 175, 3) := by decide +kernel
theorem dX4_enemyByDistances_27 : decode cX4_enemyByDistances 27 = .ok (.athrow, 1) := by decide +kernel
theorem dX4_enemyByDistances_28 : decode cX4_enemyByDistances 28 = .ok (.iload_n 2, 1) := by decide +kernel
theorem dX4_enemyByDistances_29 : decode cX4_enemyByDistances 29 = .ok (.ireturn, 1) := by decide +kernel
theorem dX4_fightCount_0 : decode cX4_fightCount 0 = .ok (.aload_n 0, 1) := by decide +kernel
theorem dX4_fightCount_1 : decode cX4_fightCount 1 = .ok (.getfield 10, 3) := by decide +kernel
theorem dX4_fightCount_4 : decode cX4_fightCount 4 = .ok (.getfield 201, 3) := by decide +kernel
theorem dX4_fightCount_7 : decode cX4_fightCount 7 = .ok (.ireturn, 1) := by decide +kernel
theorem dX4_jarsOf_0 : decode cX4_jarsOf 0 = .ok (.iload_n 1, 1) := by decide +kernel
theorem dX4_jarsOf_1 : decode cX4_jarsOf 1 = .ok (.invokestatic 209, 3) := by decide +kernel
theorem dX4_jarsOf_4 : decode cX4_jarsOf 4 = .ok (.aload_n 0, 1) := by decide +kernel
theorem dX4_jarsOf_5 : decode cX4_jarsOf 5 = .ok (.getfield 10, 3) := by decide +kernel
theorem dX4_jarsOf_8 : decode cX4_jarsOf 8 = .ok (.iload_n 1, 1) := by decide +kernel
theorem dX4_jarsOf_9 : decode cX4_jarsOf 9 = .ok (.invokevirtual 213, 3) := by decide +kernel
theorem dX4_jarsOf_12 : decode cX4_jarsOf 12 = .ok (.ireturn, 1) := by decide +kernel
theorem dX4_strengthOfSide_0 : decode cX4_strengthOfSide 0 = .ok (.iload_n 1, 1) := by decide +kernel
theorem dX4_strengthOfSide_1 : decode cX4_strengthOfSide 1 = .ok (.invokestatic 209, 3) := by decide +kernel
theorem dX4_strengthOfSide_4 : decode cX4_strengthOfSide 4 = .ok (.aload_n 0, 1) := by decide +kernel
theorem dX4_strengthOfSide_5 : decode cX4_strengthOfSide 5 = .ok (.getfield 10, 3) := by decide +kernel
theorem dX4_strengthOfSide_8 : decode cX4_strengthOfSide 8 = .ok (.iload_n 1, 1) := by decide +kernel
theorem dX4_strengthOfSide_9 : decode cX4_strengthOfSide 9 = .ok (.invokevirtual 216, 3) := by decide +kernel
theorem dX4_strengthOfSide_12 : decode cX4_strengthOfSide 12 = .ok (.ireturn, 1) := by decide +kernel
theorem dX4_strengthByCells_0 : decode cX4_strengthByCells 0 = .ok (.iload_n 1, 1) := by decide +kernel
theorem dX4_strengthByCells_1 : decode cX4_strengthByCells 1 = .ok (.invokestatic 209, 3) := by decide +kernel
theorem dX4_strengthByCells_4 : decode cX4_strengthByCells 4 = .ok (.aload_n 0, 1) := by decide +kernel
theorem dX4_strengthByCells_5 : decode cX4_strengthByCells 5 = .ok (.getfield 10, 3) := by decide +kernel
theorem dX4_strengthByCells_8 : decode cX4_strengthByCells 8 = .ok (.iload_n 1, 1) := by decide +kernel
theorem dX4_strengthByCells_9 : decode cX4_strengthByCells 9 = .ok (.invokevirtual 219, 3) := by decide +kernel
theorem dX4_strengthByCells_12 : decode cX4_strengthByCells 12 = .ok (.ireturn, 1) := by decide +kernel
theorem dX4_fallenOf_0 : decode cX4_fallenOf 0 = .ok (.iload_n 1, 1) := by decide +kernel
theorem dX4_fallenOf_1 : decode cX4_fallenOf 1 = .ok (.invokestatic 209, 3) := by decide +kernel
theorem dX4_fallenOf_4 : decode cX4_fallenOf 4 = .ok (.aload_n 0, 1) := by decide +kernel
theorem dX4_fallenOf_5 : decode cX4_fallenOf 5 = .ok (.getfield 10, 3) := by decide +kernel
theorem dX4_fallenOf_8 : decode cX4_fallenOf 8 = .ok (.iload_n 1, 1) := by decide +kernel
theorem dX4_fallenOf_9 : decode cX4_fallenOf 9 = .ok (.invokevirtual 222, 3) := by decide +kernel
theorem dX4_fallenOf_12 : decode cX4_fallenOf 12 = .ok (.ireturn, 1) := by decide +kernel
theorem dX4_frontOf_0 : decode cX4_frontOf 0 = .ok (.iload_n 1, 1) := by decide +kernel
theorem dX4_frontOf_1 : decode cX4_frontOf 1 = .ok (.invokestatic 225, 3) := by decide +kernel
theorem dX4_frontOf_4 : decode cX4_frontOf 4 = .ok (.ifCond .eq 10, 3) := by decide +kernel
theorem dX4_frontOf_7 : decode cX4_frontOf 7 = .ok (.iload_n 2, 1) := by decide +kernel
theorem dX4_frontOf_8 : decode cX4_frontOf 8 = .ok (.invokestatic 158, 3) := by decide +kernel
theorem dX4_frontOf_11 : decode cX4_frontOf 11 = .ok (.ifCond .ne 13, 3) := by decide +kernel
theorem dX4_frontOf_14 : decode cX4_frontOf 14 = .ok (.new 58, 3) := by decide +kernel
theorem dX4_frontOf_17 : decode cX4_frontOf 17 = .ok (.dup, 1) := by decide +kernel
theorem dX4_frontOf_18 : decode cX4_frontOf 18 = .ok (.ldc 228, 2) := by decide +kernel
theorem dX4_frontOf_20 : decode cX4_frontOf 20 = .ok (.invokespecial 62, 3) := by decide +kernel
theorem dX4_frontOf_23 : decode cX4_frontOf 23 = .ok (.athrow, 1) := by decide +kernel
theorem dX4_frontOf_24 : decode cX4_frontOf 24 = .ok (.aload_n 0, 1) := by decide +kernel
theorem dX4_frontOf_25 : decode cX4_frontOf 25 = .ok (.getfield 10, 3) := by decide +kernel
theorem dX4_frontOf_28 : decode cX4_frontOf 28 = .ok (.iload_n 1, 1) := by decide +kernel
theorem dX4_frontOf_29 : decode cX4_frontOf 29 = .ok (.iload_n 2, 1) := by decide +kernel
theorem dX4_frontOf_30 : decode cX4_frontOf 30 = .ok (.invokevirtual 230, 3) := by decide +kernel
theorem dX4_frontOf_33 : decode cX4_frontOf 33 = .ok (.istore_n 3, 1) := by decide +kernel
theorem dX4_frontOf_34 : decode cX4_frontOf 34 = .ok (.iload_n 3, 1) := by decide +kernel
theorem dX4_frontOf_35 : decode cX4_frontOf 35 = .ok (.iconst (-1), 1) := by decide +kernel
theorem dX4_frontOf_36 : decode cX4_frontOf 36 = .ok (.if_icmp .ne 13, 3) := by decide +kernel
theorem dX4_frontOf_39 : decode cX4_frontOf 39 = .ok (.new 171, 3) := by decide +kernel
theorem dX4_frontOf_42 : decode cX4_frontOf 42 = .ok (.dup, 1) := by decide +kernel
theorem dX4_frontOf_43 : decode cX4_frontOf 43 = .ok (.ldc 234, 2) := by decide +kernel
theorem dX4_frontOf_45 : decode cX4_frontOf 45 = .ok (.invokespecial 175, 3) := by decide +kernel
theorem dX4_frontOf_48 : decode cX4_frontOf 48 = .ok (.athrow, 1) := by decide +kernel
theorem dX4_frontOf_49 : decode cX4_frontOf 49 = .ok (.iload_n 3, 1) := by decide +kernel
theorem dX4_frontOf_50 : decode cX4_frontOf 50 = .ok (.ireturn, 1) := by decide +kernel
theorem dX4_leader_0 : decode cX4_leader 0 = .ok (.aload_n 0, 1) := by decide +kernel
theorem dX4_leader_1 : decode cX4_leader 1 = .ok (.getfield 10, 3) := by decide +kernel
theorem dX4_leader_4 : decode cX4_leader 4 = .ok (.iconst 0, 1) := by decide +kernel
theorem dX4_leader_5 : decode cX4_leader 5 = .ok (.invokevirtual 216, 3) := by decide +kernel
theorem dX4_leader_8 : decode cX4_leader 8 = .ok (.aload_n 0, 1) := by decide +kernel
theorem dX4_leader_9 : decode cX4_leader 9 = .ok (.getfield 10, 3) := by decide +kernel
theorem dX4_leader_12 : decode cX4_leader 12 = .ok (.iconst 1, 1) := by decide +kernel
theorem dX4_leader_13 : decode cX4_leader 13 = .ok (.invokevirtual 216, 3) := by decide +kernel
theorem dX4_leader_16 : decode cX4_leader 16 = .ok (.isub, 1) := by decide +kernel
theorem dX4_leader_17 : decode cX4_leader 17 = .ok (.istore_n 1, 1) := by decide +kernel
theorem dX4_leader_18 : decode cX4_leader 18 = .ok (.iload_n 1, 1) := by decide +kernel
theorem dX4_leader_19 : decode cX4_leader 19 = .ok (.ifCond .ne 13, 3) := by decide +kernel
theorem dX4_leader_22 : decode cX4_leader 22 = .ok (.new 171, 3) := by decide +kernel
theorem dX4_leader_25 : decode cX4_leader 25 = .ok (.dup, 1) := by decide +kernel
theorem dX4_leader_26 : decode cX4_leader 26 = .ok (.ldc 236, 2) := by decide +kernel
theorem dX4_leader_28 : decode cX4_leader 28 = .ok (.invokespecial 175, 3) := by decide +kernel
theorem dX4_leader_31 : decode cX4_leader 31 = .ok (.athrow, 1) := by decide +kernel
theorem dX4_leader_32 : decode cX4_leader 32 = .ok (.iload_n 1, 1) := by decide +kernel
theorem dX4_leader_33 : decode cX4_leader 33 = .ok (.ifCond .le 7, 3) := by decide +kernel
theorem dX4_leader_36 : decode cX4_leader 36 = .ok (.iconst 0, 1) := by decide +kernel
theorem dX4_leader_37 : decode cX4_leader 37 = .ok (.goto 4, 3) := by decide +kernel
theorem dX4_leader_40 : decode cX4_leader 40 = .ok (.iconst 1, 1) := by decide +kernel
theorem dX4_leader_41 : decode cX4_leader 41 = .ok (.ireturn, 1) := by decide +kernel
theorem dX4_lineByStrength_0 : decode cX4_lineByStrength 0 = .ok (.aload_n 0, 1) := by decide +kernel
theorem dX4_lineByStrength_1 : decode cX4_lineByStrength 1 = .ok (.getfield 10, 3) := by decide +kernel
theorem dX4_lineByStrength_4 : decode cX4_lineByStrength 4 = .ok (.iload_n 1, 1) := by decide +kernel
theorem dX4_lineByStrength_5 : decode cX4_lineByStrength 5 = .ok (.invokevirtual 238, 3) := by decide +kernel
theorem dX4_lineByStrength_8 : decode cX4_lineByStrength 8 = .ok (.istore_n 2, 1) := by decide +kernel
theorem dX4_lineByStrength_9 : decode cX4_lineByStrength 9 = .ok (.iload_n 2, 1) := by decide +kernel
theorem dX4_lineByStrength_10 : decode cX4_lineByStrength 10 = .ok (.iconst (-1), 1) := by decide +kernel
theorem dX4_lineByStrength_11 : decode cX4_lineByStrength 11 = .ok (.if_icmp .ne 13, 3) := by decide +kernel
theorem dX4_lineByStrength_14 : decode cX4_lineByStrength 14 = .ok (.new 171, 3) := by decide +kernel
theorem dX4_lineByStrength_17 : decode cX4_lineByStrength 17 = .ok (.dup, 1) := by decide +kernel
theorem dX4_lineByStrength_18 : decode cX4_lineByStrength 18 = .ok (.ldc 241, 2) := by decide +kernel
theorem dX4_lineByStrength_20 : decode cX4_lineByStrength 20 = .ok (.invokespecial 175, 3) := by decide +kernel
theorem dX4_lineByStrength_23 : decode cX4_lineByStrength 23 = .ok (.athrow, 1) := by decide +kernel
theorem dX4_lineByStrength_24 : decode cX4_lineByStrength 24 = .ok (.iload_n 2, 1) := by decide +kernel
theorem dX4_lineByStrength_25 : decode cX4_lineByStrength 25 = .ok (.ireturn, 1) := by decide +kernel
theorem dX4_turnCount_0 : decode cX4_turnCount 0 = .ok (.aload_n 0, 1) := by decide +kernel
theorem dX4_turnCount_1 : decode cX4_turnCount 1 = .ok (.getfield 10, 3) := by decide +kernel
theorem dX4_turnCount_4 : decode cX4_turnCount 4 = .ok (.getfield 243, 3) := by decide +kernel
theorem dX4_turnCount_7 : decode cX4_turnCount 7 = .ok (.ireturn, 1) := by decide +kernel
theorem dX4_writeLane_0 : decode cX4_writeLane 0 = .ok (.iload_n 1, 1) := by decide +kernel
theorem dX4_writeLane_1 : decode cX4_writeLane 1 = .ok (.invokestatic 158, 3) := by decide +kernel
theorem dX4_writeLane_4 : decode cX4_writeLane 4 = .ok (.ifCond .ne 13, 3) := by decide +kernel
theorem dX4_writeLane_7 : decode cX4_writeLane 7 = .ok (.new 86, 3) := by decide +kernel
theorem dX4_writeLane_10 : decode cX4_writeLane 10 = .ok (.dup, 1) := by decide +kernel
theorem dX4_writeLane_11 : decode cX4_writeLane 11 = .ok (.ldc 246, 2) := by decide +kernel
theorem dX4_writeLane_13 : decode cX4_writeLane 13 = .ok (.invokespecial 90, 3) := by decide +kernel
theorem dX4_writeLane_16 : decode cX4_writeLane 16 = .ok (.athrow, 1) := by decide +kernel
theorem dX4_writeLane_17 : decode cX4_writeLane 17 = .ok (.aload_n 0, 1) := by decide +kernel
theorem dX4_writeLane_18 : decode cX4_writeLane 18 = .ok (.iconst 0, 1) := by decide +kernel
theorem dX4_writeLane_19 : decode cX4_writeLane 19 = .ok (.putfield 40, 3) := by decide +kernel
theorem dX4_writeLane_22 : decode cX4_writeLane 22 = .ok (.iconst 0, 1) := by decide +kernel
theorem dX4_writeLane_23 : decode cX4_writeLane 23 = .ok (.istore_n 2, 1) := by decide +kernel
theorem dX4_writeLane_24 : decode cX4_writeLane 24 = .ok (.iload_n 2, 1) := by decide +kernel
theorem dX4_writeLane_25 : decode cX4_writeLane 25 = .ok (.bipush 10, 2) := by decide +kernel
theorem dX4_writeLane_27 : decode cX4_writeLane 27 = .ok (.if_icmp .ge 53, 3) := by decide +kernel
theorem dX4_writeLane_30 : decode cX4_writeLane 30 = .ok (.aload_n 0, 1) := by decide +kernel
theorem dX4_writeLane_31 : decode cX4_writeLane 31 = .ok (.getfield 10, 3) := by decide +kernel
theorem dX4_writeLane_34 : decode cX4_writeLane 34 = .ok (.iload_n 1, 1) := by decide +kernel
theorem dX4_writeLane_35 : decode cX4_writeLane 35 = .ok (.iload_n 2, 1) := by decide +kernel
theorem dX4_writeLane_36 : decode cX4_writeLane 36 = .ok (.invokevirtual 167, 3) := by decide +kernel
theorem dX4_writeLane_39 : decode cX4_writeLane 39 = .ok (.astore_n 3, 1) := by decide +kernel
theorem dX4_writeLane_40 : decode cX4_writeLane 40 = .ok (.aload_n 3, 1) := by decide +kernel
theorem dX4_writeLane_41 : decode cX4_writeLane 41 = .ok (.ifnonnull 12, 3) := by decide +kernel
theorem dX4_writeLane_44 : decode cX4_writeLane 44 = .ok (.aload_n 0, 1) := by decide +kernel
theorem dX4_writeLane_45 : decode cX4_writeLane 45 = .ok (.bipush 46, 2) := by decide +kernel
theorem dX4_writeLane_47 : decode cX4_writeLane 47 = .ok (.invokevirtual 248, 3) := by decide +kernel
theorem dX4_writeLane_50 : decode cX4_writeLane 50 = .ok (.goto 24, 3) := by decide +kernel
theorem dX4_writeLane_53 : decode cX4_writeLane 53 = .ok (.aload_n 0, 1) := by decide +kernel
theorem dX4_writeLane_54 : decode cX4_writeLane 54 = .ok (.aload_n 3, 1) := by decide +kernel
theorem dX4_writeLane_55 : decode cX4_writeLane 55 = .ok (.invokevirtual 252, 3) := by decide +kernel
theorem dX4_writeLane_58 : decode cX4_writeLane 58 = .ok (.invokevirtual 248, 3) := by decide +kernel
theorem dX4_writeLane_61 : decode cX4_writeLane 61 = .ok (.aload_n 3, 1) := by decide +kernel
theorem dX4_writeLane_62 : decode cX4_writeLane 62 = .ok (.invokevirtual 152, 3) := by decide +kernel
theorem dX4_writeLane_65 : decode cX4_writeLane 65 = .ok (.ifCond .eq 9, 3) := by decide +kernel
theorem dX4_writeLane_68 : decode cX4_writeLane 68 = .ok (.aload_n 0, 1) := by decide +kernel
theorem dX4_writeLane_69 : decode cX4_writeLane 69 = .ok (.bipush 33, 2) := by decide +kernel
theorem dX4_writeLane_71 : decode cX4_writeLane 71 = .ok (.invokevirtual 248, 3) := by decide +kernel
theorem dX4_writeLane_74 : decode cX4_writeLane 74 = .ok (.iinc 2 1, 3) := by decide +kernel
theorem dX4_writeLane_77 : decode cX4_writeLane 77 = .ok (.goto (-53), 3) := by decide +kernel
theorem dX4_writeLane_80 : decode cX4_writeLane 80 = .ok (.aload_n 0, 1) := by decide +kernel
theorem dX4_writeLane_81 : decode cX4_writeLane 81 = .ok (.getfield 40, 3) := by decide +kernel
theorem dX4_writeLane_84 : decode cX4_writeLane 84 = .ok (.ireturn, 1) := by decide +kernel
theorem dX4_writtenAt_0 : decode cX4_writtenAt 0 = .ok (.iload_n 1, 1) := by decide +kernel
theorem dX4_writtenAt_1 : decode cX4_writtenAt 1 = .ok (.ifCond .lt 20, 3) := by decide +kernel
theorem dX4_writtenAt_4 : decode cX4_writtenAt 4 = .ok (.iload_n 1, 1) := by decide +kernel
theorem dX4_writtenAt_5 : decode cX4_writtenAt 5 = .ok (.aload_n 0, 1) := by decide +kernel
theorem dX4_writtenAt_6 : decode cX4_writtenAt 6 = .ok (.getfield 40, 3) := by decide +kernel
theorem dX4_writtenAt_9 : decode cX4_writtenAt 9 = .ok (.if_icmp .ge 12, 3) := by decide +kernel
theorem dX4_writtenAt_12 : decode cX4_writtenAt 12 = .ok (.iload_n 1, 1) := by decide +kernel
theorem dX4_writtenAt_13 : decode cX4_writtenAt 13 = .ok (.aload_n 0, 1) := by decide +kernel
theorem dX4_writtenAt_14 : decode cX4_writtenAt 14 = .ok (.getfield 36, 3) := by decide +kernel
theorem dX4_writtenAt_17 : decode cX4_writtenAt 17 = .ok (.arraylength, 1) := by decide +kernel
theorem dX4_writtenAt_18 : decode cX4_writtenAt 18 = .ok (.if_icmp .lt 14, 3) := by decide +kernel
theorem dX4_writtenAt_21 : decode cX4_writtenAt 21 = .ok (.new 86, 3) := by decide +kernel
theorem dX4_writtenAt_24 : decode cX4_writtenAt 24 = .ok (.dup, 1) := by decide +kernel
theorem dX4_writtenAt_25 : decode cX4_writtenAt 25 = .ok (.ldc_w 256, 3) := by decide +kernel
theorem dX4_writtenAt_28 : decode cX4_writtenAt 28 = .ok (.invokespecial 90, 3) := by decide +kernel
theorem dX4_writtenAt_31 : decode cX4_writtenAt 31 = .ok (.athrow, 1) := by decide +kernel
theorem dX4_writtenAt_32 : decode cX4_writtenAt 32 = .ok (.aload_n 0, 1) := by decide +kernel
theorem dX4_writtenAt_33 : decode cX4_writtenAt 33 = .ok (.getfield 36, 3) := by decide +kernel
theorem dX4_writtenAt_36 : decode cX4_writtenAt 36 = .ok (.iload_n 1, 1) := by decide +kernel
theorem dX4_writtenAt_37 : decode cX4_writtenAt 37 = .ok (.caload, 1) := by decide +kernel
theorem dX4_writtenAt_38 : decode cX4_writtenAt 38 = .ok (.ireturn, 1) := by decide +kernel
theorem dX4_meanMorale_0 : decode cX4_meanMorale 0 = .ok (.aload_n 0, 1) := by decide +kernel
theorem dX4_meanMorale_1 : decode cX4_meanMorale 1 = .ok (.getfield 10, 3) := by decide +kernel
theorem dX4_meanMorale_4 : decode cX4_meanMorale 4 = .ok (.invokevirtual 258, 3) := by decide +kernel
theorem dX4_meanMorale_7 : decode cX4_meanMorale 7 = .ok (.istore_n 1, 1) := by decide +kernel
theorem dX4_meanMorale_8 : decode cX4_meanMorale 8 = .ok (.iload_n 1, 1) := by decide +kernel
theorem dX4_meanMorale_9 : decode cX4_meanMorale 9 = .ok (.ifCond .ne 14, 3) := by decide +kernel
theorem dX4_meanMorale_12 : decode cX4_meanMorale 12 = .ok (.new 261, 3) := by decide +kernel
theorem dX4_meanMorale_15 : decode cX4_meanMorale 15 = .ok (.dup, 1) := by decide +kernel
theorem dX4_meanMorale_16 : decode cX4_meanMorale 16 = .ok (.ldc_w 263, 3) := by decide +kernel
theorem dX4_meanMorale_19 : decode cX4_meanMorale 19 = .ok (.invokespecial 265, 3) := by decide +kernel
theorem dX4_meanMorale_22 : decode cX4_meanMorale 22 = .ok (.athrow, 1) := by decide +kernel
theorem dX4_meanMorale_23 : decode cX4_meanMorale 23 = .ok (.aload_n 0, 1) := by decide +kernel
theorem dX4_meanMorale_24 : decode cX4_meanMorale 24 = .ok (.getfield 10, 3) := by decide +kernel
theorem dX4_meanMorale_27 : decode cX4_meanMorale 27 = .ok (.invokevirtual 266, 3) := by decide +kernel
theorem dX4_meanMorale_30 : decode cX4_meanMorale 30 = .ok (.i2d, 1) := by decide +kernel
theorem dX4_meanMorale_31 : decode cX4_meanMorale 31 = .ok (.iload_n 1, 1) := by decide +kernel
theorem dX4_meanMorale_32 : decode cX4_meanMorale 32 = .ok (.i2d, 1) := by decide +kernel
theorem dX4_meanMorale_33 : decode cX4_meanMorale 33 = .ok (.ddiv, 1) := by decide +kernel
theorem dX4_meanMorale_34 : decode cX4_meanMorale 34 = .ok (.dreturn, 1) := by decide +kernel
theorem dX4_standingShare_0 : decode cX4_standingShare 0 = .ok (.aload_n 0, 1) := by decide +kernel
theorem dX4_standingShare_1 : decode cX4_standingShare 1 = .ok (.getfield 10, 3) := by decide +kernel
theorem dX4_standingShare_4 : decode cX4_standingShare 4 = .ok (.getfield 114, 3) := by decide +kernel
theorem dX4_standingShare_7 : decode cX4_standingShare 7 = .ok (.istore_n 1, 1) := by decide +kernel
theorem dX4_standingShare_8 : decode cX4_standingShare 8 = .ok (.iload_n 1, 1) := by decide +kernel
theorem dX4_standingShare_9 : decode cX4_standingShare 9 = .ok (.ifCond .ne 14, 3) := by decide +kernel
theorem dX4_standingShare_12 : decode cX4_standingShare 12 = .ok (.new 261, 3) := by decide +kernel
theorem dX4_standingShare_15 : decode cX4_standingShare 15 = .ok (.dup, 1) := by decide +kernel
theorem dX4_standingShare_16 : decode cX4_standingShare 16 = .ok (.ldc_w 269, 3) := by decide +kernel
theorem dX4_standingShare_19 : decode cX4_standingShare 19 = .ok (.invokespecial 265, 3) := by decide +kernel
theorem dX4_standingShare_22 : decode cX4_standingShare 22 = .ok (.athrow, 1) := by decide +kernel
theorem dX4_standingShare_23 : decode cX4_standingShare 23 = .ok (.aload_n 0, 1) := by decide +kernel
theorem dX4_standingShare_24 : decode cX4_standingShare 24 = .ok (.getfield 10, 3) := by decide +kernel
theorem dX4_standingShare_27 : decode cX4_standingShare 27 = .ok (.invokevirtual 271, 3) := by decide +kernel
theorem dX4_standingShare_30 : decode cX4_standingShare 30 = .ok (.i2f, 1) := by decide +kernel
theorem dX4_standingShare_31 : decode cX4_standingShare 31 = .ok (.iload_n 1, 1) := by decide +kernel
theorem dX4_standingShare_32 : decode cX4_standingShare 32 = .ok (.i2f, 1) := by decide +kernel
theorem dX4_standingShare_33 : decode cX4_standingShare 33 = .ok (.fdiv, 1) := by decide +kernel
theorem dX4_standingShare_34 : decode cX4_standingShare 34 = .ok (.freturn, 1) := by decide +kernel
theorem dX4_isConsistent_0 : decode cX4_isConsistent 0 = .ok (.aload_n 0, 1) := by decide +kernel
theorem dX4_isConsistent_1 : decode cX4_isConsistent 1 = .ok (.getfield 10, 3) := by decide +kernel
theorem dX4_isConsistent_4 : decode cX4_isConsistent 4 = .ok (.invokevirtual 274, 3) := by decide +kernel
theorem dX4_isConsistent_7 : decode cX4_isConsistent 7 = .ok (.ireturn, 1) := by decide +kernel
theorem dX4_type_0 : decode cX4_type 0 = .ok (.iload_n 1, 1) := by decide +kernel
theorem dX4_type_1 : decode cX4_type 1 = .ok (.bipush 32, 2) := by decide +kernel
theorem dX4_type_3 : decode cX4_type 3 = .ok (.if_icmp .lt 9, 3) := by decide +kernel
theorem dX4_type_6 : decode cX4_type 6 = .ok (.iload_n 1, 1) := by decide +kernel
theorem dX4_type_7 : decode cX4_type 7 = .ok (.bipush 126, 2) := by decide +kernel
theorem dX4_type_9 : decode cX4_type 9 = .ok (.if_icmp .le 14, 3) := by decide +kernel
theorem dX4_type_12 : decode cX4_type 12 = .ok (.new 58, 3) := by decide +kernel
theorem dX4_type_15 : decode cX4_type 15 = .ok (.dup, 1) := by decide +kernel
theorem dX4_type_16 : decode cX4_type 16 = .ok (.ldc_w 277, 3) := by decide +kernel
theorem dX4_type_19 : decode cX4_type 19 = .ok (.invokespecial 62, 3) := by decide +kernel
theorem dX4_type_22 : decode cX4_type 22 = .ok (.athrow, 1) := by decide +kernel
theorem dX4_type_23 : decode cX4_type 23 = .ok (.aload_n 0, 1) := by decide +kernel
theorem dX4_type_24 : decode cX4_type 24 = .ok (.getfield 32, 3) := by decide +kernel
theorem dX4_type_27 : decode cX4_type 27 = .ok (.iload_n 1, 1) := by decide +kernel
theorem dX4_type_28 : decode cX4_type 28 = .ok (.invokevirtual 279, 3) := by decide +kernel
theorem dX4_type_31 : decode cX4_type 31 = .ok (.ifCond .ne 14, 3) := by decide +kernel
theorem dX4_type_34 : decode cX4_type 34 = .ok (.new 65, 3) := by decide +kernel
theorem dX4_type_37 : decode cX4_type 37 = .ok (.dup, 1) := by decide +kernel
theorem dX4_type_38 : decode cX4_type 38 = .ok (.ldc_w 283, 3) := by decide +kernel
theorem dX4_type_41 : decode cX4_type 41 = .ok (.invokespecial 69, 3) := by decide +kernel
theorem dX4_type_44 : decode cX4_type 44 = .ok (.athrow, 1) := by decide +kernel
theorem dX4_type_45 : decode cX4_type 45 = .ok (.aload_n 0, 1) := by decide +kernel
theorem dX4_type_46 : decode cX4_type 46 = .ok (.getfield 32, 3) := by decide +kernel
theorem dX4_type_49 : decode cX4_type 49 = .ok (.getfield 285, 3) := by decide +kernel
theorem dX4_type_52 : decode cX4_type 52 = .ok (.ireturn, 1) := by decide +kernel
theorem dX4_execute_0 : decode cX4_execute 0 = .ok (.aload_n 0, 1) := by decide +kernel
theorem dX4_execute_1 : decode cX4_execute 1 = .ok (.getfield 32, 3) := by decide +kernel
theorem dX4_execute_4 : decode cX4_execute 4 = .ok (.invokevirtual 288, 3) := by decide +kernel
theorem dX4_execute_7 : decode cX4_execute 7 = .ok (.istore_n 1, 1) := by decide +kernel
theorem dX4_execute_8 : decode cX4_execute 8 = .ok (.iload_n 1, 1) := by decide +kernel
theorem dX4_execute_9 : decode cX4_execute 9 = .ok (.iconst (-1), 1) := by decide +kernel
theorem dX4_execute_10 : decode cX4_execute 10 = .ok (.if_icmp .ne 32, 3) := by decide +kernel
theorem dX4_execute_13 : decode cX4_execute 13 = .ok (.aload_n 0, 1) := by decide +kernel
theorem dX4_execute_14 : decode cX4_execute 14 = .ok (.aload_n 0, 1) := by decide +kernel
theorem dX4_execute_15 : decode cX4_execute 15 = .ok (.getfield 32, 3) := by decide +kernel
theorem dX4_execute_18 : decode cX4_execute 18 = .ok (.getfield 291, 3) := by decide +kernel
theorem dX4_execute_21 : decode cX4_execute 21 = .ok (.putfield 48, 3) := by decide +kernel
theorem dX4_execute_24 : decode cX4_execute 24 = .ok (.aload_n 0, 1) := by decide +kernel
theorem dX4_execute_25 : decode cX4_execute 25 = .ok (.getfield 32, 3) := by decide +kernel
theorem dX4_execute_28 : decode cX4_execute 28 = .ok (.invokevirtual 294, 3) := by decide +kernel
theorem dX4_execute_31 : decode cX4_execute 31 = .ok (.new 58, 3) := by decide +kernel
theorem dX4_execute_34 : decode cX4_execute 34 = .ok (.dup, 1) := by decide +kernel
theorem dX4_execute_35 : decode cX4_execute 35 = .ok (.ldc_w 297, 3) := by decide +kernel
theorem dX4_execute_38 : decode cX4_execute 38 = .ok (.invokespecial 62, 3) := by decide +kernel
theorem dX4_execute_41 : decode cX4_execute 41 = .ok (.athrow, 1) := by decide +kernel
theorem dX4_execute_42 : decode cX4_execute 42 = .ok (.aload_n 0, 1) := by decide +kernel
theorem dX4_execute_43 : decode cX4_execute 43 = .ok (.getfield 19, 3) := by decide +kernel
theorem dX4_execute_46 : decode cX4_execute 46 = .ok (.aload_n 0, 1) := by decide +kernel
theorem dX4_execute_47 : decode cX4_execute 47 = .ok (.getfield 10, 3) := by decide +kernel
theorem dX4_execute_50 : decode cX4_execute 50 = .ok (.invokevirtual 204, 3) := by decide +kernel
theorem dX4_execute_53 : decode cX4_execute 53 = .ok (.aload_n 0, 1) := by decide +kernel
theorem dX4_execute_54 : decode cX4_execute 54 = .ok (.getfield 32, 3) := by decide +kernel
theorem dX4_execute_57 : decode cX4_execute 57 = .ok (.invokevirtual 299, 3) := by decide +kernel
theorem dX4_execute_60 : decode cX4_execute 60 = .ok (.iconst 0, 1) := by decide +kernel
theorem dX4_execute_61 : decode cX4_execute 61 = .ok (.istore_n 2, 1) := by decide +kernel
theorem dX4_execute_62 : decode cX4_execute 62 = .ok (.iload_n 2, 1) := by decide +kernel
theorem dX4_execute_63 : decode cX4_execute 63 = .ok (.iload_n 1, 1) := by decide +kernel
theorem dX4_execute_64 : decode cX4_execute 64 = .ok (.if_icmp .ge 26, 3) := by decide +kernel
theorem dX4_execute_67 : decode cX4_execute 67 = .ok (.aload_n 0, 1) := by decide +kernel
theorem dX4_execute_68 : decode cX4_execute 68 = .ok (.getfield 32, 3) := by decide +kernel
theorem dX4_execute_71 : decode cX4_execute 71 = .ok (.invokevirtual 302, 3) := by decide +kernel
theorem dX4_execute_74 : decode cX4_execute 74 = .ok (.ifCond .eq 16, 3) := by decide +kernel
theorem dX4_execute_77 : decode cX4_execute 77 = .ok (.aload_n 0, 1) := by decide +kernel
theorem dX4_execute_78 : decode cX4_execute 78 = .ok (.invokevirtual 305, 3) := by decide +kernel
theorem dX4_execute_81 : decode cX4_execute 81 = .ok (.ifCond .eq 9, 3) := by decide +kernel
theorem dX4_execute_84 : decode cX4_execute 84 = .ok (.iinc 2 1, 3) := by decide +kernel
theorem dX4_execute_87 : decode cX4_execute 87 = .ok (.goto (-25), 3) := by decide +kernel
theorem dX4_execute_90 : decode cX4_execute 90 = .ok (.aload_n 0, 1) := by decide +kernel
theorem dX4_execute_91 : decode cX4_execute 91 = .ok (.getfield 32, 3) := by decide +kernel
theorem dX4_execute_94 : decode cX4_execute 94 = .ok (.invokevirtual 294, 3) := by decide +kernel
theorem dX4_execute_97 : decode cX4_execute 97 = .ok (.iload_n 2, 1) := by decide +kernel
theorem dX4_execute_98 : decode cX4_execute 98 = .ok (.iload_n 1, 1) := by decide +kernel
theorem dX4_execute_99 : decode cX4_execute 99 = .ok (.if_icmp .ge 30, 3) := by decide +kernel
theorem dX4_execute_102 : decode cX4_execute 102 = .ok (.aload_n 0, 1) := by decide +kernel
theorem dX4_execute_103 : decode cX4_execute 103 = .ok (.getfield 10, 3) := by decide +kernel
theorem dX4_execute_106 : decode cX4_execute 106 = .ok (.aload_n 0, 1) := by decide +kernel
theorem dX4_execute_107 : decode cX4_execute 107 = .ok (.getfield 19, 3) := by decide +kernel
theorem dX4_execute_110 : decode cX4_execute 110 = .ok (.invokevirtual 204, 3) := by decide +kernel
theorem dX4_execute_113 : decode cX4_execute 113 = .ok (.aload_n 0, 1) := by decide +kernel
theorem dX4_execute_114 : decode cX4_execute 114 = .ok (.iload_n 2, 1) := by decide +kernel
theorem dX4_execute_115 : decode cX4_execute 115 = .ok (.putfield 51, 3) := by decide +kernel
theorem dX4_execute_118 : decode cX4_execute 118 = .ok (.new 65, 3) := by decide +kernel
theorem dX4_execute_121 : decode cX4_execute 121 = .ok (.dup, 1) := by decide +kernel
theorem dX4_execute_122 : decode cX4_execute 122 = .ok (.ldc_w 308, 3) := by decide +kernel
theorem dX4_execute_125 : decode cX4_execute 125 = .ok (.invokespecial 69, 3) := by decide +kernel
theorem dX4_execute_128 : decode cX4_execute 128 = .ok (.athrow, 1) := by decide +kernel
theorem dX4_execute_129 : decode cX4_execute 129 = .ok (.aload_n 0, 1) := by decide +kernel
theorem dX4_execute_130 : decode cX4_execute 130 = .ok (.getfield 25, 3) := by decide +kernel
theorem dX4_execute_133 : decode cX4_execute 133 = .ok (.aload_n 0, 1) := by decide +kernel
theorem dX4_execute_134 : decode cX4_execute 134 = .ok (.getfield 19, 3) := by decide +kernel
theorem dX4_execute_137 : decode cX4_execute 137 = .ok (.invokevirtual 75, 3) := by decide +kernel
theorem dX4_execute_140 : decode cX4_execute 140 = .ok (.iload_n 1, 1) := by decide +kernel
theorem dX4_execute_141 : decode cX4_execute 141 = .ok (.ireturn, 1) := by decide +kernel
theorem dX4_undo_0 : decode cX4_undo 0 = .ok (.aload_n 0, 1) := by decide +kernel
theorem dX4_undo_1 : decode cX4_undo 1 = .ok (.getfield 25, 3) := by decide +kernel
theorem dX4_undo_4 : decode cX4_undo 4 = .ok (.aload_n 0, 1) := by decide +kernel
theorem dX4_undo_5 : decode cX4_undo 5 = .ok (.getfield 10, 3) := by decide +kernel
theorem dX4_undo_8 : decode cX4_undo 8 = .ok (.invokevirtual 314, 3) := by decide +kernel
theorem dX4_undo_11 : decode cX4_undo 11 = .ok (.ifCond .ne 14, 3) := by decide +kernel
theorem dX4_undo_14 : decode cX4_undo 14 = .ok (.new 65, 3) := by decide +kernel
theorem dX4_undo_17 : decode cX4_undo 17 = .ok (.dup, 1) := by decide +kernel
theorem dX4_undo_18 : decode cX4_undo 18 = .ok (.ldc_w 318, 3) := by decide +kernel
theorem dX4_undo_21 : decode cX4_undo 21 = .ok (.invokespecial 69, 3) := by decide +kernel
theorem dX4_undo_24 : decode cX4_undo 24 = .ok (.athrow, 1) := by decide +kernel
theorem dX4_undo_25 : decode cX4_undo 25 = .ok (.aload_n 0, 1) := by decide +kernel
theorem dX4_undo_26 : decode cX4_undo 26 = .ok (.getfield 25, 3) := by decide +kernel
theorem dX4_undo_29 : decode cX4_undo 29 = .ok (.getfield 320, 3) := by decide +kernel
theorem dX4_undo_32 : decode cX4_undo 32 = .ok (.ireturn, 1) := by decide +kernel
theorem dX4_isSide_0 : decode cX4_isSide 0 = .ok (.iload_n 0, 1) := by decide +kernel
theorem dX4_isSide_1 : decode cX4_isSide 1 = .ok (.ifCond .lt 12, 3) := by decide +kernel
theorem dX4_isSide_4 : decode cX4_isSide 4 = .ok (.iload_n 0, 1) := by decide +kernel
theorem dX4_isSide_5 : decode cX4_isSide 5 = .ok (.iconst 2, 1) := by decide +kernel
theorem dX4_isSide_6 : decode cX4_isSide 6 = .ok (.if_icmp .ge 7, 3) := by decide +kernel
theorem dX4_isSide_9 : decode cX4_isSide 9 = .ok (.iconst 1, 1) := by decide +kernel
theorem dX4_isSide_10 : decode cX4_isSide 10 = .ok (.goto 4, 3) := by decide +kernel
theorem dX4_isSide_13 : decode cX4_isSide 13 = .ok (.iconst 0, 1) := by decide +kernel
theorem dX4_isSide_14 : decode cX4_isSide 14 = .ok (.ireturn, 1) := by decide +kernel
theorem dX4_isLane_0 : decode cX4_isLane 0 = .ok (.iload_n 0, 1) := by decide +kernel
theorem dX4_isLane_1 : decode cX4_isLane 1 = .ok (.ifCond .lt 12, 3) := by decide +kernel
theorem dX4_isLane_4 : decode cX4_isLane 4 = .ok (.iload_n 0, 1) := by decide +kernel
theorem dX4_isLane_5 : decode cX4_isLane 5 = .ok (.iconst 3, 1) := by decide +kernel
theorem dX4_isLane_6 : decode cX4_isLane 6 = .ok (.if_icmp .ge 7, 3) := by decide +kernel
theorem dX4_isLane_9 : decode cX4_isLane 9 = .ok (.iconst 1, 1) := by decide +kernel
theorem dX4_isLane_10 : decode cX4_isLane 10 = .ok (.goto 4, 3) := by decide +kernel
theorem dX4_isLane_13 : decode cX4_isLane 13 = .ok (.iconst 0, 1) := by decide +kernel
theorem dX4_isLane_14 : decode cX4_isLane 14 = .ok (.ireturn, 1) := by decide +kernel
theorem dX4_isColumn_0 : decode cX4_isColumn 0 = .ok (.iload_n 0, 1) := by decide +kernel
theorem dX4_isColumn_1 : decode cX4_isColumn 1 = .ok (.ifCond .lt 13, 3) := by decide +kernel
theorem dX4_isColumn_4 : decode cX4_isColumn 4 = .ok (.iload_n 0, 1) := by decide +kernel
theorem dX4_isColumn_5 : decode cX4_isColumn 5 = .ok (.bipush 10, 2) := by decide +kernel
theorem dX4_isColumn_7 : decode cX4_isColumn 7 = .ok (.if_icmp .ge 7, 3) := by decide +kernel
theorem dX4_isColumn_10 : decode cX4_isColumn 10 = .ok (.iconst 1, 1) := by decide +kernel
theorem dX4_isColumn_11 : decode cX4_isColumn 11 = .ok (.goto 4, 3) := by decide +kernel
theorem dX4_isColumn_14 : decode cX4_isColumn 14 = .ok (.iconst 0, 1) := by decide +kernel
theorem dX4_isColumn_15 : decode cX4_isColumn 15 = .ok (.ireturn, 1) := by decide +kernel
theorem dX4_requireSide_0 : decode cX4_requireSide 0 = .ok (.iload_n 0, 1) := by decide +kernel
theorem dX4_requireSide_1 : decode cX4_requireSide 1 = .ok (.invokestatic 225, 3) := by decide +kernel
theorem dX4_requireSide_4 : decode cX4_requireSide 4 = .ok (.ifCond .ne 14, 3) := by decide +kernel
theorem dX4_requireSide_7 : decode cX4_requireSide 7 = .ok (.new 58, 3) := by decide +kernel
theorem dX4_requireSide_10 : decode cX4_requireSide 10 = .ok (.dup, 1) := by decide +kernel
theorem dX4_requireSide_11 : decode cX4_requireSide 11 = .ok (.ldc_w 328, 3) := by decide +kernel
theorem dX4_requireSide_14 : decode cX4_requireSide 14 = .ok (.invokespecial 62, 3) := by decide +kernel
theorem dX4_requireSide_17 : decode cX4_requireSide 17 = .ok (.athrow, 1) := by decide +kernel
theorem dX4_requireSide_18 : decode cX4_requireSide 18 = .ok (.return_, 1) := by decide +kernel
theorem dX4_known_0 : decode cX4_known 0 = .ok (.aload_n 0, 1) := by decide +kernel
theorem dX4_known_1 : decode cX4_known 1 = .ok (.getfield 10, 3) := by decide +kernel
theorem dX4_known_4 : decode cX4_known 4 = .ok (.iload_n 1, 1) := by decide +kernel
theorem dX4_known_5 : decode cX4_known 5 = .ok (.invokevirtual 330, 3) := by decide +kernel
theorem dX4_known_8 : decode cX4_known 8 = .ok (.astore_n 2, 1) := by decide +kernel
theorem dX4_known_9 : decode cX4_known 9 = .ok (.aload_n 2, 1) := by decide +kernel
theorem dX4_known_10 : decode cX4_known 10 = .ok (.ifnonnull 13, 3) := by decide +kernel
theorem dX4_known_13 : decode cX4_known 13 = .ok (.new 86, 3) := by decide +kernel
theorem dX4_known_16 : decode cX4_known 16 = .ok (.dup, 1) := by decide +kernel
theorem dX4_known_17 : decode cX4_known 17 = .ok (.ldc 88, 2) := by decide +kernel
theorem dX4_known_19 : decode cX4_known 19 = .ok (.invokespecial 90, 3) := by decide +kernel
theorem dX4_known_22 : decode cX4_known 22 = .ok (.athrow, 1) := by decide +kernel
theorem dX4_known_23 : decode cX4_known 23 = .ok (.aload_n 2, 1) := by decide +kernel
theorem dX4_known_24 : decode cX4_known 24 = .ok (.areturn, 1) := by decide +kernel
theorem dX4_unfallen_0 : decode cX4_unfallen 0 = .ok (.aload_n 0, 1) := by decide +kernel
theorem dX4_unfallen_1 : decode cX4_unfallen 1 = .ok (.iload_n 1, 1) := by decide +kernel
theorem dX4_unfallen_2 : decode cX4_unfallen 2 = .ok (.invokevirtual 117, 3) := by decide +kernel
theorem dX4_unfallen_5 : decode cX4_unfallen 5 = .ok (.astore_n 2, 1) := by decide +kernel
theorem dX4_unfallen_6 : decode cX4_unfallen 6 = .ok (.aload_n 2, 1) := by decide +kernel
theorem dX4_unfallen_7 : decode cX4_unfallen 7 = .ok (.invokevirtual 333, 3) := by decide +kernel
theorem dX4_unfallen_10 : decode cX4_unfallen 10 = .ok (.ifCond .eq 14, 3) := by decide +kernel
theorem dX4_unfallen_13 : decode cX4_unfallen 13 = .ok (.new 171, 3) := by decide +kernel
theorem dX4_unfallen_16 : decode cX4_unfallen 16 = .ok (.dup, 1) := by decide +kernel
theorem dX4_unfallen_17 : decode cX4_unfallen 17 = .ok (.ldc_w 336, 3) := by decide +kernel
theorem dX4_unfallen_20 : decode cX4_unfallen 20 = .ok (.invokespecial 175, 3) := by decide +kernel
theorem dX4_unfallen_23 : decode cX4_unfallen 23 = .ok (.athrow, 1) := by decide +kernel
theorem dX4_unfallen_24 : decode cX4_unfallen 24 = .ok (.aload_n 2, 1) := by decide +kernel
theorem dX4_unfallen_25 : decode cX4_unfallen 25 = .ok (.areturn, 1) := by decide +kernel
theorem dX4_write_0 : decode cX4_write 0 = .ok (.aload_n 0, 1) := by decide +kernel
theorem dX4_write_1 : decode cX4_write 1 = .ok (.getfield 40, 3) := by decide +kernel
theorem dX4_write_4 : decode cX4_write 4 = .ok (.ifCond .lt 35, 3) := by decide +kernel
theorem dX4_write_7 : decode cX4_write 7 = .ok (.aload_n 0, 1) := by decide +kernel
theorem dX4_write_8 : decode cX4_write 8 = .ok (.getfield 40, 3) := by decide +kernel
theorem dX4_write_11 : decode cX4_write 11 = .ok (.aload_n 0, 1) := by decide +kernel
theorem dX4_write_12 : decode cX4_write 12 = .ok (.getfield 36, 3) := by decide +kernel
theorem dX4_write_15 : decode cX4_write 15 = .ok (.arraylength, 1) := by decide +kernel
theorem dX4_write_16 : decode cX4_write 16 = .ok (.if_icmp .ge 23, 3) := by decide +kernel
theorem dX4_write_19 : decode cX4_write 19 = .ok (.aload_n 0, 1) := by decide +kernel
theorem dX4_write_20 : decode cX4_write 20 = .ok (.getfield 36, 3) := by decide +kernel
theorem dX4_write_23 : decode cX4_write 23 = .ok (.aload_n 0, 1) := by decide +kernel
theorem dX4_write_24 : decode cX4_write 24 = .ok (.getfield 40, 3) := by decide +kernel
theorem dX4_write_27 : decode cX4_write 27 = .ok (.iload_n 1, 1) := by decide +kernel
theorem dX4_write_28 : decode cX4_write 28 = .ok (.castore, 1) := by decide +kernel
theorem dX4_write_29 : decode cX4_write 29 = .ok (.aload_n 0, 1) := by decide +kernel
theorem dX4_write_30 : decode cX4_write 30 = .ok (.dup, 1) := by decide +kernel
theorem dX4_write_31 : decode cX4_write 31 = .ok (.getfield 40, 3) := by decide +kernel
theorem dX4_write_34 : decode cX4_write 34 = .ok (.iconst 1, 1) := by decide +kernel
theorem dX4_write_35 : decode cX4_write 35 = .ok (.iadd, 1) := by decide +kernel
theorem dX4_write_36 : decode cX4_write 36 = .ok (.putfield 40, 3) := by decide +kernel
theorem dX4_write_39 : decode cX4_write 39 = .ok (.return_, 1) := by decide +kernel
theorem dX4_perform_0 : decode cX4_perform 0 = .ok (.aload_n 0, 1) := by decide +kernel
theorem dX4_perform_1 : decode cX4_perform 1 = .ok (.getfield 32, 3) := by decide +kernel
theorem dX4_perform_4 : decode cX4_perform 4 = .ok (.getfield 338, 3) := by decide +kernel
theorem dX4_perform_7 : decode cX4_perform 7 = .ok (.bipush 108, 2) := by decide +kernel
theorem dX4_perform_9 : decode cX4_perform 9 = .ok (.if_icmp .ne 82, 3) := by decide +kernel
theorem dX4_perform_12 : decode cX4_perform 12 = .ok (.aload_n 0, 1) := by decide +kernel
theorem dX4_perform_13 : decode cX4_perform 13 = .ok (.getfield 10, 3) := by decide +kernel
theorem dX4_perform_16 : decode cX4_perform 16 = .ok (.aload_n 0, 1) := by decide +kernel
theorem dX4_perform_17 : decode cX4_perform 17 = .ok (.getfield 32, 3) := by decide +kernel
theorem dX4_perform_20 : decode cX4_perform 20 = .ok (.getfield 341, 3) := by decide +kernel
theorem dX4_perform_23 : decode cX4_perform 23 = .ok (.aload_n 0, 1) := by decide +kernel
theorem dX4_perform_24 : decode cX4_perform 24 = .ok (.getfield 32, 3) := by decide +kernel
theorem dX4_perform_27 : decode cX4_perform 27 = .ok (.getfield 344, 3) := by decide +kernel
theorem dX4_perform_30 : decode cX4_perform 30 = .ok (.aload_n 0, 1) := by decide +kernel
theorem dX4_perform_31 : decode cX4_perform 31 = .ok (.getfield 32, 3) := by decide +kernel
theorem dX4_perform_34 : decode cX4_perform 34 = .ok (.getfield 347, 3) := by decide +kernel
theorem dX4_perform_37 : decode cX4_perform 37 = .ok (.aload_n 0, 1) := by decide +kernel
theorem dX4_perform_38 : decode cX4_perform 38 = .ok (.getfield 32, 3) := by decide +kernel
theorem dX4_perform_41 : decode cX4_perform 41 = .ok (.getfield 350, 3) := by decide +kernel
theorem dX4_perform_44 : decode cX4_perform 44 = .ok (.invokevirtual 54, 3) := by decide +kernel
theorem dX4_perform_47 : decode cX4_perform 47 = .ok (.ifCond .eq 5, 3) := by decide +kernel
theorem dX4_perform_50 : decode cX4_perform 50 = .ok (.iconst 0, 1) := by decide +kernel
theorem dX4_perform_51 : decode cX4_perform 51 = .ok (.ireturn, 1) := by decide +kernel
theorem dX4_perform_52 : decode cX4_perform 52 = .ok (.aload_n 0, 1) := by decide +kernel
theorem dX4_perform_53 : decode cX4_perform 53 = .ok (.getfield 10, 3) := by decide +kernel
theorem dX4_perform_56 : decode cX4_perform 56 = .ok (.aload_n 0, 1) := by decide +kernel
theorem dX4_perform_57 : decode cX4_perform 57 = .ok (.getfield 32, 3) := by decide +kernel
theorem dX4_perform_60 : decode cX4_perform 60 = .ok (.getfield 341, 3) := by decide +kernel
theorem dX4_perform_63 : decode cX4_perform 63 = .ok (.aload_n 0, 1) := by decide +kernel
theorem dX4_perform_64 : decode cX4_perform 64 = .ok (.getfield 32, 3) := by decide +kernel
theorem dX4_perform_67 : decode cX4_perform 67 = .ok (.getfield 344, 3) := by decide +kernel
theorem dX4_perform_70 : decode cX4_perform 70 = .ok (.aload_n 0, 1) := by decide +kernel
theorem dX4_perform_71 : decode cX4_perform 71 = .ok (.getfield 32, 3) := by decide +kernel
theorem dX4_perform_74 : decode cX4_perform 74 = .ok (.getfield 347, 3) := by decide +kernel
theorem dX4_perform_77 : decode cX4_perform 77 = .ok (.aload_n 0, 1) := by decide +kernel
theorem dX4_perform_78 : decode cX4_perform 78 = .ok (.getfield 32, 3) := by decide +kernel
theorem dX4_perform_81 : decode cX4_perform 81 = .ok (.getfield 350, 3) := by decide +kernel
theorem dX4_perform_84 : decode cX4_perform 84 = .ok (.invokevirtual 79, 3) := by decide +kernel
theorem dX4_perform_87 : decode cX4_perform 87 = .ok (.pop, 1) := by decide +kernel
theorem dX4_perform_88 : decode cX4_perform 88 = .ok (.goto 123, 3) := by decide +kernel
theorem dX4_perform_91 : decode cX4_perform 91 = .ok (.aload_n 0, 1) := by decide +kernel
theorem dX4_perform_92 : decode cX4_perform 92 = .ok (.getfield 32, 3) := by decide +kernel
theorem dX4_perform_95 : decode cX4_perform 95 = .ok (.getfield 338, 3) := by decide +kernel
theorem dX4_perform_98 : decode cX4_perform 98 = .ok (.bipush 111, 2) := by decide +kernel
theorem dX4_perform_100 : decode cX4_perform 100 = .ok (.if_icmp .ne 54, 3) := by decide +kernel
theorem dX4_perform_103 : decode cX4_perform 103 = .ok (.aload_n 0, 1) := by decide +kernel
theorem dX4_perform_104 : decode cX4_perform 104 = .ok (.getfield 10, 3) := by decide +kernel
theorem dX4_perform_107 : decode cX4_perform 107 = .ok (.aload_n 0, 1) := by decide +kernel
theorem dX4_perform_108 : decode cX4_perform 108 = .ok (.getfield 32, 3) := by decide +kernel
theorem dX4_perform_111 : decode cX4_perform 111 = .ok (.getfield 350, 3) := by decide +kernel
theorem dX4_perform_114 : decode cX4_perform 114 = .ok (.aload_n 0, 1) := by decide +kernel
theorem dX4_perform_115 : decode cX4_perform 115 = .ok (.getfield 32, 3) := by decide +kernel
theorem dX4_perform_118 : decode cX4_perform 118 = .ok (.getfield 347, 3) := by decide +kernel
theorem dX4_perform_121 : decode cX4_perform 121 = .ok (.invokevirtual 82, 3) := by decide +kernel
theorem dX4_perform_124 : decode cX4_perform 124 = .ok (.ifCond .eq 5, 3) := by decide +kernel
theorem dX4_perform_127 : decode cX4_perform 127 = .ok (.iconst 0, 1) := by decide +kernel
theorem dX4_perform_128 : decode cX4_perform 128 = .ok (.ireturn, 1) := by decide +kernel
theorem dX4_perform_129 : decode cX4_perform 129 = .ok (.aload_n 0, 1) := by decide +kernel
theorem dX4_perform_130 : decode cX4_perform 130 = .ok (.getfield 10, 3) := by decide +kernel
theorem dX4_perform_133 : decode cX4_perform 133 = .ok (.aload_n 0, 1) := by decide +kernel
theorem dX4_perform_134 : decode cX4_perform 134 = .ok (.getfield 32, 3) := by decide +kernel
theorem dX4_perform_137 : decode cX4_perform 137 = .ok (.getfield 350, 3) := by decide +kernel
theorem dX4_perform_140 : decode cX4_perform 140 = .ok (.aload_n 0, 1) := by decide +kernel
theorem dX4_perform_141 : decode cX4_perform 141 = .ok (.getfield 32, 3) := by decide +kernel
theorem dX4_perform_144 : decode cX4_perform 144 = .ok (.getfield 347, 3) := by decide +kernel
theorem dX4_perform_147 : decode cX4_perform 147 = .ok (.invokevirtual 95, 3) := by decide +kernel
theorem dX4_perform_150 : decode cX4_perform 150 = .ok (.pop, 1) := by decide +kernel
theorem dX4_perform_151 : decode cX4_perform 151 = .ok (.goto 60, 3) := by decide +kernel
theorem dX4_perform_154 : decode cX4_perform 154 = .ok (.aload_n 0, 1) := by decide +kernel
theorem dX4_perform_155 : decode cX4_perform 155 = .ok (.getfield 32, 3) := by decide +kernel
theorem dX4_perform_158 : decode cX4_perform 158 = .ok (.getfield 338, 3) := by decide +kernel
theorem dX4_perform_161 : decode cX4_perform 161 = .ok (.bipush 114, 2) := by decide +kernel
theorem dX4_perform_163 : decode cX4_perform 163 = .ok (.if_icmp .ne 40, 3) := by decide +kernel
theorem dX4_perform_166 : decode cX4_perform 166 = .ok (.aload_n 0, 1) := by decide +kernel
theorem dX4_perform_167 : decode cX4_perform 167 = .ok (.getfield 10, 3) := by decide +kernel
theorem dX4_perform_170 : decode cX4_perform 170 = .ok (.aload_n 0, 1) := by decide +kernel
theorem dX4_perform_171 : decode cX4_perform 171 = .ok (.getfield 32, 3) := by decide +kernel
theorem dX4_perform_174 : decode cX4_perform 174 = .ok (.getfield 350, 3) := by decide +kernel
theorem dX4_perform_177 : decode cX4_perform 177 = .ok (.invokevirtual 99, 3) := by decide +kernel
theorem dX4_perform_180 : decode cX4_perform 180 = .ok (.ifCond .eq 5, 3) := by decide +kernel
theorem dX4_perform_183 : decode cX4_perform 183 = .ok (.iconst 0, 1) := by decide +kernel
theorem dX4_perform_184 : decode cX4_perform 184 = .ok (.ireturn, 1) := by decide +kernel
theorem dX4_perform_185 : decode cX4_perform 185 = .ok (.aload_n 0, 1) := by decide +kernel
theorem dX4_perform_186 : decode cX4_perform 186 = .ok (.getfield 10, 3) := by decide +kernel
theorem dX4_perform_189 : decode cX4_perform 189 = .ok (.aload_n 0, 1) := by decide +kernel
theorem dX4_perform_190 : decode cX4_perform 190 = .ok (.getfield 32, 3) := by decide +kernel
theorem dX4_perform_193 : decode cX4_perform 193 = .ok (.getfield 350, 3) := by decide +kernel
theorem dX4_perform_196 : decode cX4_perform 196 = .ok (.invokevirtual 107, 3) := by decide +kernel
theorem dX4_perform_199 : decode cX4_perform 199 = .ok (.pop, 1) := by decide +kernel
theorem dX4_perform_200 : decode cX4_perform 200 = .ok (.goto 11, 3) := by decide +kernel
theorem dX4_perform_203 : decode cX4_perform 203 = .ok (.aload_n 0, 1) := by decide +kernel
theorem dX4_perform_204 : decode cX4_perform 204 = .ok (.getfield 10, 3) := by decide +kernel
theorem dX4_perform_207 : decode cX4_perform 207 = .ok (.invokevirtual 110, 3) := by decide +kernel
theorem dX4_perform_210 : decode cX4_perform 210 = .ok (.pop, 1) := by decide +kernel
theorem dX4_perform_211 : decode cX4_perform 211 = .ok (.iconst 1, 1) := by decide +kernel
theorem dX4_perform_212 : decode cX4_perform 212 = .ok (.ireturn, 1) := by decide +kernel
theorem dJ5_init_d00df_0 : decode cJ5_init_d00df 0 = .ok (.aload_n 0, 1) := by decide +kernel
theorem dJ5_init_d00df_1 : decode cJ5_init_d00df 1 = .ok (.invokespecial 3, 3) := by decide +kernel
theorem dJ5_init_d00df_4 : decode cJ5_init_d00df 4 = .ok (.getstatic 18, 3) := by decide +kernel
theorem dJ5_init_d00df_7 : decode cJ5_init_d00df 7 = .ok (.ifCond .eq 18, 3) := by decide +kernel
theorem dJ5_init_d00df_10 : decode cJ5_init_d00df 10 = .ok (.aload_n 0, 1) := by decide +kernel
theorem dJ5_init_d00df_11 : decode cJ5_init_d00df 11 = .ok (.iload_n 1, 1) := by decide +kernel
theorem dJ5_init_d00df_12 : decode cJ5_init_d00df 12 = .ok (.newarray .byte, 2) := by decide +kernel
theorem dJ5_init_d00df_14 : decode cJ5_init_d00df 14 = .ok (.putfield 15, 3) := by decide +kernel
theorem dJ5_init_d00df_17 : decode cJ5_init_d00df 17 = .ok (.aload_n 0, 1) := by decide +kernel
theorem dJ5_init_d00df_18 : decode cJ5_init_d00df 18 = .ok (.iconst 0, 1) := by decide +kernel
theorem dJ5_init_d00df_19 : decode cJ5_init_d00df 19 = .ok (.putfield 22, 3) := by decide +kernel
theorem dJ5_init_d00df_22 : decode cJ5_init_d00df 22 = .ok (.goto 16, 3) := by decide +kernel
theorem dJ5_init_d00df_25 : decode cJ5_init_d00df 25 = .ok (.aload_n 0, 1) := by decide +kernel
theorem dJ5_init_d00df_26 : decode cJ5_init_d00df 26 = .ok (.iload_n 1, 1) := by decide +kernel
theorem dJ5_init_d00df_27 : decode cJ5_init_d00df 27 = .ok (.invokestatic 26, 3) := by decide +kernel
theorem dJ5_init_d00df_30 : decode cJ5_init_d00df 30 = .ok (.putfield 15, 3) := by decide +kernel
theorem dJ5_init_d00df_33 : decode cJ5_init_d00df 33 = .ok (.aload_n 0, 1) := by decide +kernel
theorem dJ5_init_d00df_34 : decode cJ5_init_d00df 34 = .ok (.iconst 1, 1) := by decide +kernel
theorem dJ5_init_d00df_35 : decode cJ5_init_d00df 35 = .ok (.putfield 22, 3) := by decide +kernel
theorem dJ5_init_d00df_38 : decode cJ5_init_d00df 38 = .ok (.return_, 1) := by decide +kernel
theorem dJ5_length_8abf5_0 : decode cJ5_length_8abf5 0 = .ok (.aload_n 0, 1) := by decide +kernel
theorem dJ5_length_8abf5_1 : decode cJ5_length_8abf5 1 = .ok (.getfield 79, 3) := by decide +kernel
theorem dJ5_length_8abf5_4 : decode cJ5_length_8abf5 4 = .ok (.ireturn, 1) := by decide +kernel
theorem dJ5_ensureCapacityInternal_d00df_0 : decode cJ5_ensureCapacityInternal_d00df 0 = .ok (.aload_n 0, 1) := by decide +kernel
theorem dJ5_ensureCapacityInternal_d00df_1 : decode cJ5_ensureCapacityInternal_d00df 1 = .ok (.getfield 15, 3) := by decide +kernel
theorem dJ5_ensureCapacityInternal_d00df_4 : decode cJ5_ensureCapacityInternal_d00df 4 = .ok (.arraylength, 1) := by decide +kernel
theorem dJ5_ensureCapacityInternal_d00df_5 : decode cJ5_ensureCapacityInternal_d00df 5 = .ok (.aload_n 0, 1) := by decide +kernel
theorem dJ5_ensureCapacityInternal_d00df_6 : decode cJ5_ensureCapacityInternal_d00df 6 = .ok (.getfield 22, 3) := by decide +kernel
theorem dJ5_ensureCapacityInternal_d00df_9 : decode cJ5_ensureCapacityInternal_d00df 9 = .ok (.ishr, 1) := by decide +kernel
theorem dJ5_ensureCapacityInternal_d00df_10 : decode cJ5_ensureCapacityInternal_d00df 10 = .ok (.istore_n 2, 1) := by decide +kernel
theorem dJ5_ensureCapacityInternal_d00df_11 : decode cJ5_ensureCapacityInternal_d00df 11 = .ok (.iload_n 1, 1) := by decide +kernel
theorem dJ5_ensureCapacityInternal_d00df_12 : decode cJ5_ensureCapacityInternal_d00df 12 = .ok (.iload_n 2, 1) := by decide +kernel
theorem dJ5_ensureCapacityInternal_d00df_13 : decode cJ5_ensureCapacityInternal_d00df 13 = .ok (.isub, 1) := by decide +kernel
theorem dJ5_ensureCapacityInternal_d00df_14 : decode cJ5_ensureCapacityInternal_d00df 14 = .ok (.ifCond .le 24, 3) := by decide +kernel
theorem dJ5_ensureCapacityInternal_d00df_17 : decode cJ5_ensureCapacityInternal_d00df 17 = .ok (.aload_n 0, 1) := by decide +kernel
theorem dJ5_ensureCapacityInternal_d00df_18 : decode cJ5_ensureCapacityInternal_d00df 18 = .ok (.aload_n 0, 1) := by decide +kernel
theorem dJ5_ensureCapacityInternal_d00df_19 : decode cJ5_ensureCapacityInternal_d00df 19 = .ok (.getfield 15, 3) := by decide +kernel
theorem dJ5_ensureCapacityInternal_d00df_22 : decode cJ5_ensureCapacityInternal_d00df 22 = .ok (.aload_n 0, 1) := by decide +kernel
theorem dJ5_ensureCapacityInternal_d00df_23 : decode cJ5_ensureCapacityInternal_d00df 23 = .ok (.iload_n 1, 1) := by decide +kernel
theorem dJ5_ensureCapacityInternal_d00df_24 : decode cJ5_ensureCapacityInternal_d00df 24 = .ok (.invokevirtual 104, 3) := by decide +kernel
theorem dJ5_ensureCapacityInternal_d00df_27 : decode cJ5_ensureCapacityInternal_d00df 27 = .ok (.aload_n 0, 1) := by decide +kernel
theorem dJ5_ensureCapacityInternal_d00df_28 : decode cJ5_ensureCapacityInternal_d00df 28 = .ok (.getfield 22, 3) := by decide +kernel
theorem dJ5_ensureCapacityInternal_d00df_31 : decode cJ5_ensureCapacityInternal_d00df 31 = .ok (.ishl, 1) := by decide +kernel
theorem dJ5_ensureCapacityInternal_d00df_32 : decode cJ5_ensureCapacityInternal_d00df 32 = .ok (.invokestatic 108, 3) := by decide +kernel
theorem dJ5_ensureCapacityInternal_d00df_35 : decode cJ5_ensureCapacityInternal_d00df 35 = .ok (.putfield 15, 3) := by decide +kernel
theorem dJ5_ensureCapacityInternal_d00df_38 : decode cJ5_ensureCapacityInternal_d00df 38 = .ok (.return_, 1) := by decide +kernel
theorem dJ5_newCapacity_0f7a4_0 : decode cJ5_newCapacity_0f7a4 0 = .ok (.aload_n 0, 1) := by decide +kernel
theorem dJ5_newCapacity_0f7a4_1 : decode cJ5_newCapacity_0f7a4 1 = .ok (.getfield 15, 3) := by decide +kernel
theorem dJ5_newCapacity_0f7a4_4 : decode cJ5_newCapacity_0f7a4 4 = .ok (.arraylength, 1) := by decide +kernel
theorem dJ5_newCapacity_0f7a4_5 : decode cJ5_newCapacity_0f7a4 5 = .ok (.istore_n 2, 1) := by decide +kernel
theorem dJ5_newCapacity_0f7a4_6 : decode cJ5_newCapacity_0f7a4 6 = .ok (.iload_n 1, 1) := by decide +kernel
theorem dJ5_newCapacity_0f7a4_7 : decode cJ5_newCapacity_0f7a4 7 = .ok (.aload_n 0, 1) := by decide +kernel
theorem dJ5_newCapacity_0f7a4_8 : decode cJ5_newCapacity_0f7a4 8 = .ok (.getfield 22, 3) := by decide +kernel
theorem dJ5_newCapacity_0f7a4_11 : decode cJ5_newCapacity_0f7a4 11 = .ok (.ishl, 1) := by decide +kernel
theorem dJ5_newCapacity_0f7a4_12 : decode cJ5_newCapacity_0f7a4 12 = .ok (.istore_n 3, 1) := by decide +kernel
theorem dJ5_newCapacity_0f7a4_13 : decode cJ5_newCapacity_0f7a4 13 = .ok (.iload_n 3, 1) := by decide +kernel
theorem dJ5_newCapacity_0f7a4_14 : decode cJ5_newCapacity_0f7a4 14 = .ok (.iload_n 2, 1) := by decide +kernel
theorem dJ5_newCapacity_0f7a4_15 : decode cJ5_newCapacity_0f7a4 15 = .ok (.isub, 1) := by decide +kernel
theorem dJ5_newCapacity_0f7a4_16 : decode cJ5_newCapacity_0f7a4 16 = .ok (.istore 4, 2) := by decide +kernel
theorem dJ5_newCapacity_0f7a4_18 : decode cJ5_newCapacity_0f7a4 18 = .ok (.iload_n 2, 1) := by decide +kernel
theorem dJ5_newCapacity_0f7a4_19 : decode cJ5_newCapacity_0f7a4 19 = .ok (.iload 4, 2) := by decide +kernel
theorem dJ5_newCapacity_0f7a4_21 : decode cJ5_newCapacity_0f7a4 21 = .ok (.iload_n 2, 1) := by decide +kernel
theorem dJ5_newCapacity_0f7a4_22 : decode cJ5_newCapacity_0f7a4 22 = .ok (.iconst 2, 1) := by decide +kernel
theorem dJ5_newCapacity_0f7a4_23 : decode cJ5_newCapacity_0f7a4 23 = .ok (.aload_n 0, 1) := by decide +kernel
theorem dJ5_newCapacity_0f7a4_24 : decode cJ5_newCapacity_0f7a4 24 = .ok (.getfield 22, 3) := by decide +kernel
theorem dJ5_newCapacity_0f7a4_27 : decode cJ5_newCapacity_0f7a4 27 = .ok (.ishl, 1) := by decide +kernel
theorem dJ5_newCapacity_0f7a4_28 : decode cJ5_newCapacity_0f7a4 28 = .ok (.iadd, 1) := by decide +kernel
theorem dJ5_newCapacity_0f7a4_29 : decode cJ5_newCapacity_0f7a4 29 = .ok (.invokestatic 114, 3) := by decide +kernel
theorem dJ5_newCapacity_0f7a4_32 : decode cJ5_newCapacity_0f7a4 32 = .ok (.istore 5, 2) := by decide +kernel
theorem dJ5_newCapacity_0f7a4_34 : decode cJ5_newCapacity_0f7a4 34 = .ok (.iload 5, 2) := by decide +kernel
theorem dJ5_newCapacity_0f7a4_36 : decode cJ5_newCapacity_0f7a4 36 = .ok (.ldc 39, 2) := by decide +kernel
theorem dJ5_newCapacity_0f7a4_38 : decode cJ5_newCapacity_0f7a4 38 = .ok (.if_icmp .ne 13, 3) := by decide +kernel
theorem dJ5_newCapacity_0f7a4_41 : decode cJ5_newCapacity_0f7a4 41 = .ok (.new 120, 3) := by decide +kernel
theorem dJ5_newCapacity_0f7a4_44 : decode cJ5_newCapacity_0f7a4 44 = .ok (.dup, 1) := by decide +kernel
theorem dJ5_newCapacity_0f7a4_45 : decode cJ5_newCapacity_0f7a4 45 = .ok (.ldc 122, 2) := by decide +kernel
theorem dJ5_newCapacity_0f7a4_47 : decode cJ5_newCapacity_0f7a4 47 = .ok (.invokespecial 124, 3) := by decide +kernel
theorem dJ5_newCapacity_0f7a4_50 : decode cJ5_newCapacity_0f7a4 50 = .ok (.athrow, 1) := by decide +kernel
theorem dJ5_newCapacity_0f7a4_51 : decode cJ5_newCapacity_0f7a4 51 = .ok (.iload 5, 2) := by decide +kernel
theorem dJ5_newCapacity_0f7a4_53 : decode cJ5_newCapacity_0f7a4 53 = .ok (.aload_n 0, 1) := by decide +kernel
theorem dJ5_newCapacity_0f7a4_54 : decode cJ5_newCapacity_0f7a4 54 = .ok (.getfield 22, 3) := by decide +kernel
theorem dJ5_newCapacity_0f7a4_57 : decode cJ5_newCapacity_0f7a4 57 = .ok (.ishr, 1) := by decide +kernel
theorem dJ5_newCapacity_0f7a4_58 : decode cJ5_newCapacity_0f7a4 58 = .ok (.ireturn, 1) := by decide +kernel
theorem dJ5_inflate_da8c8_0 : decode cJ5_inflate_da8c8 0 = .ok (.aload_n 0, 1) := by decide +kernel
theorem dJ5_inflate_da8c8_1 : decode cJ5_inflate_da8c8 1 = .ok (.invokevirtual 83, 3) := by decide +kernel
theorem dJ5_inflate_da8c8_4 : decode cJ5_inflate_da8c8 4 = .ok (.ifCond .ne 4, 3) := by decide +kernel
theorem dJ5_inflate_da8c8_7 : decode cJ5_inflate_da8c8 7 = .ok (.return_, 1) := by decide +kernel
theorem dJ5_inflate_da8c8_8 : decode cJ5_inflate_da8c8 8 = .ok (.aload_n 0, 1) := by decide +kernel
theorem dJ5_inflate_da8c8_9 : decode cJ5_inflate_da8c8 9 = .ok (.getfield 15, 3) := by decide +kernel
theorem dJ5_inflate_da8c8_12 : decode cJ5_inflate_da8c8 12 = .ok (.arraylength, 1) := by decide +kernel
theorem dJ5_inflate_da8c8_13 : decode cJ5_inflate_da8c8 13 = .ok (.invokestatic 26, 3) := by decide +kernel
theorem dJ5_inflate_da8c8_16 : decode cJ5_inflate_da8c8 16 = .ok (.astore_n 1, 1) := by decide +kernel
theorem dJ5_inflate_da8c8_17 : decode cJ5_inflate_da8c8 17 = .ok (.aload_n 0, 1) := by decide +kernel
theorem dJ5_inflate_da8c8_18 : decode cJ5_inflate_da8c8 18 = .ok (.getfield 15, 3) := by decide +kernel
theorem dJ5_inflate_da8c8_21 : decode cJ5_inflate_da8c8 21 = .ok (.iconst 0, 1) := by decide +kernel
theorem dJ5_inflate_da8c8_22 : decode cJ5_inflate_da8c8 22 = .ok (.aload_n 1, 1) := by decide +kernel
theorem dJ5_inflate_da8c8_23 : decode cJ5_inflate_da8c8 23 = .ok (.iconst 0, 1) := by decide +kernel
theorem dJ5_inflate_da8c8_24 : decode cJ5_inflate_da8c8 24 = .ok (.aload_n 0, 1) := by decide +kernel
theorem dJ5_inflate_da8c8_25 : decode cJ5_inflate_da8c8 25 = .ok (.getfield 79, 3) := by decide +kernel
theorem dJ5_inflate_da8c8_28 : decode cJ5_inflate_da8c8 28 = .ok (.invokestatic 125, 3) := by decide +kernel
theorem dJ5_inflate_da8c8_31 : decode cJ5_inflate_da8c8 31 = .ok (.aload_n 0, 1) := by decide +kernel
theorem dJ5_inflate_da8c8_32 : decode cJ5_inflate_da8c8 32 = .ok (.aload_n 1, 1) := by decide +kernel
theorem dJ5_inflate_da8c8_33 : decode cJ5_inflate_da8c8 33 = .ok (.putfield 15, 3) := by decide +kernel
theorem dJ5_inflate_da8c8_36 : decode cJ5_inflate_da8c8 36 = .ok (.aload_n 0, 1) := by decide +kernel
theorem dJ5_inflate_da8c8_37 : decode cJ5_inflate_da8c8 37 = .ok (.iconst 1, 1) := by decide +kernel
theorem dJ5_inflate_da8c8_38 : decode cJ5_inflate_da8c8 38 = .ok (.putfield 22, 3) := by decide +kernel
theorem dJ5_inflate_da8c8_41 : decode cJ5_inflate_da8c8 41 = .ok (.return_, 1) := by decide +kernel
theorem dJ5_append_cf1ce_0 : decode cJ5_append_cf1ce 0 = .ok (.aload_n 1, 1) := by decide +kernel
theorem dJ5_append_cf1ce_1 : decode cJ5_append_cf1ce 1 = .ok (.ifnonnull 8, 3) := by decide +kernel
theorem dJ5_append_cf1ce_4 : decode cJ5_append_cf1ce 4 = .ok (.aload_n 0, 1) := by decide +kernel
theorem dJ5_append_cf1ce_5 : decode cJ5_append_cf1ce 5 = .ok (.invokevirtual 204, 3) := by decide +kernel
theorem dJ5_append_cf1ce_8 : decode cJ5_append_cf1ce 8 = .ok (.areturn, 1) := by decide +kernel
theorem dJ5_append_cf1ce_9 : decode cJ5_append_cf1ce 9 = .ok (.aload_n 1, 1) := by decide +kernel
theorem dJ5_append_cf1ce_10 : decode cJ5_append_cf1ce 10 = .ok (.invokevirtual 32, 3) := by decide +kernel
theorem dJ5_append_cf1ce_13 : decode cJ5_append_cf1ce 13 = .ok (.istore_n 2, 1) := by decide +kernel
theorem dJ5_append_cf1ce_14 : decode cJ5_append_cf1ce 14 = .ok (.aload_n 0, 1) := by decide +kernel
theorem dJ5_append_cf1ce_15 : decode cJ5_append_cf1ce 15 = .ok (.aload_n 0, 1) := by decide +kernel
theorem dJ5_append_cf1ce_16 : decode cJ5_append_cf1ce 16 = .ok (.getfield 79, 3) := by decide +kernel
theorem dJ5_append_cf1ce_19 : decode cJ5_append_cf1ce 19 = .ok (.iload_n 2, 1) := by decide +kernel
theorem dJ5_append_cf1ce_20 : decode cJ5_append_cf1ce 20 = .ok (.iadd, 1) := by decide +kernel
theorem dJ5_append_cf1ce_21 : decode cJ5_append_cf1ce 21 = .ok (.invokevirtual 100, 3) := by decide +kernel
theorem dJ5_append_cf1ce_24 : decode cJ5_append_cf1ce 24 = .ok (.aload_n 0, 1) := by decide +kernel
theorem dJ5_append_cf1ce_25 : decode cJ5_append_cf1ce 25 = .ok (.aload_n 0, 1) := by decide +kernel
theorem dJ5_append_cf1ce_26 : decode cJ5_append_cf1ce 26 = .ok (.getfield 79, 3) := by decide +kernel
theorem dJ5_append_cf1ce_29 : decode cJ5_append_cf1ce 29 = .ok (.aload_n 1, 1) := by decide +kernel
theorem dJ5_append_cf1ce_30 : decode cJ5_append_cf1ce 30 = .ok (.invokevirtual 208, 3) := by decide +kernel
theorem dJ5_append_cf1ce_33 : decode cJ5_append_cf1ce 33 = .ok (.aload_n 0, 1) := by decide +kernel
theorem dJ5_append_cf1ce_34 : decode cJ5_append_cf1ce 34 = .ok (.dup, 1) := by decide +kernel
theorem dJ5_append_cf1ce_35 : decode cJ5_append_cf1ce 35 = .ok (.getfield 79, 3) := by decide +kernel
theorem dJ5_append_cf1ce_38 : decode cJ5_append_cf1ce 38 = .ok (.iload_n 2, 1) := by decide +kernel
theorem dJ5_append_cf1ce_39 : decode cJ5_append_cf1ce 39 = .ok (.iadd, 1) := by decide +kernel
theorem dJ5_append_cf1ce_40 : decode cJ5_append_cf1ce 40 = .ok (.putfield 79, 3) := by decide +kernel
theorem dJ5_append_cf1ce_43 : decode cJ5_append_cf1ce 43 = .ok (.aload_n 0, 1) := by decide +kernel
theorem dJ5_append_cf1ce_44 : decode cJ5_append_cf1ce 44 = .ok (.areturn, 1) := by decide +kernel
theorem dJ5_appendNull_278bc_0 : decode cJ5_appendNull_278bc 0 = .ok (.aload_n 0, 1) := by decide +kernel
theorem dJ5_appendNull_278bc_1 : decode cJ5_appendNull_278bc 1 = .ok (.aload_n 0, 1) := by decide +kernel
theorem dJ5_appendNull_278bc_2 : decode cJ5_appendNull_278bc 2 = .ok (.getfield 79, 3) := by decide +kernel
theorem dJ5_appendNull_278bc_5 : decode cJ5_appendNull_278bc 5 = .ok (.iconst 4, 1) := by decide +kernel
theorem dJ5_appendNull_278bc_6 : decode cJ5_appendNull_278bc 6 = .ok (.iadd, 1) := by decide +kernel
theorem dJ5_appendNull_278bc_7 : decode cJ5_appendNull_278bc 7 = .ok (.invokevirtual 100, 3) := by decide +kernel
theorem dJ5_appendNull_278bc_10 : decode cJ5_appendNull_278bc 10 = .ok (.aload_n 0, 1) := by decide +kernel
theorem dJ5_appendNull_278bc_11 : decode cJ5_appendNull_278bc 11 = .ok (.getfield 79, 3) := by decide +kernel
theorem dJ5_appendNull_278bc_14 : decode cJ5_appendNull_278bc 14 = .ok (.istore_n 1, 1) := by decide +kernel
theorem dJ5_appendNull_278bc_15 : decode cJ5_appendNull_278bc 15 = .ok (.aload_n 0, 1) := by decide +kernel
theorem dJ5_appendNull_278bc_16 : decode cJ5_appendNull_278bc 16 = .ok (.getfield 15, 3) := by decide +kernel
theorem dJ5_appendNull_278bc_19 : decode cJ5_appendNull_278bc 19 = .ok (.astore_n 2, 1) := by decide +kernel
theorem dJ5_appendNull_278bc_20 : decode cJ5_appendNull_278bc 20 = .ok (.aload_n 0, 1) := by decide +kernel
theorem dJ5_appendNull_278bc_21 : decode cJ5_appendNull_278bc 21 = .ok (.invokevirtual 83, 3) := by decide +kernel
theorem dJ5_appendNull_278bc_24 : decode cJ5_appendNull_278bc 24 = .ok (.ifCond .eq 38, 3) := by decide +kernel
theorem dJ5_appendNull_278bc_27 : decode cJ5_appendNull_278bc 27 = .ok (.aload_n 2, 1) := by decide +kernel
theorem dJ5_appendNull_278bc_28 : decode cJ5_appendNull_278bc 28 = .ok (.iload_n 1, 1) := by decide +kernel
theorem dJ5_appendNull_278bc_29 : decode cJ5_appendNull_278bc 29 = .ok (.iinc 1 1, 3) := by decide +kernel
theorem dJ5_appendNull_278bc_32 : decode cJ5_appendNull_278bc 32 = .ok (.bipush 110, 2) := by decide +kernel
theorem dJ5_appendNull_278bc_34 : decode cJ5_appendNull_278bc 34 = .ok (.bastore, 1) := by decide +kernel
theorem dJ5_appendNull_278bc_35 : decode cJ5_appendNull_278bc 35 = .ok (.aload_n 2, 1) := by decide +kernel
theorem dJ5_appendNull_278bc_36 : decode cJ5_appendNull_278bc 36 = .ok (.iload_n 1, 1) := by decide +kernel
theorem dJ5_appendNull_278bc_37 : decode cJ5_appendNull_278bc 37 = .ok (.iinc 1 1, 3) := by decide +kernel
theorem dJ5_appendNull_278bc_40 : decode cJ5_appendNull_278bc 40 = .ok (.bipush 117, 2) := by decide +kernel
theorem dJ5_appendNull_278bc_42 : decode cJ5_appendNull_278bc 42 = .ok (.bastore, 1) := by decide +kernel
theorem dJ5_appendNull_278bc_43 : decode cJ5_appendNull_278bc 43 = .ok (.aload_n 2, 1) := by decide +kernel
theorem dJ5_appendNull_278bc_44 : decode cJ5_appendNull_278bc 44 = .ok (.iload_n 1, 1) := by decide +kernel
theorem dJ5_appendNull_278bc_45 : decode cJ5_appendNull_278bc 45 = .ok (.iinc 1 1, 3) := by decide +kernel
theorem dJ5_appendNull_278bc_48 : decode cJ5_appendNull_278bc 48 = .ok (.bipush 108, 2) := by decide +kernel
theorem dJ5_appendNull_278bc_50 : decode cJ5_appendNull_278bc 50 = .ok (.bastore, 1) := by decide +kernel
theorem dJ5_appendNull_278bc_51 : decode cJ5_appendNull_278bc 51 = .ok (.aload_n 2, 1) := by decide +kernel
theorem dJ5_appendNull_278bc_52 : decode cJ5_appendNull_278bc 52 = .ok (.iload_n 1, 1) := by decide +kernel
theorem dJ5_appendNull_278bc_53 : decode cJ5_appendNull_278bc 53 = .ok (.iinc 1 1, 3) := by decide +kernel
theorem dJ5_appendNull_278bc_56 : decode cJ5_appendNull_278bc 56 = .ok (.bipush 108, 2) := by decide +kernel
theorem dJ5_appendNull_278bc_58 : decode cJ5_appendNull_278bc 58 = .ok (.bastore, 1) := by decide +kernel
theorem dJ5_appendNull_278bc_59 : decode cJ5_appendNull_278bc 59 = .ok (.goto 17, 3) := by decide +kernel
theorem dJ5_appendNull_278bc_62 : decode cJ5_appendNull_278bc 62 = .ok (.aload_n 2, 1) := by decide +kernel
theorem dJ5_appendNull_278bc_63 : decode cJ5_appendNull_278bc 63 = .ok (.iload_n 1, 1) := by decide +kernel
theorem dJ5_appendNull_278bc_64 : decode cJ5_appendNull_278bc 64 = .ok (.bipush 110, 2) := by decide +kernel
theorem dJ5_appendNull_278bc_66 : decode cJ5_appendNull_278bc 66 = .ok (.bipush 117, 2) := by decide +kernel
theorem dJ5_appendNull_278bc_68 : decode cJ5_appendNull_278bc 68 = .ok (.bipush 108, 2) := by decide +kernel
theorem dJ5_appendNull_278bc_70 : decode cJ5_appendNull_278bc 70 = .ok (.bipush 108, 2) := by decide +kernel
theorem dJ5_appendNull_278bc_72 : decode cJ5_appendNull_278bc 72 = .ok (.invokestatic 226, 3) := by decide +kernel
theorem dJ5_appendNull_278bc_75 : decode cJ5_appendNull_278bc 75 = .ok (.istore_n 1, 1) := by decide +kernel
theorem dJ5_appendNull_278bc_76 : decode cJ5_appendNull_278bc 76 = .ok (.aload_n 0, 1) := by decide +kernel
theorem dJ5_appendNull_278bc_77 : decode cJ5_appendNull_278bc 77 = .ok (.iload_n 1, 1) := by decide +kernel
theorem dJ5_appendNull_278bc_78 : decode cJ5_appendNull_278bc 78 = .ok (.putfield 79, 3) := by decide +kernel
theorem dJ5_appendNull_278bc_81 : decode cJ5_appendNull_278bc 81 = .ok (.aload_n 0, 1) := by decide +kernel
theorem dJ5_appendNull_278bc_82 : decode cJ5_appendNull_278bc 82 = .ok (.areturn, 1) := by decide +kernel
theorem dJ5_append_3fe6f_0 : decode cJ5_append_3fe6f 0 = .ok (.aload_n 0, 1) := by decide +kernel
theorem dJ5_append_3fe6f_1 : decode cJ5_append_3fe6f 1 = .ok (.aload_n 0, 1) := by decide +kernel
theorem dJ5_append_3fe6f_2 : decode cJ5_append_3fe6f 2 = .ok (.getfield 79, 3) := by decide +kernel
theorem dJ5_append_3fe6f_5 : decode cJ5_append_3fe6f 5 = .ok (.iconst 1, 1) := by decide +kernel
theorem dJ5_append_3fe6f_6 : decode cJ5_append_3fe6f 6 = .ok (.iadd, 1) := by decide +kernel
theorem dJ5_append_3fe6f_7 : decode cJ5_append_3fe6f 7 = .ok (.invokevirtual 100, 3) := by decide +kernel
theorem dJ5_append_3fe6f_10 : decode cJ5_append_3fe6f 10 = .ok (.aload_n 0, 1) := by decide +kernel
theorem dJ5_append_3fe6f_11 : decode cJ5_append_3fe6f 11 = .ok (.invokevirtual 83, 3) := by decide +kernel
theorem dJ5_append_3fe6f_14 : decode cJ5_append_3fe6f 14 = .ok (.ifCond .eq 31, 3) := by decide +kernel
theorem dJ5_append_3fe6f_17 : decode cJ5_append_3fe6f 17 = .ok (.iload_n 1, 1) := by decide +kernel
theorem dJ5_append_3fe6f_18 : decode cJ5_append_3fe6f 18 = .ok (.invokestatic 191, 3) := by decide +kernel
theorem dJ5_append_3fe6f_21 : decode cJ5_append_3fe6f 21 = .ok (.ifCond .eq 24, 3) := by decide +kernel
theorem dJ5_append_3fe6f_24 : decode cJ5_append_3fe6f 24 = .ok (.aload_n 0, 1) := by decide +kernel
theorem dJ5_append_3fe6f_25 : decode cJ5_append_3fe6f 25 = .ok (.getfield 15, 3) := by decide +kernel
theorem dJ5_append_3fe6f_28 : decode cJ5_append_3fe6f 28 = .ok (.aload_n 0, 1) := by decide +kernel
theorem dJ5_append_3fe6f_29 : decode cJ5_append_3fe6f 29 = .ok (.dup, 1) := by decide +kernel
theorem dJ5_append_3fe6f_30 : decode cJ5_append_3fe6f 30 = .ok (.getfield 79, 3) := by decide +kernel
theorem dJ5_append_3fe6f_33 : decode cJ5_append_3fe6f 33 = .ok (.dup_x1, 1) := by decide +kernel
theorem dJ5_append_3fe6f_34 : decode cJ5_append_3fe6f 34 = .ok (.iconst 1, 1) := by decide +kernel
theorem dJ5_append_3fe6f_35 : decode cJ5_append_3fe6f 35 = .ok (.iadd, 1) := by decide +kernel
theorem dJ5_append_3fe6f_36 : decode cJ5_append_3fe6f 36 = .ok (.putfield 79, 3) := by decide +kernel
theorem dJ5_append_3fe6f_39 : decode cJ5_append_3fe6f 39 = .ok (.iload_n 1, 1) := by decide +kernel
theorem dJ5_append_3fe6f_40 : decode cJ5_append_3fe6f 40 = .ok (.i2b, 1) := by decide +kernel
theorem dJ5_append_3fe6f_41 : decode cJ5_append_3fe6f 41 = .ok (.bastore, 1) := by decide +kernel
theorem dJ5_append_3fe6f_42 : decode cJ5_append_3fe6f 42 = .ok (.goto 33, 3) := by decide +kernel
theorem dJ5_append_3fe6f_45 : decode cJ5_append_3fe6f 45 = .ok (.aload_n 0, 1) := by decide +kernel
theorem dJ5_append_3fe6f_46 : decode cJ5_append_3fe6f 46 = .ok (.invokevirtual 83, 3) := by decide +kernel
theorem dJ5_append_3fe6f_49 : decode cJ5_append_3fe6f 49 = .ok (.ifCond .eq 7, 3) := by decide +kernel
theorem dJ5_append_3fe6f_52 : decode cJ5_append_3fe6f 52 = .ok (.aload_n 0, 1) := by decide +kernel
theorem dJ5_append_3fe6f_53 : decode cJ5_append_3fe6f 53 = .ok (.invokevirtual 195, 3) := by decide +kernel
theorem dJ5_append_3fe6f_56 : decode cJ5_append_3fe6f 56 = .ok (.aload_n 0, 1) := by decide +kernel
theorem dJ5_append_3fe6f_57 : decode cJ5_append_3fe6f 57 = .ok (.getfield 15, 3) := by decide +kernel
theorem dJ5_append_3fe6f_60 : decode cJ5_append_3fe6f 60 = .ok (.aload_n 0, 1) := by decide +kernel
theorem dJ5_append_3fe6f_61 : decode cJ5_append_3fe6f 61 = .ok (.dup, 1) := by decide +kernel
theorem dJ5_append_3fe6f_62 : decode cJ5_append_3fe6f 62 = .ok (.getfield 79, 3) := by decide +kernel
theorem dJ5_append_3fe6f_65 : decode cJ5_append_3fe6f 65 = .ok (.dup_x1, 1) := by decide +kernel
theorem dJ5_append_3fe6f_66 : decode cJ5_append_3fe6f 66 = .ok (.iconst 1, 1) := by decide +kernel
theorem dJ5_append_3fe6f_67 : decode cJ5_append_3fe6f 67 = .ok (.iadd, 1) := by decide +kernel
theorem dJ5_append_3fe6f_68 : decode cJ5_append_3fe6f 68 = .ok (.putfield 79, 3) := by decide +kernel
theorem dJ5_append_3fe6f_71 : decode cJ5_append_3fe6f 71 = .ok (.iload_n 1, 1) := by decide +kernel
theorem dJ5_append_3fe6f_72 : decode cJ5_append_3fe6f 72 = .ok (.invokestatic 197, 3) := by decide +kernel
theorem dJ5_append_3fe6f_75 : decode cJ5_append_3fe6f 75 = .ok (.aload_n 0, 1) := by decide +kernel
theorem dJ5_append_3fe6f_76 : decode cJ5_append_3fe6f 76 = .ok (.areturn, 1) := by decide +kernel
theorem dJ5_append_c97b9_0 : decode cJ5_append_c97b9 0 = .ok (.aload_n 0, 1) := by decide +kernel
theorem dJ5_append_c97b9_1 : decode cJ5_append_c97b9 1 = .ok (.getfield 79, 3) := by decide +kernel
theorem dJ5_append_c97b9_4 : decode cJ5_append_c97b9 4 = .ok (.istore_n 2, 1) := by decide +kernel
theorem dJ5_append_c97b9_5 : decode cJ5_append_c97b9 5 = .ok (.iload_n 2, 1) := by decide +kernel
theorem dJ5_append_c97b9_6 : decode cJ5_append_c97b9 6 = .ok (.iload_n 1, 1) := by decide +kernel
theorem dJ5_append_c97b9_7 : decode cJ5_append_c97b9 7 = .ok (.invokestatic 245, 3) := by decide +kernel
theorem dJ5_append_c97b9_10 : decode cJ5_append_c97b9 10 = .ok (.iadd, 1) := by decide +kernel
theorem dJ5_append_c97b9_11 : decode cJ5_append_c97b9 11 = .ok (.istore_n 3, 1) := by decide +kernel
theorem dJ5_append_c97b9_12 : decode cJ5_append_c97b9 12 = .ok (.aload_n 0, 1) := by decide +kernel
theorem dJ5_append_c97b9_13 : decode cJ5_append_c97b9 13 = .ok (.iload_n 3, 1) := by decide +kernel
theorem dJ5_append_c97b9_14 : decode cJ5_append_c97b9 14 = .ok (.invokevirtual 100, 3) := by decide +kernel
theorem dJ5_append_c97b9_17 : decode cJ5_append_c97b9 17 = .ok (.aload_n 0, 1) := by decide +kernel
theorem dJ5_append_c97b9_18 : decode cJ5_append_c97b9 18 = .ok (.invokevirtual 83, 3) := by decide +kernel
theorem dJ5_append_c97b9_21 : decode cJ5_append_c97b9 21 = .ok (.ifCond .eq 16, 3) := by decide +kernel
theorem dJ5_append_c97b9_24 : decode cJ5_append_c97b9 24 = .ok (.iload_n 1, 1) := by decide +kernel
theorem dJ5_append_c97b9_25 : decode cJ5_append_c97b9 25 = .ok (.iload_n 3, 1) := by decide +kernel
theorem dJ5_append_c97b9_26 : decode cJ5_append_c97b9 26 = .ok (.aload_n 0, 1) := by decide +kernel
theorem dJ5_append_c97b9_27 : decode cJ5_append_c97b9 27 = .ok (.getfield 15, 3) := by decide +kernel
theorem dJ5_append_c97b9_30 : decode cJ5_append_c97b9 30 = .ok (.invokestatic 248, 3) := by decide +kernel
theorem dJ5_append_c97b9_33 : decode cJ5_append_c97b9 33 = .ok (.pop, 1) := by decide +kernel
theorem dJ5_append_c97b9_34 : decode cJ5_append_c97b9 34 = .ok (.goto 14, 3) := by decide +kernel
theorem dJ5_append_c97b9_37 : decode cJ5_append_c97b9 37 = .ok (.iload_n 1, 1) := by decide +kernel
theorem dJ5_append_c97b9_38 : decode cJ5_append_c97b9 38 = .ok (.iload_n 2, 1) := by decide +kernel
theorem dJ5_append_c97b9_39 : decode cJ5_append_c97b9 39 = .ok (.iload_n 3, 1) := by decide +kernel
theorem dJ5_append_c97b9_40 : decode cJ5_append_c97b9 40 = .ok (.aload_n 0, 1) := by decide +kernel
theorem dJ5_append_c97b9_41 : decode cJ5_append_c97b9 41 = .ok (.getfield 15, 3) := by decide +kernel
theorem dJ5_append_c97b9_44 : decode cJ5_append_c97b9 44 = .ok (.invokestatic 251, 3) := by decide +kernel
theorem dJ5_append_c97b9_47 : decode cJ5_append_c97b9 47 = .ok (.pop, 1) := by decide +kernel
theorem dJ5_append_c97b9_48 : decode cJ5_append_c97b9 48 = .ok (.aload_n 0, 1) := by decide +kernel
theorem dJ5_append_c97b9_49 : decode cJ5_append_c97b9 49 = .ok (.iload_n 3, 1) := by decide +kernel
theorem dJ5_append_c97b9_50 : decode cJ5_append_c97b9 50 = .ok (.putfield 79, 3) := by decide +kernel
theorem dJ5_append_c97b9_53 : decode cJ5_append_c97b9 53 = .ok (.aload_n 0, 1) := by decide +kernel
theorem dJ5_append_c97b9_54 : decode cJ5_append_c97b9 54 = .ok (.areturn, 1) := by decide +kernel
theorem dJ5_getValue_6d5f1_0 : decode cJ5_getValue_6d5f1 0 = .ok (.aload_n 0, 1) := by decide +kernel
theorem dJ5_getValue_6d5f1_1 : decode cJ5_getValue_6d5f1 1 = .ok (.getfield 15, 3) := by decide +kernel
theorem dJ5_getValue_6d5f1_4 : decode cJ5_getValue_6d5f1 4 = .ok (.areturn, 1) := by decide +kernel
theorem dJ5_isLatin1_aae02_0 : decode cJ5_isLatin1_aae02 0 = .ok (.getstatic 18, 3) := by decide +kernel
theorem dJ5_isLatin1_aae02_3 : decode cJ5_isLatin1_aae02 3 = .ok (.ifCond .eq 14, 3) := by decide +kernel
theorem dJ5_isLatin1_aae02_6 : decode cJ5_isLatin1_aae02 6 = .ok (.aload_n 0, 1) := by decide +kernel
theorem dJ5_isLatin1_aae02_7 : decode cJ5_isLatin1_aae02 7 = .ok (.getfield 22, 3) := by decide +kernel
theorem dJ5_isLatin1_aae02_10 : decode cJ5_isLatin1_aae02 10 = .ok (.ifCond .ne 7, 3) := by decide +kernel
theorem dJ5_isLatin1_aae02_13 : decode cJ5_isLatin1_aae02 13 = .ok (.iconst 1, 1) := by decide +kernel
theorem dJ5_isLatin1_aae02_14 : decode cJ5_isLatin1_aae02 14 = .ok (.goto 4, 3) := by decide +kernel
theorem dJ5_isLatin1_aae02_17 : decode cJ5_isLatin1_aae02 17 = .ok (.iconst 0, 1) := by decide +kernel
theorem dJ5_isLatin1_aae02_18 : decode cJ5_isLatin1_aae02 18 = .ok (.ireturn, 1) := by decide +kernel
theorem dJ5_inflateIfNeededFor_a7421_0 : decode cJ5_inflateIfNeededFor_a7421 0 = .ok (.getstatic 18, 3) := by decide +kernel
theorem dJ5_inflateIfNeededFor_a7421_3 : decode cJ5_inflateIfNeededFor_a7421 3 = .ok (.ifCond .eq 18, 3) := by decide +kernel
theorem dJ5_inflateIfNeededFor_a7421_6 : decode cJ5_inflateIfNeededFor_a7421 6 = .ok (.aload_n 0, 1) := by decide +kernel
theorem dJ5_inflateIfNeededFor_a7421_7 : decode cJ5_inflateIfNeededFor_a7421 7 = .ok (.getfield 22, 3) := by decide +kernel
theorem dJ5_inflateIfNeededFor_a7421_10 : decode cJ5_inflateIfNeededFor_a7421 10 = .ok (.aload_n 1, 1) := by decide +kernel
theorem dJ5_inflateIfNeededFor_a7421_11 : decode cJ5_inflateIfNeededFor_a7421 11 = .ok (.invokevirtual 40, 3) := by decide +kernel
theorem dJ5_inflateIfNeededFor_a7421_14 : decode cJ5_inflateIfNeededFor_a7421 14 = .ok (.if_icmp .eq 7, 3) := by decide +kernel
theorem dJ5_inflateIfNeededFor_a7421_17 : decode cJ5_inflateIfNeededFor_a7421 17 = .ok (.aload_n 0, 1) := by decide +kernel
theorem dJ5_inflateIfNeededFor_a7421_18 : decode cJ5_inflateIfNeededFor_a7421 18 = .ok (.invokevirtual 195, 3) := by decide +kernel
theorem dJ5_inflateIfNeededFor_a7421_21 : decode cJ5_inflateIfNeededFor_a7421 21 = .ok (.return_, 1) := by decide +kernel
theorem dJ5_putStringAt_47b60_0 : decode cJ5_putStringAt_47b60 0 = .ok (.aload_n 0, 1) := by decide +kernel
theorem dJ5_putStringAt_47b60_1 : decode cJ5_putStringAt_47b60 1 = .ok (.aload_n 2, 1) := by decide +kernel
theorem dJ5_putStringAt_47b60_2 : decode cJ5_putStringAt_47b60 2 = .ok (.invokevirtual 397, 3) := by decide +kernel
theorem dJ5_putStringAt_47b60_5 : decode cJ5_putStringAt_47b60 5 = .ok (.aload_n 2, 1) := by decide +kernel
theorem dJ5_putStringAt_47b60_6 : decode cJ5_putStringAt_47b60 6 = .ok (.aload_n 0, 1) := by decide +kernel
theorem dJ5_putStringAt_47b60_7 : decode cJ5_putStringAt_47b60 7 = .ok (.getfield 15, 3) := by decide +kernel
theorem dJ5_putStringAt_47b60_10 : decode cJ5_putStringAt_47b60 10 = .ok (.iload_n 1, 1) := by decide +kernel
theorem dJ5_putStringAt_47b60_11 : decode cJ5_putStringAt_47b60 11 = .ok (.aload_n 0, 1) := by decide +kernel
theorem dJ5_putStringAt_47b60_12 : decode cJ5_putStringAt_47b60 12 = .ok (.getfield 22, 3) := by decide +kernel
theorem dJ5_putStringAt_47b60_15 : decode cJ5_putStringAt_47b60 15 = .ok (.invokevirtual 399, 3) := by decide +kernel
theorem dJ5_putStringAt_47b60_18 : decode cJ5_putStringAt_47b60 18 = .ok (.return_, 1) := by decide +kernel
theorem dJx00060_init_a7421_0 : decode cJx00060_init_a7421 0 = .ok (.aload_n 0, 1) := by decide +kernel
theorem dJx00060_init_a7421_1 : decode cJx00060_init_a7421 1 = .ok (.aload_n 1, 1) := by decide +kernel
theorem dJx00060_init_a7421_2 : decode cJx00060_init_a7421 2 = .ok (.invokespecial 7, 3) := by decide +kernel
theorem dJx00060_init_a7421_5 : decode cJx00060_init_a7421 5 = .ok (.return_, 1) := by decide +kernel
theorem dJ11_isValidCodePoint_9a6ad_0 : decode cJ11_isValidCodePoint_9a6ad 0 = .ok (.iload_n 0, 1) := by decide +kernel
theorem dJ11_isValidCodePoint_9a6ad_1 : decode cJ11_isValidCodePoint_9a6ad 1 = .ok (.bipush 16, 2) := by decide +kernel
theorem dJ11_isValidCodePoint_9a6ad_3 : decode cJ11_isValidCodePoint_9a6ad 3 = .ok (.iushr, 1) := by decide +kernel
theorem dJ11_isValidCodePoint_9a6ad_4 : decode cJ11_isValidCodePoint_9a6ad 4 = .ok (.istore_n 1, 1) := by decide +kernel
theorem dJ11_isValidCodePoint_9a6ad_5 : decode cJ11_isValidCodePoint_9a6ad 5 = .ok (.iload_n 1, 1) := by decide +kernel
theorem dJ11_isValidCodePoint_9a6ad_6 : decode cJ11_isValidCodePoint_9a6ad 6 = .ok (.bipush 17, 2) := by decide +kernel
theorem dJ11_isValidCodePoint_9a6ad_8 : decode cJ11_isValidCodePoint_9a6ad 8 = .ok (.if_icmp .ge 7, 3) := by decide +kernel
theorem dJ11_isValidCodePoint_9a6ad_11 : decode cJ11_isValidCodePoint_9a6ad 11 = .ok (.iconst 1, 1) := by decide +kernel
theorem dJ11_isValidCodePoint_9a6ad_12 : decode cJ11_isValidCodePoint_9a6ad 12 = .ok (.goto 4, 3) := by decide +kernel
theorem dJ11_isValidCodePoint_9a6ad_15 : decode cJ11_isValidCodePoint_9a6ad 15 = .ok (.iconst 0, 1) := by decide +kernel
theorem dJ11_isValidCodePoint_9a6ad_16 : decode cJ11_isValidCodePoint_9a6ad 16 = .ok (.ireturn, 1) := by decide +kernel
theorem dJ11_highSurrogate_5068e_0 : decode cJ11_highSurrogate_5068e 0 = .ok (.iload_n 0, 1) := by decide +kernel
theorem dJ11_highSurrogate_5068e_1 : decode cJ11_highSurrogate_5068e 1 = .ok (.bipush 10, 2) := by decide +kernel
theorem dJ11_highSurrogate_5068e_3 : decode cJ11_highSurrogate_5068e 3 = .ok (.iushr, 1) := by decide +kernel
theorem dJ11_highSurrogate_5068e_4 : decode cJ11_highSurrogate_5068e 4 = .ok (.ldc 110, 2) := by decide +kernel
theorem dJ11_highSurrogate_5068e_6 : decode cJ11_highSurrogate_5068e 6 = .ok (.iadd, 1) := by decide +kernel
theorem dJ11_highSurrogate_5068e_7 : decode cJ11_highSurrogate_5068e 7 = .ok (.i2c, 1) := by decide +kernel
theorem dJ11_highSurrogate_5068e_8 : decode cJ11_highSurrogate_5068e 8 = .ok (.ireturn, 1) := by decide +kernel
theorem dJ11_lowSurrogate_5068e_0 : decode cJ11_lowSurrogate_5068e 0 = .ok (.iload_n 0, 1) := by decide +kernel
theorem dJ11_lowSurrogate_5068e_1 : decode cJ11_lowSurrogate_5068e 1 = .ok (.sipush 1023, 3) := by decide +kernel
theorem dJ11_lowSurrogate_5068e_4 : decode cJ11_lowSurrogate_5068e 4 = .ok (.iand, 1) := by decide +kernel
theorem dJ11_lowSurrogate_5068e_5 : decode cJ11_lowSurrogate_5068e 5 = .ok (.ldc 76, 2) := by decide +kernel
theorem dJ11_lowSurrogate_5068e_7 : decode cJ11_lowSurrogate_5068e 7 = .ok (.iadd, 1) := by decide +kernel
theorem dJ11_lowSurrogate_5068e_8 : decode cJ11_lowSurrogate_5068e 8 = .ok (.i2c, 1) := by decide +kernel
theorem dJ11_lowSurrogate_5068e_9 : decode cJ11_lowSurrogate_5068e 9 = .ok (.ireturn, 1) := by decide +kernel
theorem dJ6_getChars_ba4f3_0 : decode cJ6_getChars_ba4f3 0 = .ok (.iload_n 1, 1) := by decide +kernel
theorem dJ6_getChars_ba4f3_1 : decode cJ6_getChars_ba4f3 1 = .ok (.istore 5, 2) := by decide +kernel
theorem dJ6_getChars_ba4f3_3 : decode cJ6_getChars_ba4f3 3 = .ok (.iload_n 0, 1) := by decide +kernel
theorem dJ6_getChars_ba4f3_4 : decode cJ6_getChars_ba4f3 4 = .ok (.ifCond .ge 7, 3) := by decide +kernel
theorem dJ6_getChars_ba4f3_7 : decode cJ6_getChars_ba4f3 7 = .ok (.iconst 1, 1) := by decide +kernel
theorem dJ6_getChars_ba4f3_8 : decode cJ6_getChars_ba4f3 8 = .ok (.goto 4, 3) := by decide +kernel
theorem dJ6_getChars_ba4f3_11 : decode cJ6_getChars_ba4f3 11 = .ok (.iconst 0, 1) := by decide +kernel
theorem dJ6_getChars_ba4f3_12 : decode cJ6_getChars_ba4f3 12 = .ok (.istore 6, 2) := by decide +kernel
theorem dJ6_getChars_ba4f3_14 : decode cJ6_getChars_ba4f3 14 = .ok (.iload 6, 2) := by decide +kernel
theorem dJ6_getChars_ba4f3_16 : decode cJ6_getChars_ba4f3 16 = .ok (.ifCond .ne 6, 3) := by decide +kernel
theorem dJ6_getChars_ba4f3_19 : decode cJ6_getChars_ba4f3 19 = .ok (.iload_n 0, 1) := by decide +kernel
theorem dJ6_getChars_ba4f3_20 : decode cJ6_getChars_ba4f3 20 = .ok (.ineg, 1) := by decide +kernel
theorem dJ6_getChars_ba4f3_21 : decode cJ6_getChars_ba4f3 21 = .ok (.istore_n 0, 1) := by decide +kernel
theorem dJ6_getChars_ba4f3_22 : decode cJ6_getChars_ba4f3 22 = .ok (.iload_n 0, 1) := by decide +kernel
theorem dJ6_getChars_ba4f3_23 : decode cJ6_getChars_ba4f3 23 = .ok (.bipush (-100), 2) := by decide +kernel
theorem dJ6_getChars_ba4f3_25 : decode cJ6_getChars_ba4f3 25 = .ok (.if_icmp .gt 47, 3) := by decide +kernel
theorem dJ6_getChars_ba4f3_28 : decode cJ6_getChars_ba4f3 28 = .ok (.iload_n 0, 1) := by decide +kernel
theorem dJ6_getChars_ba4f3_29 : decode cJ6_getChars_ba4f3 29 = .ok (.bipush 100, 2) := by decide +kernel
theorem dJ6_getChars_ba4f3_31 : decode cJ6_getChars_ba4f3 31 = .ok (.idiv, 1) := by decide +kernel
theorem dJ6_getChars_ba4f3_32 : decode cJ6_getChars_ba4f3 32 = .ok (.istore_n 3, 1) := by decide +kernel
theorem dJ6_getChars_ba4f3_33 : decode cJ6_getChars_ba4f3 33 = .ok (.iload_n 3, 1) := by decide +kernel
theorem dJ6_getChars_ba4f3_34 : decode cJ6_getChars_ba4f3 34 = .ok (.bipush 100, 2) := by decide +kernel
theorem dJ6_getChars_ba4f3_36 : decode cJ6_getChars_ba4f3 36 = .ok (.imul, 1) := by decide +kernel
theorem dJ6_getChars_ba4f3_37 : decode cJ6_getChars_ba4f3 37 = .ok (.iload_n 0, 1) := by decide +kernel
theorem dJ6_getChars_ba4f3_38 : decode cJ6_getChars_ba4f3 38 = .ok (.isub, 1) := by decide +kernel
theorem dJ6_getChars_ba4f3_39 : decode cJ6_getChars_ba4f3 39 = .ok (.istore 4, 2) := by decide +kernel
theorem dJ6_getChars_ba4f3_41 : decode cJ6_getChars_ba4f3 41 = .ok (.iload_n 3, 1) := by decide +kernel
theorem dJ6_getChars_ba4f3_42 : decode cJ6_getChars_ba4f3 42 = .ok (.istore_n 0, 1) := by decide +kernel
theorem dJ6_getChars_ba4f3_43 : decode cJ6_getChars_ba4f3 43 = .ok (.aload_n 2, 1) := by decide +kernel
theorem dJ6_getChars_ba4f3_44 : decode cJ6_getChars_ba4f3 44 = .ok (.iinc 5 (-1), 3) := by decide +kernel
theorem dJ6_getChars_ba4f3_47 : decode cJ6_getChars_ba4f3 47 = .ok (.iload 5, 2) := by decide +kernel
theorem dJ6_getChars_ba4f3_49 : decode cJ6_getChars_ba4f3 49 = .ok (.getstatic 83, 3) := by decide +kernel
theorem dJ6_getChars_ba4f3_52 : decode cJ6_getChars_ba4f3 52 = .ok (.iload 4, 2) := by decide +kernel
theorem dJ6_getChars_ba4f3_54 : decode cJ6_getChars_ba4f3 54 = .ok (.baload, 1) := by decide +kernel
theorem dJ6_getChars_ba4f3_55 : decode cJ6_getChars_ba4f3 55 = .ok (.bastore, 1) := by decide +kernel
theorem dJ6_getChars_ba4f3_56 : decode cJ6_getChars_ba4f3 56 = .ok (.aload_n 2, 1) := by decide +kernel
theorem dJ6_getChars_ba4f3_57 : decode cJ6_getChars_ba4f3 57 = .ok (.iinc 5 (-1), 3) := by decide +kernel
theorem dJ6_getChars_ba4f3_60 : decode cJ6_getChars_ba4f3 60 = .ok (.iload 5, 2) := by decide +kernel
theorem dJ6_getChars_ba4f3_62 : decode cJ6_getChars_ba4f3 62 = .ok (.getstatic 87, 3) := by decide +kernel
theorem dJ6_getChars_ba4f3_65 : decode cJ6_getChars_ba4f3 65 = .ok (.iload 4, 2) := by decide +kernel
theorem dJ6_getChars_ba4f3_67 : decode cJ6_getChars_ba4f3 67 = .ok (.baload, 1) := by decide +kernel
theorem dJ6_getChars_ba4f3_68 : decode cJ6_getChars_ba4f3 68 = .ok (.bastore, 1) := by decide +kernel
theorem dJ6_getChars_ba4f3_69 : decode cJ6_getChars_ba4f3 69 = .ok (.goto (-47), 3) := by decide +kernel
theorem dJ6_getChars_ba4f3_72 : decode cJ6_getChars_ba4f3 72 = .ok (.aload_n 2, 1) := by decide +kernel
theorem dJ6_getChars_ba4f3_73 : decode cJ6_getChars_ba4f3 73 = .ok (.iinc 5 (-1), 3) := by decide +kernel
theorem dJ6_getChars_ba4f3_76 : decode cJ6_getChars_ba4f3 76 = .ok (.iload 5, 2) := by decide +kernel
theorem dJ6_getChars_ba4f3_78 : decode cJ6_getChars_ba4f3 78 = .ok (.getstatic 83, 3) := by decide +kernel
theorem dJ6_getChars_ba4f3_81 : decode cJ6_getChars_ba4f3 81 = .ok (.iload_n 0, 1) := by decide +kernel
theorem dJ6_getChars_ba4f3_82 : decode cJ6_getChars_ba4f3 82 = .ok (.ineg, 1) := by decide +kernel
theorem dJ6_getChars_ba4f3_83 : decode cJ6_getChars_ba4f3 83 = .ok (.baload, 1) := by decide +kernel
theorem dJ6_getChars_ba4f3_84 : decode cJ6_getChars_ba4f3 84 = .ok (.bastore, 1) := by decide +kernel
theorem dJ6_getChars_ba4f3_85 : decode cJ6_getChars_ba4f3 85 = .ok (.iload_n 0, 1) := by decide +kernel
theorem dJ6_getChars_ba4f3_86 : decode cJ6_getChars_ba4f3 86 = .ok (.bipush (-9), 2) := by decide +kernel
theorem dJ6_getChars_ba4f3_88 : decode cJ6_getChars_ba4f3 88 = .ok (.if_icmp .ge 16, 3) := by decide +kernel
theorem dJ6_getChars_ba4f3_91 : decode cJ6_getChars_ba4f3 91 = .ok (.aload_n 2, 1) := by decide +kernel
theorem dJ6_getChars_ba4f3_92 : decode cJ6_getChars_ba4f3 92 = .ok (.iinc 5 (-1), 3) := by decide +kernel
theorem dJ6_getChars_ba4f3_95 : decode cJ6_getChars_ba4f3 95 = .ok (.iload 5, 2) := by decide +kernel
theorem dJ6_getChars_ba4f3_97 : decode cJ6_getChars_ba4f3 97 = .ok (.getstatic 87, 3) := by decide +kernel
theorem dJ6_getChars_ba4f3_100 : decode cJ6_getChars_ba4f3 100 = .ok (.iload_n 0, 1) := by decide +kernel
theorem dJ6_getChars_ba4f3_101 : decode cJ6_getChars_ba4f3 101 = .ok (.ineg, 1) := by decide +kernel
theorem dJ6_getChars_ba4f3_102 : decode cJ6_getChars_ba4f3 102 = .ok (.baload, 1) := by decide +kernel
theorem dJ6_getChars_ba4f3_103 : decode cJ6_getChars_ba4f3 103 = .ok (.bastore, 1) := by decide +kernel
theorem dJ6_getChars_ba4f3_104 : decode cJ6_getChars_ba4f3 104 = .ok (.iload 6, 2) := by decide +kernel
theorem dJ6_getChars_ba4f3_106 : decode cJ6_getChars_ba4f3 106 = .ok (.ifCond .eq 12, 3) := by decide +kernel
theorem dJ6_getChars_ba4f3_109 : decode cJ6_getChars_ba4f3 109 = .ok (.aload_n 2, 1) := by decide +kernel
theorem dJ6_getChars_ba4f3_110 : decode cJ6_getChars_ba4f3 110 = .ok (.iinc 5 (-1), 3) := by decide +kernel
theorem dJ6_getChars_ba4f3_113 : decode cJ6_getChars_ba4f3 113 = .ok (.iload 5, 2) := by decide +kernel
theorem dJ6_getChars_ba4f3_115 : decode cJ6_getChars_ba4f3 115 = .ok (.bipush 45, 2) := by decide +kernel
theorem dJ6_getChars_ba4f3_117 : decode cJ6_getChars_ba4f3 117 = .ok (.bastore, 1) := by decide +kernel
theorem dJ6_getChars_ba4f3_118 : decode cJ6_getChars_ba4f3 118 = .ok (.iload 5, 2) := by decide +kernel
theorem dJ6_getChars_ba4f3_120 : decode cJ6_getChars_ba4f3 120 = .ok (.ireturn, 1) := by decide +kernel
theorem dJ6_stringSize_0f7a4_0 : decode cJ6_stringSize_0f7a4 0 = .ok (.iconst 1, 1) := by decide +kernel
theorem dJ6_stringSize_0f7a4_1 : decode cJ6_stringSize_0f7a4 1 = .ok (.istore_n 1, 1) := by decide +kernel
theorem dJ6_stringSize_0f7a4_2 : decode cJ6_stringSize_0f7a4 2 = .ok (.iload_n 0, 1) := by decide +kernel
theorem dJ6_stringSize_0f7a4_3 : decode cJ6_stringSize_0f7a4 3 = .ok (.ifCond .lt 8, 3) := by decide +kernel
theorem dJ6_stringSize_0f7a4_6 : decode cJ6_stringSize_0f7a4 6 = .ok (.iconst 0, 1) := by decide +kernel
theorem dJ6_stringSize_0f7a4_7 : decode cJ6_stringSize_0f7a4 7 = .ok (.istore_n 1, 1) := by decide +kernel
theorem dJ6_stringSize_0f7a4_8 : decode cJ6_stringSize_0f7a4 8 = .ok (.iload_n 0, 1) := by decide +kernel
theorem dJ6_stringSize_0f7a4_9 : decode cJ6_stringSize_0f7a4 9 = .ok (.ineg, 1) := by decide +kernel
theorem dJ6_stringSize_0f7a4_10 : decode cJ6_stringSize_0f7a4 10 = .ok (.istore_n 0, 1) := by decide +kernel
theorem dJ6_stringSize_0f7a4_11 : decode cJ6_stringSize_0f7a4 11 = .ok (.bipush (-10), 2) := by decide +kernel
theorem dJ6_stringSize_0f7a4_13 : decode cJ6_stringSize_0f7a4 13 = .ok (.istore_n 2, 1) := by decide +kernel
theorem dJ6_stringSize_0f7a4_14 : decode cJ6_stringSize_0f7a4 14 = .ok (.iconst 1, 1) := by decide +kernel
theorem dJ6_stringSize_0f7a4_15 : decode cJ6_stringSize_0f7a4 15 = .ok (.istore_n 3, 1) := by decide +kernel
theorem dJ6_stringSize_0f7a4_16 : decode cJ6_stringSize_0f7a4 16 = .ok (.iload_n 3, 1) := by decide +kernel
theorem dJ6_stringSize_0f7a4_17 : decode cJ6_stringSize_0f7a4 17 = .ok (.bipush 10, 2) := by decide +kernel
theorem dJ6_stringSize_0f7a4_19 : decode cJ6_stringSize_0f7a4 19 = .ok (.if_icmp .ge 23, 3) := by decide +kernel
theorem dJ6_stringSize_0f7a4_22 : decode cJ6_stringSize_0f7a4 22 = .ok (.iload_n 0, 1) := by decide +kernel
theorem dJ6_stringSize_0f7a4_23 : decode cJ6_stringSize_0f7a4 23 = .ok (.iload_n 2, 1) := by decide +kernel
theorem dJ6_stringSize_0f7a4_24 : decode cJ6_stringSize_0f7a4 24 = .ok (.if_icmp .le 7, 3) := by decide +kernel
theorem dJ6_stringSize_0f7a4_27 : decode cJ6_stringSize_0f7a4 27 = .ok (.iload_n 3, 1) := by decide +kernel
theorem dJ6_stringSize_0f7a4_28 : decode cJ6_stringSize_0f7a4 28 = .ok (.iload_n 1, 1) := by decide +kernel
theorem dJ6_stringSize_0f7a4_29 : decode cJ6_stringSize_0f7a4 29 = .ok (.iadd, 1) := by decide +kernel
theorem dJ6_stringSize_0f7a4_30 : decode cJ6_stringSize_0f7a4 30 = .ok (.ireturn, 1) := by decide +kernel
theorem dJ6_stringSize_0f7a4_31 : decode cJ6_stringSize_0f7a4 31 = .ok (.bipush 10, 2) := by decide +kernel
theorem dJ6_stringSize_0f7a4_33 : decode cJ6_stringSize_0f7a4 33 = .ok (.iload_n 2, 1) := by decide +kernel
theorem dJ6_stringSize_0f7a4_34 : decode cJ6_stringSize_0f7a4 34 = .ok (.imul, 1) := by decide +kernel
theorem dJ6_stringSize_0f7a4_35 : decode cJ6_stringSize_0f7a4 35 = .ok (.istore_n 2, 1) := by decide +kernel
theorem dJ6_stringSize_0f7a4_36 : decode cJ6_stringSize_0f7a4 36 = .ok (.iinc 3 1, 3) := by decide +kernel
theorem dJ6_stringSize_0f7a4_39 : decode cJ6_stringSize_0f7a4 39 = .ok (.goto (-23), 3) := by decide +kernel
theorem dJ6_stringSize_0f7a4_42 : decode cJ6_stringSize_0f7a4 42 = .ok (.bipush 10, 2) := by decide +kernel
theorem dJ6_stringSize_0f7a4_44 : decode cJ6_stringSize_0f7a4 44 = .ok (.iload_n 1, 1) := by decide +kernel
theorem dJ6_stringSize_0f7a4_45 : decode cJ6_stringSize_0f7a4 45 = .ok (.iadd, 1) := by decide +kernel
theorem dJ6_stringSize_0f7a4_46 : decode cJ6_stringSize_0f7a4 46 = .ok (.ireturn, 1) := by decide +kernel
theorem dJ9_abs_0f7a4_0 : decode cJ9_abs_0f7a4 0 = .ok (.iload_n 0, 1) := by decide +kernel
theorem dJ9_abs_0f7a4_1 : decode cJ9_abs_0f7a4 1 = .ok (.ifCond .ge 8, 3) := by decide +kernel
theorem dJ9_abs_0f7a4_4 : decode cJ9_abs_0f7a4 4 = .ok (.iload_n 0, 1) := by decide +kernel
theorem dJ9_abs_0f7a4_5 : decode cJ9_abs_0f7a4 5 = .ok (.ineg, 1) := by decide +kernel
theorem dJ9_abs_0f7a4_6 : decode cJ9_abs_0f7a4 6 = .ok (.goto 4, 3) := by decide +kernel
theorem dJ9_abs_0f7a4_9 : decode cJ9_abs_0f7a4 9 = .ok (.iload_n 0, 1) := by decide +kernel
theorem dJ9_abs_0f7a4_10 : decode cJ9_abs_0f7a4 10 = .ok (.ireturn, 1) := by decide +kernel
theorem dJ9_max_7cf53_0 : decode cJ9_max_7cf53 0 = .ok (.iload_n 0, 1) := by decide +kernel
theorem dJ9_max_7cf53_1 : decode cJ9_max_7cf53 1 = .ok (.iload_n 1, 1) := by decide +kernel
theorem dJ9_max_7cf53_2 : decode cJ9_max_7cf53 2 = .ok (.if_icmp .lt 7, 3) := by decide +kernel
theorem dJ9_max_7cf53_5 : decode cJ9_max_7cf53 5 = .ok (.iload_n 0, 1) := by decide +kernel
theorem dJ9_max_7cf53_6 : decode cJ9_max_7cf53 6 = .ok (.goto 4, 3) := by decide +kernel
theorem dJ9_max_7cf53_9 : decode cJ9_max_7cf53 9 = .ok (.iload_n 1, 1) := by decide +kernel
theorem dJ9_max_7cf53_10 : decode cJ9_max_7cf53 10 = .ok (.ireturn, 1) := by decide +kernel
theorem dJ9_min_7cf53_0 : decode cJ9_min_7cf53 0 = .ok (.iload_n 0, 1) := by decide +kernel
theorem dJ9_min_7cf53_1 : decode cJ9_min_7cf53 1 = .ok (.iload_n 1, 1) := by decide +kernel
theorem dJ9_min_7cf53_2 : decode cJ9_min_7cf53 2 = .ok (.if_icmp .gt 7, 3) := by decide +kernel
theorem dJ9_min_7cf53_5 : decode cJ9_min_7cf53 5 = .ok (.iload_n 0, 1) := by decide +kernel
theorem dJ9_min_7cf53_6 : decode cJ9_min_7cf53 6 = .ok (.goto 4, 3) := by decide +kernel
theorem dJ9_min_7cf53_9 : decode cJ9_min_7cf53 9 = .ok (.iload_n 1, 1) := by decide +kernel
theorem dJ9_min_7cf53_10 : decode cJ9_min_7cf53 10 = .ok (.ireturn, 1) := by decide +kernel
theorem dJ0_init_81219_0 : decode cJ0_init_81219 0 = .ok (.aload_n 0, 1) := by decide +kernel
theorem dJ0_init_81219_1 : decode cJ0_init_81219 1 = .ok (.aload_n 1, 1) := by decide +kernel
theorem dJ0_init_81219_2 : decode cJ0_init_81219 2 = .ok (.aconst_null, 1) := by decide +kernel
theorem dJ0_init_81219_3 : decode cJ0_init_81219 3 = .ok (.invokespecial 489, 3) := by decide +kernel
theorem dJ0_init_81219_6 : decode cJ0_init_81219 6 = .ok (.return_, 1) := by decide +kernel
theorem dJ0_length_8abf5_0 : decode cJ0_length_8abf5 0 = .ok (.aload_n 0, 1) := by decide +kernel
theorem dJ0_length_8abf5_1 : decode cJ0_length_8abf5 1 = .ok (.getfield 9, 3) := by decide +kernel
theorem dJ0_length_8abf5_4 : decode cJ0_length_8abf5 4 = .ok (.arraylength, 1) := by decide +kernel
theorem dJ0_length_8abf5_5 : decode cJ0_length_8abf5 5 = .ok (.aload_n 0, 1) := by decide +kernel
theorem dJ0_length_8abf5_6 : decode cJ0_length_8abf5 6 = .ok (.invokevirtual 335, 3) := by decide +kernel
theorem dJ0_length_8abf5_9 : decode cJ0_length_8abf5 9 = .ok (.ishr, 1) := by decide +kernel
theorem dJ0_length_8abf5_10 : decode cJ0_length_8abf5 10 = .ok (.ireturn, 1) := by decide +kernel
theorem dJ0_charAt_5068e_0 : decode cJ0_charAt_5068e 0 = .ok (.aload_n 0, 1) := by decide +kernel
theorem dJ0_charAt_5068e_1 : decode cJ0_charAt_5068e 1 = .ok (.invokevirtual 492, 3) := by decide +kernel
theorem dJ0_charAt_5068e_4 : decode cJ0_charAt_5068e 4 = .ok (.ifCond .eq 12, 3) := by decide +kernel
theorem dJ0_charAt_5068e_7 : decode cJ0_charAt_5068e 7 = .ok (.aload_n 0, 1) := by decide +kernel
theorem dJ0_charAt_5068e_8 : decode cJ0_charAt_5068e 8 = .ok (.getfield 9, 3) := by decide +kernel
theorem dJ0_charAt_5068e_11 : decode cJ0_charAt_5068e 11 = .ok (.iload_n 1, 1) := by decide +kernel
theorem dJ0_charAt_5068e_12 : decode cJ0_charAt_5068e 12 = .ok (.invokestatic 495, 3) := by decide +kernel
theorem dJ0_charAt_5068e_15 : decode cJ0_charAt_5068e 15 = .ok (.ireturn, 1) := by decide +kernel
theorem dJ0_charAt_5068e_16 : decode cJ0_charAt_5068e 16 = .ok (.aload_n 0, 1) := by decide +kernel
theorem dJ0_charAt_5068e_17 : decode cJ0_charAt_5068e 17 = .ok (.getfield 9, 3) := by decide +kernel
theorem dJ0_charAt_5068e_20 : decode cJ0_charAt_5068e 20 = .ok (.iload_n 1, 1) := by decide +kernel
theorem dJ0_charAt_5068e_21 : decode cJ0_charAt_5068e 21 = .ok (.invokestatic 498, 3) := by decide +kernel
theorem dJ0_charAt_5068e_24 : decode cJ0_charAt_5068e 24 = .ok (.ireturn, 1) := by decide +kernel
theorem dJ0_indexOf_0f7a4_0 : decode cJ0_indexOf_0f7a4 0 = .ok (.aload_n 0, 1) := by decide +kernel
theorem dJ0_indexOf_0f7a4_1 : decode cJ0_indexOf_0f7a4 1 = .ok (.iload_n 1, 1) := by decide +kernel
theorem dJ0_indexOf_0f7a4_2 : decode cJ0_indexOf_0f7a4 2 = .ok (.iconst 0, 1) := by decide +kernel
theorem dJ0_indexOf_0f7a4_3 : decode cJ0_indexOf_0f7a4 3 = .ok (.invokevirtual 633, 3) := by decide +kernel
theorem dJ0_indexOf_0f7a4_6 : decode cJ0_indexOf_0f7a4 6 = .ok (.ireturn, 1) := by decide +kernel
theorem dJ0_indexOf_7cf53_0 : decode cJ0_indexOf_7cf53 0 = .ok (.aload_n 0, 1) := by decide +kernel
theorem dJ0_indexOf_7cf53_1 : decode cJ0_indexOf_7cf53 1 = .ok (.invokevirtual 492, 3) := by decide +kernel
theorem dJ0_indexOf_7cf53_4 : decode cJ0_indexOf_7cf53 4 = .ok (.ifCond .eq 19, 3) := by decide +kernel
theorem dJ0_indexOf_7cf53_7 : decode cJ0_indexOf_7cf53 7 = .ok (.aload_n 0, 1) := by decide +kernel
theorem dJ0_indexOf_7cf53_8 : decode cJ0_indexOf_7cf53 8 = .ok (.getfield 9, 3) := by decide +kernel
theorem dJ0_indexOf_7cf53_11 : decode cJ0_indexOf_7cf53 11 = .ok (.iload_n 1, 1) := by decide +kernel
theorem dJ0_indexOf_7cf53_12 : decode cJ0_indexOf_7cf53 12 = .ok (.iload_n 2, 1) := by decide +kernel
theorem dJ0_indexOf_7cf53_13 : decode cJ0_indexOf_7cf53 13 = .ok (.aload_n 0, 1) := by decide +kernel
theorem dJ0_indexOf_7cf53_14 : decode cJ0_indexOf_7cf53 14 = .ok (.invokevirtual 505, 3) := by decide +kernel
theorem dJ0_indexOf_7cf53_17 : decode cJ0_indexOf_7cf53 17 = .ok (.invokestatic 637, 3) := by decide +kernel
theorem dJ0_indexOf_7cf53_20 : decode cJ0_indexOf_7cf53 20 = .ok (.goto 16, 3) := by decide +kernel
theorem dJ0_indexOf_7cf53_23 : decode cJ0_indexOf_7cf53 23 = .ok (.aload_n 0, 1) := by decide +kernel
theorem dJ0_indexOf_7cf53_24 : decode cJ0_indexOf_7cf53 24 = .ok (.getfield 9, 3) := by decide +kernel
theorem dJ0_indexOf_7cf53_27 : decode cJ0_indexOf_7cf53 27 = .ok (.iload_n 1, 1) := by decide +kernel
theorem dJ0_indexOf_7cf53_28 : decode cJ0_indexOf_7cf53 28 = .ok (.iload_n 2, 1) := by decide +kernel
theorem dJ0_indexOf_7cf53_29 : decode cJ0_indexOf_7cf53 29 = .ok (.aload_n 0, 1) := by decide +kernel
theorem dJ0_indexOf_7cf53_30 : decode cJ0_indexOf_7cf53 30 = .ok (.invokevirtual 505, 3) := by decide +kernel
theorem dJ0_indexOf_7cf53_33 : decode cJ0_indexOf_7cf53 33 = .ok (.invokestatic 640, 3) := by decide +kernel
theorem dJ0_indexOf_7cf53_36 : decode cJ0_indexOf_7cf53 36 = .ok (.ireturn, 1) := by decide +kernel
theorem dJ0_getBytes_840e7_0 : decode cJ0_getBytes_840e7 0 = .ok (.aload_n 0, 1) := by decide +kernel
theorem dJ0_getBytes_840e7_1 : decode cJ0_getBytes_840e7 1 = .ok (.invokevirtual 335, 3) := by decide +kernel
theorem dJ0_getBytes_840e7_4 : decode cJ0_getBytes_840e7 4 = .ok (.iload_n 3, 1) := by decide +kernel
theorem dJ0_getBytes_840e7_5 : decode cJ0_getBytes_840e7 5 = .ok (.if_icmp .ne 23, 3) := by decide +kernel
theorem dJ0_getBytes_840e7_8 : decode cJ0_getBytes_840e7 8 = .ok (.aload_n 0, 1) := by decide +kernel
theorem dJ0_getBytes_840e7_9 : decode cJ0_getBytes_840e7 9 = .ok (.getfield 9, 3) := by decide +kernel
theorem dJ0_getBytes_840e7_12 : decode cJ0_getBytes_840e7 12 = .ok (.iconst 0, 1) := by decide +kernel
theorem dJ0_getBytes_840e7_13 : decode cJ0_getBytes_840e7 13 = .ok (.aload_n 1, 1) := by decide +kernel
theorem dJ0_getBytes_840e7_14 : decode cJ0_getBytes_840e7 14 = .ok (.iload_n 2, 1) := by decide +kernel
theorem dJ0_getBytes_840e7_15 : decode cJ0_getBytes_840e7 15 = .ok (.iload_n 3, 1) := by decide +kernel
theorem dJ0_getBytes_840e7_16 : decode cJ0_getBytes_840e7 16 = .ok (.ishl, 1) := by decide +kernel
theorem dJ0_getBytes_840e7_17 : decode cJ0_getBytes_840e7 17 = .ok (.aload_n 0, 1) := by decide +kernel
theorem dJ0_getBytes_840e7_18 : decode cJ0_getBytes_840e7 18 = .ok (.getfield 9, 3) := by decide +kernel
theorem dJ0_getBytes_840e7_21 : decode cJ0_getBytes_840e7 21 = .ok (.arraylength, 1) := by decide +kernel
theorem dJ0_getBytes_840e7_22 : decode cJ0_getBytes_840e7 22 = .ok (.invokestatic 212, 3) := by decide +kernel
theorem dJ0_getBytes_840e7_25 : decode cJ0_getBytes_840e7 25 = .ok (.goto 18, 3) := by decide +kernel
theorem dJ0_getBytes_840e7_28 : decode cJ0_getBytes_840e7 28 = .ok (.aload_n 0, 1) := by decide +kernel
theorem dJ0_getBytes_840e7_29 : decode cJ0_getBytes_840e7 29 = .ok (.getfield 9, 3) := by decide +kernel
theorem dJ0_getBytes_840e7_32 : decode cJ0_getBytes_840e7 32 = .ok (.iconst 0, 1) := by decide +kernel
theorem dJ0_getBytes_840e7_33 : decode cJ0_getBytes_840e7 33 = .ok (.aload_n 1, 1) := by decide +kernel
theorem dJ0_getBytes_840e7_34 : decode cJ0_getBytes_840e7 34 = .ok (.iload_n 2, 1) := by decide +kernel
theorem dJ0_getBytes_840e7_35 : decode cJ0_getBytes_840e7 35 = .ok (.aload_n 0, 1) := by decide +kernel
theorem dJ0_getBytes_840e7_36 : decode cJ0_getBytes_840e7 36 = .ok (.getfield 9, 3) := by decide +kernel
theorem dJ0_getBytes_840e7_39 : decode cJ0_getBytes_840e7 39 = .ok (.arraylength, 1) := by decide +kernel
theorem dJ0_getBytes_840e7_40 : decode cJ0_getBytes_840e7 40 = .ok (.invokestatic 106, 3) := by decide +kernel
theorem dJ0_getBytes_840e7_43 : decode cJ0_getBytes_840e7 43 = .ok (.return_, 1) := by decide +kernel
theorem dJ0_init_db425_0 : decode cJ0_init_db425 0 = .ok (.aload_n 0, 1) := by decide +kernel
theorem dJ0_init_db425_1 : decode cJ0_init_db425 1 = .ok (.invokespecial 1, 3) := by decide +kernel
theorem dJ0_init_db425_4 : decode cJ0_init_db425 4 = .ok (.aload_n 1, 1) := by decide +kernel
theorem dJ0_init_db425_5 : decode cJ0_init_db425 5 = .ok (.invokevirtual 552, 3) := by decide +kernel
theorem dJ0_init_db425_8 : decode cJ0_init_db425 8 = .ok (.astore_n 3, 1) := by decide +kernel
theorem dJ0_init_db425_9 : decode cJ0_init_db425 9 = .ok (.aload_n 1, 1) := by decide +kernel
theorem dJ0_init_db425_10 : decode cJ0_init_db425 10 = .ok (.invokevirtual 549, 3) := by decide +kernel
theorem dJ0_init_db425_13 : decode cJ0_init_db425 13 = .ok (.istore 4, 2) := by decide +kernel
theorem dJ0_init_db425_15 : decode cJ0_init_db425 15 = .ok (.aload_n 1, 1) := by decide +kernel
theorem dJ0_init_db425_16 : decode cJ0_init_db425 16 = .ok (.invokevirtual 1047, 3) := by decide +kernel
theorem dJ0_init_db425_19 : decode cJ0_init_db425 19 = .ok (.ifCond .eq 22, 3) := by decide +kernel
theorem dJ0_init_db425_22 : decode cJ0_init_db425 22 = .ok (.aload_n 0, 1) := by decide +kernel
theorem dJ0_init_db425_23 : decode cJ0_init_db425 23 = .ok (.iconst 0, 1) := by decide +kernel
theorem dJ0_init_db425_24 : decode cJ0_init_db425 24 = .ok (.putfield 15, 3) := by decide +kernel
theorem dJ0_init_db425_27 : decode cJ0_init_db425 27 = .ok (.aload_n 0, 1) := by decide +kernel
theorem dJ0_init_db425_28 : decode cJ0_init_db425 28 = .ok (.aload_n 3, 1) := by decide +kernel
theorem dJ0_init_db425_29 : decode cJ0_init_db425 29 = .ok (.iconst 0, 1) := by decide +kernel
theorem dJ0_init_db425_30 : decode cJ0_init_db425 30 = .ok (.iload 4, 2) := by decide +kernel
theorem dJ0_init_db425_32 : decode cJ0_init_db425 32 = .ok (.invokestatic 54, 3) := by decide +kernel
theorem dJ0_init_db425_35 : decode cJ0_init_db425 35 = .ok (.putfield 9, 3) := by decide +kernel
theorem dJ0_init_db425_38 : decode cJ0_init_db425 38 = .ok (.goto 59, 3) := by decide +kernel
theorem dJ0_init_db425_41 : decode cJ0_init_db425 41 = .ok (.getstatic 38, 3) := by decide +kernel
theorem dJ0_init_db425_44 : decode cJ0_init_db425 44 = .ok (.ifCond .eq 35, 3) := by decide +kernel
theorem dJ0_init_db425_47 : decode cJ0_init_db425 47 = .ok (.aload_n 1, 1) := by decide +kernel
theorem dJ0_init_db425_48 : decode cJ0_init_db425 48 = .ok (.getfield 1048, 3) := by decide +kernel
theorem dJ0_init_db425_51 : decode cJ0_init_db425 51 = .ok (.ifCond .eq 28, 3) := by decide +kernel
theorem dJ0_init_db425_54 : decode cJ0_init_db425 54 = .ok (.aload_n 0, 1) := by decide +kernel
theorem dJ0_init_db425_55 : decode cJ0_init_db425 55 = .ok (.aload_n 3, 1) := by decide +kernel
theorem dJ0_init_db425_56 : decode cJ0_init_db425 56 = .ok (.iconst 0, 1) := by decide +kernel
theorem dJ0_init_db425_57 : decode cJ0_init_db425 57 = .ok (.iload 4, 2) := by decide +kernel
theorem dJ0_init_db425_59 : decode cJ0_init_db425 59 = .ok (.invokestatic 1051, 3) := by decide +kernel
theorem dJ0_init_db425_62 : decode cJ0_init_db425 62 = .ok (.putfield 9, 3) := by decide +kernel
theorem dJ0_init_db425_65 : decode cJ0_init_db425 65 = .ok (.aload_n 0, 1) := by decide +kernel
theorem dJ0_init_db425_66 : decode cJ0_init_db425 66 = .ok (.aload_n 0, 1) := by decide +kernel
theorem dJ0_init_db425_67 : decode cJ0_init_db425 67 = .ok (.getfield 9, 3) := by decide +kernel
theorem dJ0_init_db425_70 : decode cJ0_init_db425 70 = .ok (.iload 4, 2) := by decide +kernel
theorem dJ0_init_db425_72 : decode cJ0_init_db425 72 = .ok (.invokestatic 47, 3) := by decide +kernel
theorem dJ0_init_db425_75 : decode cJ0_init_db425 75 = .ok (.putfield 15, 3) := by decide +kernel
theorem dJ0_init_db425_78 : decode cJ0_init_db425 78 = .ok (.return_, 1) := by decide +kernel
theorem dJ0_init_db425_79 : decode cJ0_init_db425 79 = .ok (.aload_n 0, 1) := by decide +kernel
theorem dJ0_init_db425_80 : decode cJ0_init_db425 80 = .ok (.iconst 1, 1) := by decide +kernel
theorem dJ0_init_db425_81 : decode cJ0_init_db425 81 = .ok (.putfield 15, 3) := by decide +kernel
theorem dJ0_init_db425_84 : decode cJ0_init_db425 84 = .ok (.aload_n 0, 1) := by decide +kernel
theorem dJ0_init_db425_85 : decode cJ0_init_db425 85 = .ok (.aload_n 3, 1) := by decide +kernel
theorem dJ0_init_db425_86 : decode cJ0_init_db425 86 = .ok (.iconst 0, 1) := by decide +kernel
theorem dJ0_init_db425_87 : decode cJ0_init_db425 87 = .ok (.iload 4, 2) := by decide +kernel
theorem dJ0_init_db425_89 : decode cJ0_init_db425 89 = .ok (.iconst 1, 1) := by decide +kernel
theorem dJ0_init_db425_90 : decode cJ0_init_db425 90 = .ok (.ishl, 1) := by decide +kernel
theorem dJ0_init_db425_91 : decode cJ0_init_db425 91 = .ok (.invokestatic 54, 3) := by decide +kernel
theorem dJ0_init_db425_94 : decode cJ0_init_db425 94 = .ok (.putfield 9, 3) := by decide +kernel
theorem dJ0_init_db425_97 : decode cJ0_init_db425 97 = .ok (.return_, 1) := by decide +kernel
theorem dJ0_coder_7d493_0 : decode cJ0_coder_7d493 0 = .ok (.getstatic 38, 3) := by decide +kernel
theorem dJ0_coder_7d493_3 : decode cJ0_coder_7d493 3 = .ok (.ifCond .eq 10, 3) := by decide +kernel
theorem dJ0_coder_7d493_6 : decode cJ0_coder_7d493 6 = .ok (.aload_n 0, 1) := by decide +kernel
theorem dJ0_coder_7d493_7 : decode cJ0_coder_7d493 7 = .ok (.getfield 15, 3) := by decide +kernel
theorem dJ0_coder_7d493_10 : decode cJ0_coder_7d493 10 = .ok (.goto 4, 3) := by decide +kernel
theorem dJ0_coder_7d493_13 : decode cJ0_coder_7d493 13 = .ok (.iconst 1, 1) := by decide +kernel
theorem dJ0_coder_7d493_14 : decode cJ0_coder_7d493 14 = .ok (.ireturn, 1) := by decide +kernel
theorem dJ0_isLatin1_aae02_0 : decode cJ0_isLatin1_aae02 0 = .ok (.getstatic 38, 3) := by decide +kernel
theorem dJ0_isLatin1_aae02_3 : decode cJ0_isLatin1_aae02 3 = .ok (.ifCond .eq 14, 3) := by decide +kernel
theorem dJ0_isLatin1_aae02_6 : decode cJ0_isLatin1_aae02 6 = .ok (.aload_n 0, 1) := by decide +kernel
theorem dJ0_isLatin1_aae02_7 : decode cJ0_isLatin1_aae02 7 = .ok (.getfield 15, 3) := by decide +kernel
theorem dJ0_isLatin1_aae02_10 : decode cJ0_isLatin1_aae02 10 = .ok (.ifCond .ne 7, 3) := by decide +kernel
theorem dJ0_isLatin1_aae02_13 : decode cJ0_isLatin1_aae02 13 = .ok (.iconst 1, 1) := by decide +kernel
theorem dJ0_isLatin1_aae02_14 : decode cJ0_isLatin1_aae02 14 = .ok (.goto 4, 3) := by decide +kernel
theorem dJ0_isLatin1_aae02_17 : decode cJ0_isLatin1_aae02 17 = .ok (.iconst 0, 1) := by decide +kernel
theorem dJ0_isLatin1_aae02_18 : decode cJ0_isLatin1_aae02 18 = .ok (.ireturn, 1) := by decide +kernel
theorem dJ0_checkIndex_df160_0 : decode cJ0_checkIndex_df160 0 = .ok (.iload_n 0, 1) := by decide +kernel
theorem dJ0_checkIndex_df160_1 : decode cJ0_checkIndex_df160 1 = .ok (.iload_n 1, 1) := by decide +kernel
theorem dJ0_checkIndex_df160_2 : decode cJ0_checkIndex_df160 2 = .ok (.getstatic 1053, 3) := by decide +kernel
theorem dJ0_checkIndex_df160_5 : decode cJ0_checkIndex_df160 5 = .ok (.invokestatic 1059, 3) := by decide +kernel
theorem dJ0_checkIndex_df160_8 : decode cJ0_checkIndex_df160 8 = .ok (.pop, 1) := by decide +kernel
theorem dJ0_checkIndex_df160_9 : decode cJ0_checkIndex_df160 9 = .ok (.return_, 1) := by decide +kernel
theorem dJ0_checkBoundsOffCount_cabcc_0 : decode cJ0_checkBoundsOffCount_cabcc 0 = .ok (.iload_n 0, 1) := by decide +kernel
theorem dJ0_checkBoundsOffCount_cabcc_1 : decode cJ0_checkBoundsOffCount_cabcc 1 = .ok (.iload_n 1, 1) := by decide +kernel
theorem dJ0_checkBoundsOffCount_cabcc_2 : decode cJ0_checkBoundsOffCount_cabcc 2 = .ok (.iload_n 2, 1) := by decide +kernel
theorem dJ0_checkBoundsOffCount_cabcc_3 : decode cJ0_checkBoundsOffCount_cabcc 3 = .ok (.getstatic 1053, 3) := by decide +kernel
theorem dJ0_checkBoundsOffCount_cabcc_6 : decode cJ0_checkBoundsOffCount_cabcc 6 = .ok (.invokestatic 1065, 3) := by decide +kernel
theorem dJ0_checkBoundsOffCount_cabcc_9 : decode cJ0_checkBoundsOffCount_cabcc 9 = .ok (.ireturn, 1) := by decide +kernel
theorem dJ0_checkBoundsBeginEnd_23922_0 : decode cJ0_checkBoundsBeginEnd_23922 0 = .ok (.iload_n 0, 1) := by decide +kernel
theorem dJ0_checkBoundsBeginEnd_23922_1 : decode cJ0_checkBoundsBeginEnd_23922 1 = .ok (.iload_n 1, 1) := by decide +kernel
theorem dJ0_checkBoundsBeginEnd_23922_2 : decode cJ0_checkBoundsBeginEnd_23922 2 = .ok (.iload_n 2, 1) := by decide +kernel
theorem dJ0_checkBoundsBeginEnd_23922_3 : decode cJ0_checkBoundsBeginEnd_23922 3 = .ok (.getstatic 1053, 3) := by decide +kernel
theorem dJ0_checkBoundsBeginEnd_23922_6 : decode cJ0_checkBoundsBeginEnd_23922 6 = .ok (.invokestatic 1062, 3) := by decide +kernel
theorem dJ0_checkBoundsBeginEnd_23922_9 : decode cJ0_checkBoundsBeginEnd_23922 9 = .ok (.pop, 1) := by decide +kernel
theorem dJ0_checkBoundsBeginEnd_23922_10 : decode cJ0_checkBoundsBeginEnd_23922 10 = .ok (.return_, 1) := by decide +kernel
theorem dJ4_init_da8c8_0 : decode cJ4_init_da8c8 0 = .ok (.aload_n 0, 1) := by decide +kernel
theorem dJ4_init_da8c8_1 : decode cJ4_init_da8c8 1 = .ok (.bipush 16, 2) := by decide +kernel
theorem dJ4_init_da8c8_3 : decode cJ4_init_da8c8 3 = .ok (.invokespecial 1, 3) := by decide +kernel
theorem dJ4_init_da8c8_6 : decode cJ4_init_da8c8 6 = .ok (.return_, 1) := by decide +kernel
theorem dJ4_append_15ec4_0 : decode cJ4_append_15ec4 0 = .ok (.aload_n 0, 1) := by decide +kernel
theorem dJ4_append_15ec4_1 : decode cJ4_append_15ec4 1 = .ok (.aload_n 1, 1) := by decide +kernel
theorem dJ4_append_15ec4_2 : decode cJ4_append_15ec4 2 = .ok (.invokespecial 29, 3) := by decide +kernel
theorem dJ4_append_15ec4_5 : decode cJ4_append_15ec4 5 = .ok (.pop, 1) := by decide +kernel
theorem dJ4_append_15ec4_6 : decode cJ4_append_15ec4 6 = .ok (.aload_n 0, 1) := by decide +kernel
theorem dJ4_append_15ec4_7 : decode cJ4_append_15ec4 7 = .ok (.areturn, 1) := by decide +kernel
theorem dJ4_append_cf468_0 : decode cJ4_append_cf468 0 = .ok (.aload_n 0, 1) := by decide +kernel
theorem dJ4_append_cf468_1 : decode cJ4_append_cf468 1 = .ok (.iload_n 1, 1) := by decide +kernel
theorem dJ4_append_cf468_2 : decode cJ4_append_cf468 2 = .ok (.invokespecial 50, 3) := by decide +kernel
theorem dJ4_append_cf468_5 : decode cJ4_append_cf468 5 = .ok (.pop, 1) := by decide +kernel
theorem dJ4_append_cf468_6 : decode cJ4_append_cf468 6 = .ok (.aload_n 0, 1) := by decide +kernel
theorem dJ4_append_cf468_7 : decode cJ4_append_cf468 7 = .ok (.areturn, 1) := by decide +kernel
theorem dJ4_append_bf812_0 : decode cJ4_append_bf812 0 = .ok (.aload_n 0, 1) := by decide +kernel
theorem dJ4_append_bf812_1 : decode cJ4_append_bf812 1 = .ok (.iload_n 1, 1) := by decide +kernel
theorem dJ4_append_bf812_2 : decode cJ4_append_bf812 2 = .ok (.invokespecial 53, 3) := by decide +kernel
theorem dJ4_append_bf812_5 : decode cJ4_append_bf812 5 = .ok (.pop, 1) := by decide +kernel
theorem dJ4_append_bf812_6 : decode cJ4_append_bf812 6 = .ok (.aload_n 0, 1) := by decide +kernel
theorem dJ4_append_bf812_7 : decode cJ4_append_bf812 7 = .ok (.areturn, 1) := by decide +kernel
theorem dJ4_toString_0e30d_0 : decode cJ4_toString_0e30d 0 = .ok (.new 18, 3) := by decide +kernel
theorem dJ4_toString_0e30d_3 : decode cJ4_toString_0e30d 3 = .ok (.dup, 1) := by decide +kernel
theorem dJ4_toString_0e30d_4 : decode cJ4_toString_0e30d 4 = .ok (.aload_n 0, 1) := by decide +kernel
theorem dJ4_toString_0e30d_5 : decode cJ4_toString_0e30d 5 = .ok (.invokespecial 137, 3) := by decide +kernel
theorem dJ4_toString_0e30d_8 : decode cJ4_toString_0e30d 8 = .ok (.areturn, 1) := by decide +kernel
theorem dJ4_length_8abf5_0 : decode cJ4_length_8abf5 0 = .ok (.aload_n 0, 1) := by decide +kernel
theorem dJ4_length_8abf5_1 : decode cJ4_length_8abf5 1 = .ok (.invokespecial 343, 3) := by decide +kernel
theorem dJ4_length_8abf5_4 : decode cJ4_length_8abf5 4 = .ok (.ireturn, 1) := by decide +kernel
theorem dJ1_charAt_3b067_0 : decode cJ1_charAt_3b067 0 = .ok (.iload_n 1, 1) := by decide +kernel
theorem dJ1_charAt_3b067_1 : decode cJ1_charAt_3b067 1 = .ok (.aload_n 0, 1) := by decide +kernel
theorem dJ1_charAt_3b067_2 : decode cJ1_charAt_3b067 2 = .ok (.arraylength, 1) := by decide +kernel
theorem dJ1_charAt_3b067_3 : decode cJ1_charAt_3b067 3 = .ok (.invokestatic 9, 3) := by decide +kernel
theorem dJ1_charAt_3b067_6 : decode cJ1_charAt_3b067 6 = .ok (.aload_n 0, 1) := by decide +kernel
theorem dJ1_charAt_3b067_7 : decode cJ1_charAt_3b067 7 = .ok (.iload_n 1, 1) := by decide +kernel
theorem dJ1_charAt_3b067_8 : decode cJ1_charAt_3b067 8 = .ok (.baload, 1) := by decide +kernel
theorem dJ1_charAt_3b067_9 : decode cJ1_charAt_3b067 9 = .ok (.sipush 255, 3) := by decide +kernel
theorem dJ1_charAt_3b067_12 : decode cJ1_charAt_3b067 12 = .ok (.iand, 1) := by decide +kernel
theorem dJ1_charAt_3b067_13 : decode cJ1_charAt_3b067 13 = .ok (.i2c, 1) := by decide +kernel
theorem dJ1_charAt_3b067_14 : decode cJ1_charAt_3b067 14 = .ok (.ireturn, 1) := by decide +kernel
theorem dJ1_canEncode_fc78d_0 : decode cJ1_canEncode_fc78d 0 = .ok (.iload_n 0, 1) := by decide +kernel
theorem dJ1_canEncode_fc78d_1 : decode cJ1_canEncode_fc78d 1 = .ok (.sipush 255, 3) := by decide +kernel
theorem dJ1_canEncode_fc78d_4 : decode cJ1_canEncode_fc78d 4 = .ok (.if_icmp .gt 7, 3) := by decide +kernel
theorem dJ1_canEncode_fc78d_7 : decode cJ1_canEncode_fc78d 7 = .ok (.iconst 1, 1) := by decide +kernel
theorem dJ1_canEncode_fc78d_8 : decode cJ1_canEncode_fc78d 8 = .ok (.goto 4, 3) := by decide +kernel
theorem dJ1_canEncode_fc78d_11 : decode cJ1_canEncode_fc78d 11 = .ok (.iconst 0, 1) := by decide +kernel
theorem dJ1_canEncode_fc78d_12 : decode cJ1_canEncode_fc78d 12 = .ok (.ireturn, 1) := by decide +kernel
theorem dJ1_canEncode_9a6ad_0 : decode cJ1_canEncode_9a6ad 0 = .ok (.iload_n 0, 1) := by decide +kernel
theorem dJ1_canEncode_9a6ad_1 : decode cJ1_canEncode_9a6ad 1 = .ok (.ifCond .lt 14, 3) := by decide +kernel
theorem dJ1_canEncode_9a6ad_4 : decode cJ1_canEncode_9a6ad 4 = .ok (.iload_n 0, 1) := by decide +kernel
theorem dJ1_canEncode_9a6ad_5 : decode cJ1_canEncode_9a6ad 5 = .ok (.sipush 255, 3) := by decide +kernel
theorem dJ1_canEncode_9a6ad_8 : decode cJ1_canEncode_9a6ad 8 = .ok (.if_icmp .gt 7, 3) := by decide +kernel
theorem dJ1_canEncode_9a6ad_11 : decode cJ1_canEncode_9a6ad 11 = .ok (.iconst 1, 1) := by decide +kernel
theorem dJ1_canEncode_9a6ad_12 : decode cJ1_canEncode_9a6ad 12 = .ok (.goto 4, 3) := by decide +kernel
theorem dJ1_canEncode_9a6ad_15 : decode cJ1_canEncode_9a6ad 15 = .ok (.iconst 0, 1) := by decide +kernel
theorem dJ1_canEncode_9a6ad_16 : decode cJ1_canEncode_9a6ad 16 = .ok (.ireturn, 1) := by decide +kernel
theorem dJ1_indexOf_4cfef_0 : decode cJ1_indexOf_4cfef 0 = .ok (.iload_n 1, 1) := by decide +kernel
theorem dJ1_indexOf_4cfef_1 : decode cJ1_indexOf_4cfef 1 = .ok (.invokestatic 88, 3) := by decide +kernel
theorem dJ1_indexOf_4cfef_4 : decode cJ1_indexOf_4cfef 4 = .ok (.ifCond .ne 5, 3) := by decide +kernel
theorem dJ1_indexOf_4cfef_7 : decode cJ1_indexOf_4cfef 7 = .ok (.iconst (-1), 1) := by decide +kernel
theorem dJ1_indexOf_4cfef_8 : decode cJ1_indexOf_4cfef 8 = .ok (.ireturn, 1) := by decide +kernel
theorem dJ1_indexOf_4cfef_9 : decode cJ1_indexOf_4cfef 9 = .ok (.iload_n 2, 1) := by decide +kernel
theorem dJ1_indexOf_4cfef_10 : decode cJ1_indexOf_4cfef 10 = .ok (.iconst 0, 1) := by decide +kernel
theorem dJ1_indexOf_4cfef_11 : decode cJ1_indexOf_4cfef 11 = .ok (.invokestatic 92, 3) := by decide +kernel
theorem dJ1_indexOf_4cfef_14 : decode cJ1_indexOf_4cfef 14 = .ok (.istore_n 2, 1) := by decide +kernel
theorem dJ1_indexOf_4cfef_15 : decode cJ1_indexOf_4cfef 15 = .ok (.iload_n 3, 1) := by decide +kernel
theorem dJ1_indexOf_4cfef_16 : decode cJ1_indexOf_4cfef 16 = .ok (.aload_n 0, 1) := by decide +kernel
theorem dJ1_indexOf_4cfef_17 : decode cJ1_indexOf_4cfef 17 = .ok (.arraylength, 1) := by decide +kernel
theorem dJ1_indexOf_4cfef_18 : decode cJ1_indexOf_4cfef 18 = .ok (.invokestatic 38, 3) := by decide +kernel
theorem dJ1_indexOf_4cfef_21 : decode cJ1_indexOf_4cfef 21 = .ok (.istore_n 3, 1) := by decide +kernel
theorem dJ1_indexOf_4cfef_22 : decode cJ1_indexOf_4cfef 22 = .ok (.iload_n 2, 1) := by decide +kernel
theorem dJ1_indexOf_4cfef_23 : decode cJ1_indexOf_4cfef 23 = .ok (.iload_n 3, 1) := by decide +kernel
theorem dJ1_indexOf_4cfef_24 : decode cJ1_indexOf_4cfef 24 = .ok (.if_icmp .lt 5, 3) := by decide +kernel
theorem dJ1_indexOf_4cfef_27 : decode cJ1_indexOf_4cfef 27 = .ok (.iconst (-1), 1) := by decide +kernel
theorem dJ1_indexOf_4cfef_28 : decode cJ1_indexOf_4cfef 28 = .ok (.ireturn, 1) := by decide +kernel
theorem dJ1_indexOf_4cfef_29 : decode cJ1_indexOf_4cfef 29 = .ok (.aload_n 0, 1) := by decide +kernel
theorem dJ1_indexOf_4cfef_30 : decode cJ1_indexOf_4cfef 30 = .ok (.iload_n 1, 1) := by decide +kernel
theorem dJ1_indexOf_4cfef_31 : decode cJ1_indexOf_4cfef 31 = .ok (.iload_n 2, 1) := by decide +kernel
theorem dJ1_indexOf_4cfef_32 : decode cJ1_indexOf_4cfef 32 = .ok (.iload_n 3, 1) := by decide +kernel
theorem dJ1_indexOf_4cfef_33 : decode cJ1_indexOf_4cfef 33 = .ok (.invokestatic 95, 3) := by decide +kernel
theorem dJ1_indexOf_4cfef_36 : decode cJ1_indexOf_4cfef 36 = .ok (.ireturn, 1) := by decide +kernel
theorem dJ1_indexOfChar_4cfef_0 : decode cJ1_indexOfChar_4cfef 0 = .ok (.iload_n 1, 1) := by decide +kernel
theorem dJ1_indexOfChar_4cfef_1 : decode cJ1_indexOfChar_4cfef 1 = .ok (.i2b, 1) := by decide +kernel
theorem dJ1_indexOfChar_4cfef_2 : decode cJ1_indexOfChar_4cfef 2 = .ok (.istore 4, 2) := by decide +kernel
theorem dJ1_indexOfChar_4cfef_4 : decode cJ1_indexOfChar_4cfef 4 = .ok (.iload_n 2, 1) := by decide +kernel
theorem dJ1_indexOfChar_4cfef_5 : decode cJ1_indexOfChar_4cfef 5 = .ok (.istore 5, 2) := by decide +kernel
theorem dJ1_indexOfChar_4cfef_7 : decode cJ1_indexOfChar_4cfef 7 = .ok (.iload 5, 2) := by decide +kernel
theorem dJ1_indexOfChar_4cfef_9 : decode cJ1_indexOfChar_4cfef 9 = .ok (.iload_n 3, 1) := by decide +kernel
theorem dJ1_indexOfChar_4cfef_10 : decode cJ1_indexOfChar_4cfef 10 = .ok (.if_icmp .ge 21, 3) := by decide +kernel
theorem dJ1_indexOfChar_4cfef_13 : decode cJ1_indexOfChar_4cfef 13 = .ok (.aload_n 0, 1) := by decide +kernel
theorem dJ1_indexOfChar_4cfef_14 : decode cJ1_indexOfChar_4cfef 14 = .ok (.iload 5, 2) := by decide +kernel
theorem dJ1_indexOfChar_4cfef_16 : decode cJ1_indexOfChar_4cfef 16 = .ok (.baload, 1) := by decide +kernel
theorem dJ1_indexOfChar_4cfef_17 : decode cJ1_indexOfChar_4cfef 17 = .ok (.iload 4, 2) := by decide +kernel
theorem dJ1_indexOfChar_4cfef_19 : decode cJ1_indexOfChar_4cfef 19 = .ok (.if_icmp .ne 6, 3) := by decide +kernel
theorem dJ1_indexOfChar_4cfef_22 : decode cJ1_indexOfChar_4cfef 22 = .ok (.iload 5, 2) := by decide +kernel
theorem dJ1_indexOfChar_4cfef_24 : decode cJ1_indexOfChar_4cfef 24 = .ok (.ireturn, 1) := by decide +kernel
theorem dJ1_indexOfChar_4cfef_25 : decode cJ1_indexOfChar_4cfef 25 = .ok (.iinc 5 1, 3) := by decide +kernel
theorem dJ1_indexOfChar_4cfef_28 : decode cJ1_indexOfChar_4cfef 28 = .ok (.goto (-21), 3) := by decide +kernel
theorem dJ1_indexOfChar_4cfef_31 : decode cJ1_indexOfChar_4cfef 31 = .ok (.iconst (-1), 1) := by decide +kernel
theorem dJ1_indexOfChar_4cfef_32 : decode cJ1_indexOfChar_4cfef 32 = .ok (.ireturn, 1) := by decide +kernel
theorem dJ1_inflate_0e8fd_0 : decode cJ1_inflate_0e8fd 0 = .ok (.aload_n 0, 1) := by decide +kernel
theorem dJ1_inflate_0e8fd_1 : decode cJ1_inflate_0e8fd 1 = .ok (.iload_n 1, 1) := by decide +kernel
theorem dJ1_inflate_0e8fd_2 : decode cJ1_inflate_0e8fd 2 = .ok (.aload_n 2, 1) := by decide +kernel
theorem dJ1_inflate_0e8fd_3 : decode cJ1_inflate_0e8fd 3 = .ok (.iload_n 3, 1) := by decide +kernel
theorem dJ1_inflate_0e8fd_4 : decode cJ1_inflate_0e8fd 4 = .ok (.iload 4, 2) := by decide +kernel
theorem dJ1_inflate_0e8fd_6 : decode cJ1_inflate_0e8fd 6 = .ok (.invokestatic 240, 3) := by decide +kernel
theorem dJ1_inflate_0e8fd_9 : decode cJ1_inflate_0e8fd 9 = .ok (.return_, 1) := by decide +kernel
theorem dJ2_newBytesFor_77867_0 : decode cJ2_newBytesFor_77867 0 = .ok (.iload_n 0, 1) := by decide +kernel
theorem dJ2_newBytesFor_77867_1 : decode cJ2_newBytesFor_77867 1 = .ok (.invokestatic 11, 3) := by decide +kernel
theorem dJ2_newBytesFor_77867_4 : decode cJ2_newBytesFor_77867 4 = .ok (.newarray .byte, 2) := by decide +kernel
theorem dJ2_newBytesFor_77867_6 : decode cJ2_newBytesFor_77867 6 = .ok (.areturn, 1) := by decide +kernel
theorem dJ2_newBytesLength_0f7a4_0 : decode cJ2_newBytesLength_0f7a4 0 = .ok (.iload_n 0, 1) := by decide +kernel
theorem dJ2_newBytesLength_0f7a4_1 : decode cJ2_newBytesLength_0f7a4 1 = .ok (.ifCond .ge 11, 3) := by decide +kernel
theorem dJ2_newBytesLength_0f7a4_4 : decode cJ2_newBytesLength_0f7a4 4 = .ok (.new 17, 3) := by decide +kernel
theorem dJ2_newBytesLength_0f7a4_7 : decode cJ2_newBytesLength_0f7a4 7 = .ok (.dup, 1) := by decide +kernel
theorem dJ2_newBytesLength_0f7a4_8 : decode cJ2_newBytesLength_0f7a4 8 = .ok (.invokespecial 19, 3) := by decide +kernel
theorem dJ2_newBytesLength_0f7a4_11 : decode cJ2_newBytesLength_0f7a4 11 = .ok (.athrow, 1) := by decide +kernel
theorem dJ2_newBytesLength_0f7a4_12 : decode cJ2_newBytesLength_0f7a4 12 = .ok (.iload_n 0, 1) := by decide +kernel
theorem dJ2_newBytesLength_0f7a4_13 : decode cJ2_newBytesLength_0f7a4 13 = .ok (.ldc 20, 2) := by decide +kernel
theorem dJ2_newBytesLength_0f7a4_15 : decode cJ2_newBytesLength_0f7a4 15 = .ok (.if_icmp .lt 40, 3) := by decide +kernel
theorem dJ2_newBytesLength_0f7a4_18 : decode cJ2_newBytesLength_0f7a4 18 = .ok (.new 21, 3) := by decide +kernel
theorem dJ2_newBytesLength_0f7a4_21 : decode cJ2_newBytesLength_0f7a4 21 = .ok (.dup, 1) := by decide +kernel
theorem dJ2_newBytesLength_0f7a4_22 : decode cJ2_newBytesLength_0f7a4 22 = .ok (.new 23, 3) := by decide +kernel
theorem dJ2_newBytesLength_0f7a4_25 : decode cJ2_newBytesLength_0f7a4 25 = .ok (.dup, 1) := by decide +kernel
theorem dJ2_newBytesLength_0f7a4_26 : decode cJ2_newBytesLength_0f7a4 26 = .ok (.invokespecial 25, 3) := by decide +kernel
theorem dJ2_newBytesLength_0f7a4_29 : decode cJ2_newBytesLength_0f7a4 29 = .ok (.ldc 26, 2) := by decide +kernel
theorem dJ2_newBytesLength_0f7a4_31 : decode cJ2_newBytesLength_0f7a4 31 = .ok (.invokevirtual 28, 3) := by decide +kernel
theorem dJ2_newBytesLength_0f7a4_34 : decode cJ2_newBytesLength_0f7a4 34 = .ok (.iload_n 0, 1) := by decide +kernel
theorem dJ2_newBytesLength_0f7a4_35 : decode cJ2_newBytesLength_0f7a4 35 = .ok (.invokevirtual 32, 3) := by decide +kernel
theorem dJ2_newBytesLength_0f7a4_38 : decode cJ2_newBytesLength_0f7a4 38 = .ok (.ldc 35, 2) := by decide +kernel
theorem dJ2_newBytesLength_0f7a4_40 : decode cJ2_newBytesLength_0f7a4 40 = .ok (.invokevirtual 28, 3) := by decide +kernel
theorem dJ2_newBytesLength_0f7a4_43 : decode cJ2_newBytesLength_0f7a4 43 = .ok (.ldc 20, 2) := by decide +kernel
theorem dJ2_newBytesLength_0f7a4_45 : decode cJ2_newBytesLength_0f7a4 45 = .ok (.invokevirtual 32, 3) := by decide +kernel
theorem dJ2_newBytesLength_0f7a4_48 : decode cJ2_newBytesLength_0f7a4 48 = .ok (.invokevirtual 37, 3) := by decide +kernel
theorem dJ2_newBytesLength_0f7a4_51 : decode cJ2_newBytesLength_0f7a4 51 = .ok (.invokespecial 41, 3) := by decide +kernel
theorem dJ2_newBytesLength_0f7a4_54 : decode cJ2_newBytesLength_0f7a4 54 = .ok (.athrow, 1) := by decide +kernel
theorem dJ2_newBytesLength_0f7a4_55 : decode cJ2_newBytesLength_0f7a4 55 = .ok (.iload_n 0, 1) := by decide +kernel
theorem dJ2_newBytesLength_0f7a4_56 : decode cJ2_newBytesLength_0f7a4 56 = .ok (.iconst 1, 1) := by decide +kernel
theorem dJ2_newBytesLength_0f7a4_57 : decode cJ2_newBytesLength_0f7a4 57 = .ok (.ishl, 1) := by decide +kernel
theorem dJ2_newBytesLength_0f7a4_58 : decode cJ2_newBytesLength_0f7a4 58 = .ok (.ireturn, 1) := by decide +kernel
theorem dJ2_putChar_b72d1_0 : decode cJ2_putChar_b72d1 0 = .ok (.getstatic 44, 3) := by decide +kernel
theorem dJ2_putChar_b72d1_3 : decode cJ2_putChar_b72d1 3 = .ok (.ifCond .ne 25, 3) := by decide +kernel
theorem dJ2_putChar_b72d1_6 : decode cJ2_putChar_b72d1 6 = .ok (.iload_n 1, 1) := by decide +kernel
theorem dJ2_putChar_b72d1_7 : decode cJ2_putChar_b72d1 7 = .ok (.ifCond .lt 11, 3) := by decide +kernel
theorem dJ2_putChar_b72d1_10 : decode cJ2_putChar_b72d1 10 = .ok (.iload_n 1, 1) := by decide +kernel
theorem dJ2_putChar_b72d1_11 : decode cJ2_putChar_b72d1 11 = .ok (.aload_n 0, 1) := by decide +kernel
theorem dJ2_putChar_b72d1_12 : decode cJ2_putChar_b72d1 12 = .ok (.invokestatic 48, 3) := by decide +kernel
theorem dJ2_putChar_b72d1_15 : decode cJ2_putChar_b72d1 15 = .ok (.if_icmp .lt 13, 3) := by decide +kernel
theorem dJ2_putChar_b72d1_18 : decode cJ2_putChar_b72d1 18 = .ok (.new 52, 3) := by decide +kernel
theorem dJ2_putChar_b72d1_21 : decode cJ2_putChar_b72d1 21 = .ok (.dup, 1) := by decide +kernel
theorem dJ2_putChar_b72d1_22 : decode cJ2_putChar_b72d1 22 = .ok (.ldc 54, 2) := by decide +kernel
theorem dJ2_putChar_b72d1_24 : decode cJ2_putChar_b72d1 24 = .ok (.invokespecial 56, 3) := by decide +kernel
theorem dJ2_putChar_b72d1_27 : decode cJ2_putChar_b72d1 27 = .ok (.athrow, 1) := by decide +kernel
theorem dJ2_putChar_b72d1_28 : decode cJ2_putChar_b72d1 28 = .ok (.iload_n 1, 1) := by decide +kernel
theorem dJ2_putChar_b72d1_29 : decode cJ2_putChar_b72d1 29 = .ok (.iconst 1, 1) := by decide +kernel
theorem dJ2_putChar_b72d1_30 : decode cJ2_putChar_b72d1 30 = .ok (.ishl, 1) := by decide +kernel
theorem dJ2_putChar_b72d1_31 : decode cJ2_putChar_b72d1 31 = .ok (.istore_n 1, 1) := by decide +kernel
theorem dJ2_putChar_b72d1_32 : decode cJ2_putChar_b72d1 32 = .ok (.aload_n 0, 1) := by decide +kernel
theorem dJ2_putChar_b72d1_33 : decode cJ2_putChar_b72d1 33 = .ok (.iload_n 1, 1) := by decide +kernel
theorem dJ2_putChar_b72d1_34 : decode cJ2_putChar_b72d1 34 = .ok (.iinc 1 1, 3) := by decide +kernel
theorem dJ2_putChar_b72d1_37 : decode cJ2_putChar_b72d1 37 = .ok (.iload_n 2, 1) := by decide +kernel
theorem dJ2_putChar_b72d1_38 : decode cJ2_putChar_b72d1 38 = .ok (.getstatic 59, 3) := by decide +kernel
theorem dJ2_putChar_b72d1_41 : decode cJ2_putChar_b72d1 41 = .ok (.ishr, 1) := by decide +kernel
theorem dJ2_putChar_b72d1_42 : decode cJ2_putChar_b72d1 42 = .ok (.i2b, 1) := by decide +kernel
theorem dJ2_putChar_b72d1_43 : decode cJ2_putChar_b72d1 43 = .ok (.bastore, 1) := by decide +kernel
theorem dJ2_putChar_b72d1_44 : decode cJ2_putChar_b72d1 44 = .ok (.aload_n 0, 1) := by decide +kernel
theorem dJ2_putChar_b72d1_45 : decode cJ2_putChar_b72d1 45 = .ok (.iload_n 1, 1) := by decide +kernel
theorem dJ2_putChar_b72d1_46 : decode cJ2_putChar_b72d1 46 = .ok (.iload_n 2, 1) := by decide +kernel
theorem dJ2_putChar_b72d1_47 : decode cJ2_putChar_b72d1 47 = .ok (.getstatic 63, 3) := by decide +kernel
theorem dJ2_putChar_b72d1_50 : decode cJ2_putChar_b72d1 50 = .ok (.ishr, 1) := by decide +kernel
theorem dJ2_putChar_b72d1_51 : decode cJ2_putChar_b72d1 51 = .ok (.i2b, 1) := by decide +kernel
theorem dJ2_putChar_b72d1_52 : decode cJ2_putChar_b72d1 52 = .ok (.bastore, 1) := by decide +kernel
theorem dJ2_putChar_b72d1_53 : decode cJ2_putChar_b72d1 53 = .ok (.return_, 1) := by decide +kernel
theorem dJ2_getChar_3b067_0 : decode cJ2_getChar_3b067 0 = .ok (.getstatic 44, 3) := by decide +kernel
theorem dJ2_getChar_3b067_3 : decode cJ2_getChar_3b067 3 = .ok (.ifCond .ne 25, 3) := by decide +kernel
theorem dJ2_getChar_3b067_6 : decode cJ2_getChar_3b067 6 = .ok (.iload_n 1, 1) := by decide +kernel
theorem dJ2_getChar_3b067_7 : decode cJ2_getChar_3b067 7 = .ok (.ifCond .lt 11, 3) := by decide +kernel
theorem dJ2_getChar_3b067_10 : decode cJ2_getChar_3b067 10 = .ok (.iload_n 1, 1) := by decide +kernel
theorem dJ2_getChar_3b067_11 : decode cJ2_getChar_3b067 11 = .ok (.aload_n 0, 1) := by decide +kernel
theorem dJ2_getChar_3b067_12 : decode cJ2_getChar_3b067 12 = .ok (.invokestatic 48, 3) := by decide +kernel
theorem dJ2_getChar_3b067_15 : decode cJ2_getChar_3b067 15 = .ok (.if_icmp .lt 13, 3) := by decide +kernel
theorem dJ2_getChar_3b067_18 : decode cJ2_getChar_3b067 18 = .ok (.new 52, 3) := by decide +kernel
theorem dJ2_getChar_3b067_21 : decode cJ2_getChar_3b067 21 = .ok (.dup, 1) := by decide +kernel
theorem dJ2_getChar_3b067_22 : decode cJ2_getChar_3b067 22 = .ok (.ldc 54, 2) := by decide +kernel
theorem dJ2_getChar_3b067_24 : decode cJ2_getChar_3b067 24 = .ok (.invokespecial 56, 3) := by decide +kernel
theorem dJ2_getChar_3b067_27 : decode cJ2_getChar_3b067 27 = .ok (.athrow, 1) := by decide +kernel
theorem dJ2_getChar_3b067_28 : decode cJ2_getChar_3b067 28 = .ok (.iload_n 1, 1) := by decide +kernel
theorem dJ2_getChar_3b067_29 : decode cJ2_getChar_3b067 29 = .ok (.iconst 1, 1) := by decide +kernel
theorem dJ2_getChar_3b067_30 : decode cJ2_getChar_3b067 30 = .ok (.ishl, 1) := by decide +kernel
theorem dJ2_getChar_3b067_31 : decode cJ2_getChar_3b067 31 = .ok (.istore_n 1, 1) := by decide +kernel
theorem dJ2_getChar_3b067_32 : decode cJ2_getChar_3b067 32 = .ok (.aload_n 0, 1) := by decide +kernel
theorem dJ2_getChar_3b067_33 : decode cJ2_getChar_3b067 33 = .ok (.iload_n 1, 1) := by decide +kernel
theorem dJ2_getChar_3b067_34 : decode cJ2_getChar_3b067 34 = .ok (.iinc 1 1, 3) := by decide +kernel
theorem dJ2_getChar_3b067_37 : decode cJ2_getChar_3b067 37 = .ok (.baload, 1) := by decide +kernel
theorem dJ2_getChar_3b067_38 : decode cJ2_getChar_3b067 38 = .ok (.sipush 255, 3) := by decide +kernel
theorem dJ2_getChar_3b067_41 : decode cJ2_getChar_3b067 41 = .ok (.iand, 1) := by decide +kernel
theorem dJ2_getChar_3b067_42 : decode cJ2_getChar_3b067 42 = .ok (.getstatic 59, 3) := by decide +kernel
theorem dJ2_getChar_3b067_45 : decode cJ2_getChar_3b067 45 = .ok (.ishl, 1) := by decide +kernel
theorem dJ2_getChar_3b067_46 : decode cJ2_getChar_3b067 46 = .ok (.aload_n 0, 1) := by decide +kernel
theorem dJ2_getChar_3b067_47 : decode cJ2_getChar_3b067 47 = .ok (.iload_n 1, 1) := by decide +kernel
theorem dJ2_getChar_3b067_48 : decode cJ2_getChar_3b067 48 = .ok (.baload, 1) := by decide +kernel
theorem dJ2_getChar_3b067_49 : decode cJ2_getChar_3b067 49 = .ok (.sipush 255, 3) := by decide +kernel
theorem dJ2_getChar_3b067_52 : decode cJ2_getChar_3b067 52 = .ok (.iand, 1) := by decide +kernel
theorem dJ2_getChar_3b067_53 : decode cJ2_getChar_3b067 53 = .ok (.getstatic 63, 3) := by decide +kernel
theorem dJ2_getChar_3b067_56 : decode cJ2_getChar_3b067 56 = .ok (.ishl, 1) := by decide +kernel
theorem dJ2_getChar_3b067_57 : decode cJ2_getChar_3b067 57 = .ok (.ior, 1) := by decide +kernel
theorem dJ2_getChar_3b067_58 : decode cJ2_getChar_3b067 58 = .ok (.i2c, 1) := by decide +kernel
theorem dJ2_getChar_3b067_59 : decode cJ2_getChar_3b067 59 = .ok (.ireturn, 1) := by decide +kernel
theorem dJ2_length_9d52b_0 : decode cJ2_length_9d52b 0 = .ok (.aload_n 0, 1) := by decide +kernel
theorem dJ2_length_9d52b_1 : decode cJ2_length_9d52b 1 = .ok (.arraylength, 1) := by decide +kernel
theorem dJ2_length_9d52b_2 : decode cJ2_length_9d52b 2 = .ok (.iconst 1, 1) := by decide +kernel
theorem dJ2_length_9d52b_3 : decode cJ2_length_9d52b 3 = .ok (.ishr, 1) := by decide +kernel
theorem dJ2_length_9d52b_4 : decode cJ2_length_9d52b 4 = .ok (.ireturn, 1) := by decide +kernel
theorem dJ2_coderFromArrayLen_85cad_0 : decode cJ2_coderFromArrayLen_85cad 0 = .ok (.iload_n 1, 1) := by decide +kernel
theorem dJ2_coderFromArrayLen_85cad_1 : decode cJ2_coderFromArrayLen_85cad 1 = .ok (.aload_n 0, 1) := by decide +kernel
theorem dJ2_coderFromArrayLen_85cad_2 : decode cJ2_coderFromArrayLen_85cad 2 = .ok (.arraylength, 1) := by decide +kernel
theorem dJ2_coderFromArrayLen_85cad_3 : decode cJ2_coderFromArrayLen_85cad 3 = .ok (.isub, 1) := by decide +kernel
theorem dJ2_coderFromArrayLen_85cad_4 : decode cJ2_coderFromArrayLen_85cad 4 = .ok (.bipush 31, 2) := by decide +kernel
theorem dJ2_coderFromArrayLen_85cad_6 : decode cJ2_coderFromArrayLen_85cad 6 = .ok (.iushr, 1) := by decide +kernel
theorem dJ2_coderFromArrayLen_85cad_7 : decode cJ2_coderFromArrayLen_85cad 7 = .ok (.i2b, 1) := by decide +kernel
theorem dJ2_coderFromArrayLen_85cad_8 : decode cJ2_coderFromArrayLen_85cad 8 = .ok (.ireturn, 1) := by decide +kernel
theorem dJ2_compress_39247_0 : decode cJ2_compress_39247 0 = .ok (.iload_n 2, 1) := by decide +kernel
theorem dJ2_compress_39247_1 : decode cJ2_compress_39247 1 = .ok (.newarray .byte, 2) := by decide +kernel
theorem dJ2_compress_39247_3 : decode cJ2_compress_39247 3 = .ok (.astore_n 3, 1) := by decide +kernel
theorem dJ2_compress_39247_4 : decode cJ2_compress_39247 4 = .ok (.aload_n 0, 1) := by decide +kernel
theorem dJ2_compress_39247_5 : decode cJ2_compress_39247 5 = .ok (.iload_n 1, 1) := by decide +kernel
theorem dJ2_compress_39247_6 : decode cJ2_compress_39247 6 = .ok (.aload_n 3, 1) := by decide +kernel
theorem dJ2_compress_39247_7 : decode cJ2_compress_39247 7 = .ok (.iconst 0, 1) := by decide +kernel
theorem dJ2_compress_39247_8 : decode cJ2_compress_39247 8 = .ok (.iload_n 2, 1) := by decide +kernel
theorem dJ2_compress_39247_9 : decode cJ2_compress_39247 9 = .ok (.invokestatic 123, 3) := by decide +kernel
theorem dJ2_compress_39247_12 : decode cJ2_compress_39247 12 = .ok (.istore 4, 2) := by decide +kernel
theorem dJ2_compress_39247_14 : decode cJ2_compress_39247 14 = .ok (.iload 4, 2) := by decide +kernel
theorem dJ2_compress_39247_16 : decode cJ2_compress_39247 16 = .ok (.iload_n 2, 1) := by decide +kernel
theorem dJ2_compress_39247_17 : decode cJ2_compress_39247 17 = .ok (.if_icmp .eq 47, 3) := by decide +kernel
theorem dJ2_compress_39247_20 : decode cJ2_compress_39247 20 = .ok (.aload_n 0, 1) := by decide +kernel
theorem dJ2_compress_39247_21 : decode cJ2_compress_39247 21 = .ok (.iload_n 1, 1) := by decide +kernel
theorem dJ2_compress_39247_22 : decode cJ2_compress_39247 22 = .ok (.iconst 1, 1) := by decide +kernel
theorem dJ2_compress_39247_23 : decode cJ2_compress_39247 23 = .ok (.ishl, 1) := by decide +kernel
theorem dJ2_compress_39247_24 : decode cJ2_compress_39247 24 = .ok (.iload_n 1, 1) := by decide +kernel
theorem dJ2_compress_39247_25 : decode cJ2_compress_39247 25 = .ok (.iload_n 2, 1) := by decide +kernel
theorem dJ2_compress_39247_26 : decode cJ2_compress_39247 26 = .ok (.iadd, 1) := by decide +kernel
theorem dJ2_compress_39247_27 : decode cJ2_compress_39247 27 = .ok (.invokestatic 11, 3) := by decide +kernel
theorem dJ2_compress_39247_30 : decode cJ2_compress_39247 30 = .ok (.invokestatic 126, 3) := by decide +kernel
theorem dJ2_compress_39247_33 : decode cJ2_compress_39247 33 = .ok (.astore 5, 2) := by decide +kernel
theorem dJ2_compress_39247_35 : decode cJ2_compress_39247 35 = .ok (.aload 5, 2) := by decide +kernel
theorem dJ2_compress_39247_37 : decode cJ2_compress_39247 37 = .ok (.iload 4, 2) := by decide +kernel
theorem dJ2_compress_39247_39 : decode cJ2_compress_39247 39 = .ok (.invokestatic 71, 3) := by decide +kernel
theorem dJ2_compress_39247_42 : decode cJ2_compress_39247 42 = .ok (.sipush 255, 3) := by decide +kernel
theorem dJ2_compress_39247_45 : decode cJ2_compress_39247 45 = .ok (.if_icmp .gt 16, 3) := by decide +kernel
theorem dJ2_compress_39247_48 : decode cJ2_compress_39247 48 = .ok (.aload 5, 2) := by decide +kernel
theorem dJ2_compress_39247_50 : decode cJ2_compress_39247 50 = .ok (.iconst 0, 1) := by decide +kernel
theorem dJ2_compress_39247_51 : decode cJ2_compress_39247 51 = .ok (.aload_n 3, 1) := by decide +kernel
theorem dJ2_compress_39247_52 : decode cJ2_compress_39247 52 = .ok (.iconst 0, 1) := by decide +kernel
theorem dJ2_compress_39247_53 : decode cJ2_compress_39247 53 = .ok (.iload_n 2, 1) := by decide +kernel
theorem dJ2_compress_39247_54 : decode cJ2_compress_39247 54 = .ok (.invokestatic 123, 3) := by decide +kernel
theorem dJ2_compress_39247_57 : decode cJ2_compress_39247 57 = .ok (.iload_n 2, 1) := by decide +kernel
theorem dJ2_compress_39247_58 : decode cJ2_compress_39247 58 = .ok (.if_icmp .eq 6, 3) := by decide +kernel
theorem dJ2_compress_39247_61 : decode cJ2_compress_39247 61 = .ok (.aload 5, 2) := by decide +kernel
theorem dJ2_compress_39247_63 : decode cJ2_compress_39247 63 = .ok (.areturn, 1) := by decide +kernel
theorem dJ2_compress_39247_64 : decode cJ2_compress_39247 64 = .ok (.aload_n 3, 1) := by decide +kernel
theorem dJ2_compress_39247_65 : decode cJ2_compress_39247 65 = .ok (.areturn, 1) := by decide +kernel
theorem dJ2_compress_5af95_0 : decode cJ2_compress_5af95 0 = .ok (.iload_n 1, 1) := by decide +kernel
theorem dJ2_compress_5af95_1 : decode cJ2_compress_5af95 1 = .ok (.iload 4, 2) := by decide +kernel
theorem dJ2_compress_5af95_3 : decode cJ2_compress_5af95 3 = .ok (.aload_n 0, 1) := by decide +kernel
theorem dJ2_compress_5af95_4 : decode cJ2_compress_5af95 4 = .ok (.invokestatic 173, 3) := by decide +kernel
theorem dJ2_compress_5af95_7 : decode cJ2_compress_5af95 7 = .ok (.iconst 0, 1) := by decide +kernel
theorem dJ2_compress_5af95_8 : decode cJ2_compress_5af95 8 = .ok (.istore 5, 2) := by decide +kernel
theorem dJ2_compress_5af95_10 : decode cJ2_compress_5af95 10 = .ok (.iload 5, 2) := by decide +kernel
theorem dJ2_compress_5af95_12 : decode cJ2_compress_5af95 12 = .ok (.iload 4, 2) := by decide +kernel
theorem dJ2_compress_5af95_14 : decode cJ2_compress_5af95 14 = .ok (.if_icmp .ge 39, 3) := by decide +kernel
theorem dJ2_compress_5af95_17 : decode cJ2_compress_5af95 17 = .ok (.aload_n 0, 1) := by decide +kernel
theorem dJ2_compress_5af95_18 : decode cJ2_compress_5af95 18 = .ok (.iload_n 1, 1) := by decide +kernel
theorem dJ2_compress_5af95_19 : decode cJ2_compress_5af95 19 = .ok (.invokestatic 71, 3) := by decide +kernel
theorem dJ2_compress_5af95_22 : decode cJ2_compress_5af95 22 = .ok (.istore 6, 2) := by decide +kernel
theorem dJ2_compress_5af95_24 : decode cJ2_compress_5af95 24 = .ok (.iload 6, 2) := by decide +kernel
theorem dJ2_compress_5af95_26 : decode cJ2_compress_5af95 26 = .ok (.sipush 255, 3) := by decide +kernel
theorem dJ2_compress_5af95_29 : decode cJ2_compress_5af95 29 = .ok (.if_icmp .le 6, 3) := by decide +kernel
theorem dJ2_compress_5af95_32 : decode cJ2_compress_5af95 32 = .ok (.iload 5, 2) := by decide +kernel
theorem dJ2_compress_5af95_34 : decode cJ2_compress_5af95 34 = .ok (.ireturn, 1) := by decide +kernel
theorem dJ2_compress_5af95_35 : decode cJ2_compress_5af95 35 = .ok (.aload_n 2, 1) := by decide +kernel
theorem dJ2_compress_5af95_36 : decode cJ2_compress_5af95 36 = .ok (.iload_n 3, 1) := by decide +kernel
theorem dJ2_compress_5af95_37 : decode cJ2_compress_5af95 37 = .ok (.iload 6, 2) := by decide +kernel
theorem dJ2_compress_5af95_39 : decode cJ2_compress_5af95 39 = .ok (.i2b, 1) := by decide +kernel
theorem dJ2_compress_5af95_40 : decode cJ2_compress_5af95 40 = .ok (.bastore, 1) := by decide +kernel
theorem dJ2_compress_5af95_41 : decode cJ2_compress_5af95 41 = .ok (.iinc 1 1, 3) := by decide +kernel
theorem dJ2_compress_5af95_44 : decode cJ2_compress_5af95 44 = .ok (.iinc 3 1, 3) := by decide +kernel
theorem dJ2_compress_5af95_47 : decode cJ2_compress_5af95 47 = .ok (.iinc 5 1, 3) := by decide +kernel
theorem dJ2_compress_5af95_50 : decode cJ2_compress_5af95 50 = .ok (.goto (-40), 3) := by decide +kernel
theorem dJ2_compress_5af95_53 : decode cJ2_compress_5af95 53 = .ok (.iload 4, 2) := by decide +kernel
theorem dJ2_compress_5af95_55 : decode cJ2_compress_5af95 55 = .ok (.ireturn, 1) := by decide +kernel
theorem dJ2_indexOf_4cfef_0 : decode cJ2_indexOf_4cfef 0 = .ok (.iload_n 2, 1) := by decide +kernel
theorem dJ2_indexOf_4cfef_1 : decode cJ2_indexOf_4cfef 1 = .ok (.iconst 0, 1) := by decide +kernel
theorem dJ2_indexOf_4cfef_2 : decode cJ2_indexOf_4cfef 2 = .ok (.invokestatic 224, 3) := by decide +kernel
theorem dJ2_indexOf_4cfef_5 : decode cJ2_indexOf_4cfef 5 = .ok (.istore_n 2, 1) := by decide +kernel
theorem dJ2_indexOf_4cfef_6 : decode cJ2_indexOf_4cfef 6 = .ok (.iload_n 3, 1) := by decide +kernel
theorem dJ2_indexOf_4cfef_7 : decode cJ2_indexOf_4cfef 7 = .ok (.aload_n 0, 1) := by decide +kernel
theorem dJ2_indexOf_4cfef_8 : decode cJ2_indexOf_4cfef 8 = .ok (.arraylength, 1) := by decide +kernel
theorem dJ2_indexOf_4cfef_9 : decode cJ2_indexOf_4cfef 9 = .ok (.iconst 1, 1) := by decide +kernel
theorem dJ2_indexOf_4cfef_10 : decode cJ2_indexOf_4cfef 10 = .ok (.ishr, 1) := by decide +kernel
theorem dJ2_indexOf_4cfef_11 : decode cJ2_indexOf_4cfef 11 = .ok (.invokestatic 183, 3) := by decide +kernel
theorem dJ2_indexOf_4cfef_14 : decode cJ2_indexOf_4cfef 14 = .ok (.istore_n 3, 1) := by decide +kernel
theorem dJ2_indexOf_4cfef_15 : decode cJ2_indexOf_4cfef 15 = .ok (.iload_n 2, 1) := by decide +kernel
theorem dJ2_indexOf_4cfef_16 : decode cJ2_indexOf_4cfef 16 = .ok (.iload_n 3, 1) := by decide +kernel
theorem dJ2_indexOf_4cfef_17 : decode cJ2_indexOf_4cfef 17 = .ok (.if_icmp .lt 5, 3) := by decide +kernel
theorem dJ2_indexOf_4cfef_20 : decode cJ2_indexOf_4cfef 20 = .ok (.iconst (-1), 1) := by decide +kernel
theorem dJ2_indexOf_4cfef_21 : decode cJ2_indexOf_4cfef 21 = .ok (.ireturn, 1) := by decide +kernel
theorem dJ2_indexOf_4cfef_22 : decode cJ2_indexOf_4cfef 22 = .ok (.iload_n 1, 1) := by decide +kernel
theorem dJ2_indexOf_4cfef_23 : decode cJ2_indexOf_4cfef 23 = .ok (.ldc 227, 2) := by decide +kernel
theorem dJ2_indexOf_4cfef_25 : decode cJ2_indexOf_4cfef 25 = .ok (.if_icmp .ge 11, 3) := by decide +kernel
theorem dJ2_indexOf_4cfef_28 : decode cJ2_indexOf_4cfef 28 = .ok (.aload_n 0, 1) := by decide +kernel
theorem dJ2_indexOf_4cfef_29 : decode cJ2_indexOf_4cfef 29 = .ok (.iload_n 1, 1) := by decide +kernel
theorem dJ2_indexOf_4cfef_30 : decode cJ2_indexOf_4cfef 30 = .ok (.iload_n 2, 1) := by decide +kernel
theorem dJ2_indexOf_4cfef_31 : decode cJ2_indexOf_4cfef 31 = .ok (.iload_n 3, 1) := by decide +kernel
theorem dJ2_indexOf_4cfef_32 : decode cJ2_indexOf_4cfef 32 = .ok (.invokestatic 228, 3) := by decide +kernel
theorem dJ2_indexOf_4cfef_35 : decode cJ2_indexOf_4cfef 35 = .ok (.ireturn, 1) := by decide +kernel
theorem dJ2_indexOf_4cfef_36 : decode cJ2_indexOf_4cfef 36 = .ok (.aload_n 0, 1) := by decide +kernel
theorem dJ2_indexOf_4cfef_37 : decode cJ2_indexOf_4cfef 37 = .ok (.iload_n 1, 1) := by decide +kernel
theorem dJ2_indexOf_4cfef_38 : decode cJ2_indexOf_4cfef 38 = .ok (.iload_n 2, 1) := by decide +kernel
theorem dJ2_indexOf_4cfef_39 : decode cJ2_indexOf_4cfef 39 = .ok (.iload_n 3, 1) := by decide +kernel
theorem dJ2_indexOf_4cfef_40 : decode cJ2_indexOf_4cfef 40 = .ok (.invokestatic 232, 3) := by decide +kernel
theorem dJ2_indexOf_4cfef_43 : decode cJ2_indexOf_4cfef 43 = .ok (.ireturn, 1) := by decide +kernel
theorem dJ2_indexOfChar_4cfef_0 : decode cJ2_indexOfChar_4cfef 0 = .ok (.iload_n 2, 1) := by decide +kernel
theorem dJ2_indexOfChar_4cfef_1 : decode cJ2_indexOfChar_4cfef 1 = .ok (.iload_n 3, 1) := by decide +kernel
theorem dJ2_indexOfChar_4cfef_2 : decode cJ2_indexOfChar_4cfef 2 = .ok (.aload_n 0, 1) := by decide +kernel
theorem dJ2_indexOfChar_4cfef_3 : decode cJ2_indexOfChar_4cfef 3 = .ok (.invokestatic 96, 3) := by decide +kernel
theorem dJ2_indexOfChar_4cfef_6 : decode cJ2_indexOfChar_4cfef 6 = .ok (.aload_n 0, 1) := by decide +kernel
theorem dJ2_indexOfChar_4cfef_7 : decode cJ2_indexOfChar_4cfef 7 = .ok (.iload_n 1, 1) := by decide +kernel
theorem dJ2_indexOfChar_4cfef_8 : decode cJ2_indexOfChar_4cfef 8 = .ok (.iload_n 2, 1) := by decide +kernel
theorem dJ2_indexOfChar_4cfef_9 : decode cJ2_indexOfChar_4cfef 9 = .ok (.iload_n 3, 1) := by decide +kernel
theorem dJ2_indexOfChar_4cfef_10 : decode cJ2_indexOfChar_4cfef 10 = .ok (.invokestatic 244, 3) := by decide +kernel
theorem dJ2_indexOfChar_4cfef_13 : decode cJ2_indexOfChar_4cfef 13 = .ok (.ireturn, 1) := by decide +kernel
theorem dJ2_indexOfCharUnsafe_4cfef_0 : decode cJ2_indexOfCharUnsafe_4cfef 0 = .ok (.iload_n 2, 1) := by decide +kernel
theorem dJ2_indexOfCharUnsafe_4cfef_1 : decode cJ2_indexOfCharUnsafe_4cfef 1 = .ok (.istore 4, 2) := by decide +kernel
theorem dJ2_indexOfCharUnsafe_4cfef_3 : decode cJ2_indexOfCharUnsafe_4cfef 3 = .ok (.iload 4, 2) := by decide +kernel
theorem dJ2_indexOfCharUnsafe_4cfef_5 : decode cJ2_indexOfCharUnsafe_4cfef 5 = .ok (.iload_n 3, 1) := by decide +kernel
theorem dJ2_indexOfCharUnsafe_4cfef_6 : decode cJ2_indexOfCharUnsafe_4cfef 6 = .ok (.if_icmp .ge 22, 3) := by decide +kernel
theorem dJ2_indexOfCharUnsafe_4cfef_9 : decode cJ2_indexOfCharUnsafe_4cfef 9 = .ok (.aload_n 0, 1) := by decide +kernel
theorem dJ2_indexOfCharUnsafe_4cfef_10 : decode cJ2_indexOfCharUnsafe_4cfef 10 = .ok (.iload 4, 2) := by decide +kernel
theorem dJ2_indexOfCharUnsafe_4cfef_12 : decode cJ2_indexOfCharUnsafe_4cfef 12 = .ok (.invokestatic 71, 3) := by decide +kernel
theorem dJ2_indexOfCharUnsafe_4cfef_15 : decode cJ2_indexOfCharUnsafe_4cfef 15 = .ok (.iload_n 1, 1) := by decide +kernel
theorem dJ2_indexOfCharUnsafe_4cfef_16 : decode cJ2_indexOfCharUnsafe_4cfef 16 = .ok (.if_icmp .ne 6, 3) := by decide +kernel
theorem dJ2_indexOfCharUnsafe_4cfef_19 : decode cJ2_indexOfCharUnsafe_4cfef 19 = .ok (.iload 4, 2) := by decide +kernel
theorem dJ2_indexOfCharUnsafe_4cfef_21 : decode cJ2_indexOfCharUnsafe_4cfef 21 = .ok (.ireturn, 1) := by decide +kernel
theorem dJ2_indexOfCharUnsafe_4cfef_22 : decode cJ2_indexOfCharUnsafe_4cfef 22 = .ok (.iinc 4 1, 3) := by decide +kernel
theorem dJ2_indexOfCharUnsafe_4cfef_25 : decode cJ2_indexOfCharUnsafe_4cfef 25 = .ok (.goto (-22), 3) := by decide +kernel
theorem dJ2_indexOfCharUnsafe_4cfef_28 : decode cJ2_indexOfCharUnsafe_4cfef 28 = .ok (.iconst (-1), 1) := by decide +kernel
theorem dJ2_indexOfCharUnsafe_4cfef_29 : decode cJ2_indexOfCharUnsafe_4cfef 29 = .ok (.ireturn, 1) := by decide +kernel
theorem dJ2_indexOfSupplementary_4cfef_0 : decode cJ2_indexOfSupplementary_4cfef 0 = .ok (.iload_n 1, 1) := by decide +kernel
theorem dJ2_indexOfSupplementary_4cfef_1 : decode cJ2_indexOfSupplementary_4cfef 1 = .ok (.invokestatic 164, 3) := by decide +kernel
theorem dJ2_indexOfSupplementary_4cfef_4 : decode cJ2_indexOfSupplementary_4cfef 4 = .ok (.ifCond .eq 65, 3) := by decide +kernel
theorem dJ2_indexOfSupplementary_4cfef_7 : decode cJ2_indexOfSupplementary_4cfef 7 = .ok (.iload_n 1, 1) := by decide +kernel
theorem dJ2_indexOfSupplementary_4cfef_8 : decode cJ2_indexOfSupplementary_4cfef 8 = .ok (.invokestatic 157, 3) := by decide +kernel
theorem dJ2_indexOfSupplementary_4cfef_11 : decode cJ2_indexOfSupplementary_4cfef 11 = .ok (.istore 4, 2) := by decide +kernel
theorem dJ2_indexOfSupplementary_4cfef_13 : decode cJ2_indexOfSupplementary_4cfef 13 = .ok (.iload_n 1, 1) := by decide +kernel
theorem dJ2_indexOfSupplementary_4cfef_14 : decode cJ2_indexOfSupplementary_4cfef 14 = .ok (.invokestatic 161, 3) := by decide +kernel
theorem dJ2_indexOfSupplementary_4cfef_17 : decode cJ2_indexOfSupplementary_4cfef 17 = .ok (.istore 5, 2) := by decide +kernel
theorem dJ2_indexOfSupplementary_4cfef_19 : decode cJ2_indexOfSupplementary_4cfef 19 = .ok (.iload_n 2, 1) := by decide +kernel
theorem dJ2_indexOfSupplementary_4cfef_20 : decode cJ2_indexOfSupplementary_4cfef 20 = .ok (.iload_n 3, 1) := by decide +kernel
theorem dJ2_indexOfSupplementary_4cfef_21 : decode cJ2_indexOfSupplementary_4cfef 21 = .ok (.aload_n 0, 1) := by decide +kernel
theorem dJ2_indexOfSupplementary_4cfef_22 : decode cJ2_indexOfSupplementary_4cfef 22 = .ok (.invokestatic 96, 3) := by decide +kernel
theorem dJ2_indexOfSupplementary_4cfef_25 : decode cJ2_indexOfSupplementary_4cfef 25 = .ok (.iload_n 2, 1) := by decide +kernel
theorem dJ2_indexOfSupplementary_4cfef_26 : decode cJ2_indexOfSupplementary_4cfef 26 = .ok (.istore 6, 2) := by decide +kernel
theorem dJ2_indexOfSupplementary_4cfef_28 : decode cJ2_indexOfSupplementary_4cfef 28 = .ok (.iload 6, 2) := by decide +kernel
theorem dJ2_indexOfSupplementary_4cfef_30 : decode cJ2_indexOfSupplementary_4cfef 30 = .ok (.iload_n 3, 1) := by decide +kernel
theorem dJ2_indexOfSupplementary_4cfef_31 : decode cJ2_indexOfSupplementary_4cfef 31 = .ok (.iconst 1, 1) := by decide +kernel
theorem dJ2_indexOfSupplementary_4cfef_32 : decode cJ2_indexOfSupplementary_4cfef 32 = .ok (.isub, 1) := by decide +kernel
theorem dJ2_indexOfSupplementary_4cfef_33 : decode cJ2_indexOfSupplementary_4cfef 33 = .ok (.if_icmp .ge 36, 3) := by decide +kernel
theorem dJ2_indexOfSupplementary_4cfef_36 : decode cJ2_indexOfSupplementary_4cfef 36 = .ok (.aload_n 0, 1) := by decide +kernel
theorem dJ2_indexOfSupplementary_4cfef_37 : decode cJ2_indexOfSupplementary_4cfef 37 = .ok (.iload 6, 2) := by decide +kernel
theorem dJ2_indexOfSupplementary_4cfef_39 : decode cJ2_indexOfSupplementary_4cfef 39 = .ok (.invokestatic 71, 3) := by decide +kernel
theorem dJ2_indexOfSupplementary_4cfef_42 : decode cJ2_indexOfSupplementary_4cfef 42 = .ok (.iload 4, 2) := by decide +kernel
theorem dJ2_indexOfSupplementary_4cfef_44 : decode cJ2_indexOfSupplementary_4cfef 44 = .ok (.if_icmp .ne 19, 3) := by decide +kernel
theorem dJ2_indexOfSupplementary_4cfef_47 : decode cJ2_indexOfSupplementary_4cfef 47 = .ok (.aload_n 0, 1) := by decide +kernel
theorem dJ2_indexOfSupplementary_4cfef_48 : decode cJ2_indexOfSupplementary_4cfef 48 = .ok (.iload 6, 2) := by decide +kernel
theorem dJ2_indexOfSupplementary_4cfef_50 : decode cJ2_indexOfSupplementary_4cfef 50 = .ok (.iconst 1, 1) := by decide +kernel
theorem dJ2_indexOfSupplementary_4cfef_51 : decode cJ2_indexOfSupplementary_4cfef 51 = .ok (.iadd, 1) := by decide +kernel
theorem dJ2_indexOfSupplementary_4cfef_52 : decode cJ2_indexOfSupplementary_4cfef 52 = .ok (.invokestatic 71, 3) := by decide +kernel
theorem dJ2_indexOfSupplementary_4cfef_55 : decode cJ2_indexOfSupplementary_4cfef 55 = .ok (.iload 5, 2) := by decide +kernel
theorem dJ2_indexOfSupplementary_4cfef_57 : decode cJ2_indexOfSupplementary_4cfef 57 = .ok (.if_icmp .ne 6, 3) := by decide +kernel
theorem dJ2_indexOfSupplementary_4cfef_60 : decode cJ2_indexOfSupplementary_4cfef 60 = .ok (.iload 6, 2) := by decide +kernel
theorem dJ2_indexOfSupplementary_4cfef_62 : decode cJ2_indexOfSupplementary_4cfef 62 = .ok (.ireturn, 1) := by decide +kernel
theorem dJ2_indexOfSupplementary_4cfef_63 : decode cJ2_indexOfSupplementary_4cfef 63 = .ok (.iinc 6 1, 3) := by decide +kernel
theorem dJ2_indexOfSupplementary_4cfef_66 : decode cJ2_indexOfSupplementary_4cfef 66 = .ok (.goto (-38), 3) := by decide +kernel
theorem dJ2_indexOfSupplementary_4cfef_69 : decode cJ2_indexOfSupplementary_4cfef 69 = .ok (.iconst (-1), 1) := by decide +kernel
theorem dJ2_indexOfSupplementary_4cfef_70 : decode cJ2_indexOfSupplementary_4cfef 70 = .ok (.ireturn, 1) := by decide +kernel
theorem dJ2_putCharSB_b72d1_0 : decode cJ2_putCharSB_b72d1 0 = .ok (.iload_n 1, 1) := by decide +kernel
theorem dJ2_putCharSB_b72d1_1 : decode cJ2_putCharSB_b72d1 1 = .ok (.aload_n 0, 1) := by decide +kernel
theorem dJ2_putCharSB_b72d1_2 : decode cJ2_putCharSB_b72d1 2 = .ok (.invokestatic 67, 3) := by decide +kernel
theorem dJ2_putCharSB_b72d1_5 : decode cJ2_putCharSB_b72d1 5 = .ok (.aload_n 0, 1) := by decide +kernel
theorem dJ2_putCharSB_b72d1_6 : decode cJ2_putCharSB_b72d1 6 = .ok (.iload_n 1, 1) := by decide +kernel
theorem dJ2_putCharSB_b72d1_7 : decode cJ2_putCharSB_b72d1 7 = .ok (.iload_n 2, 1) := by decide +kernel
theorem dJ2_putCharSB_b72d1_8 : decode cJ2_putCharSB_b72d1 8 = .ok (.invokestatic 111, 3) := by decide +kernel
theorem dJ2_putCharSB_b72d1_11 : decode cJ2_putCharSB_b72d1 11 = .ok (.return_, 1) := by decide +kernel
theorem dJ2_getChars_46870_0 : decode cJ2_getChars_46870 0 = .ok (.iload_n 1, 1) := by decide +kernel
theorem dJ2_getChars_46870_1 : decode cJ2_getChars_46870 1 = .ok (.iload_n 2, 1) := by decide +kernel
theorem dJ2_getChars_46870_2 : decode cJ2_getChars_46870 2 = .ok (.aload_n 3, 1) := by decide +kernel
theorem dJ2_getChars_46870_3 : decode cJ2_getChars_46870 3 = .ok (.invokestatic 96, 3) := by decide +kernel
theorem dJ2_getChars_46870_6 : decode cJ2_getChars_46870 6 = .ok (.iload_n 0, 1) := by decide +kernel
theorem dJ2_getChars_46870_7 : decode cJ2_getChars_46870 7 = .ok (.iload_n 2, 1) := by decide +kernel
theorem dJ2_getChars_46870_8 : decode cJ2_getChars_46870 8 = .ok (.aload_n 3, 1) := by decide +kernel
theorem dJ2_getChars_46870_9 : decode cJ2_getChars_46870 9 = .ok (.invokestatic 393, 3) := by decide +kernel
theorem dJ2_getChars_46870_12 : decode cJ2_getChars_46870 12 = .ok (.istore 4, 2) := by decide +kernel
theorem dJ2_getChars_46870_14 : decode cJ2_getChars_46870 14 = .ok (.getstatic 44, 3) := by decide +kernel
theorem dJ2_getChars_46870_17 : decode cJ2_getChars_46870 17 = .ok (.ifCond .ne 17, 3) := by decide +kernel
theorem dJ2_getChars_46870_20 : decode cJ2_getChars_46870 20 = .ok (.iload_n 1, 1) := by decide +kernel
theorem dJ2_getChars_46870_21 : decode cJ2_getChars_46870 21 = .ok (.iload 4, 2) := by decide +kernel
theorem dJ2_getChars_46870_23 : decode cJ2_getChars_46870 23 = .ok (.if_icmp .eq 11, 3) := by decide +kernel
theorem dJ2_getChars_46870_26 : decode cJ2_getChars_46870 26 = .ok (.new 52, 3) := by decide +kernel
theorem dJ2_getChars_46870_29 : decode cJ2_getChars_46870 29 = .ok (.dup, 1) := by decide +kernel
theorem dJ2_getChars_46870_30 : decode cJ2_getChars_46870 30 = .ok (.invokespecial 66, 3) := by decide +kernel
theorem dJ2_getChars_46870_33 : decode cJ2_getChars_46870 33 = .ok (.athrow, 1) := by decide +kernel
theorem dJ2_getChars_46870_34 : decode cJ2_getChars_46870 34 = .ok (.iload 4, 2) := by decide +kernel
theorem dJ2_getChars_46870_36 : decode cJ2_getChars_46870 36 = .ok (.ireturn, 1) := by decide +kernel
theorem dJ2_putCharsAt_cd4e5_0 : decode cJ2_putCharsAt_cd4e5 0 = .ok (.iload_n 1, 1) := by decide +kernel
theorem dJ2_putCharsAt_cd4e5_1 : decode cJ2_putCharsAt_cd4e5 1 = .ok (.iconst 4, 1) := by decide +kernel
theorem dJ2_putCharsAt_cd4e5_2 : decode cJ2_putCharsAt_cd4e5 2 = .ok (.iadd, 1) := by decide +kernel
theorem dJ2_putCharsAt_cd4e5_3 : decode cJ2_putCharsAt_cd4e5 3 = .ok (.istore 6, 2) := by decide +kernel
theorem dJ2_putCharsAt_cd4e5_5 : decode cJ2_putCharsAt_cd4e5 5 = .ok (.iload_n 1, 1) := by decide +kernel
theorem dJ2_putCharsAt_cd4e5_6 : decode cJ2_putCharsAt_cd4e5 6 = .ok (.iload 6, 2) := by decide +kernel
theorem dJ2_putCharsAt_cd4e5_8 : decode cJ2_putCharsAt_cd4e5 8 = .ok (.aload_n 0, 1) := by decide +kernel
theorem dJ2_putCharsAt_cd4e5_9 : decode cJ2_putCharsAt_cd4e5 9 = .ok (.invokestatic 96, 3) := by decide +kernel
theorem dJ2_putCharsAt_cd4e5_12 : decode cJ2_putCharsAt_cd4e5 12 = .ok (.aload_n 0, 1) := by decide +kernel
theorem dJ2_putCharsAt_cd4e5_13 : decode cJ2_putCharsAt_cd4e5 13 = .ok (.iload_n 1, 1) := by decide +kernel
theorem dJ2_putCharsAt_cd4e5_14 : decode cJ2_putCharsAt_cd4e5 14 = .ok (.iinc 1 1, 3) := by decide +kernel
theorem dJ2_putCharsAt_cd4e5_17 : decode cJ2_putCharsAt_cd4e5 17 = .ok (.iload_n 2, 1) := by decide +kernel
theorem dJ2_putCharsAt_cd4e5_18 : decode cJ2_putCharsAt_cd4e5 18 = .ok (.invokestatic 111, 3) := by decide +kernel
theorem dJ2_putCharsAt_cd4e5_21 : decode cJ2_putCharsAt_cd4e5 21 = .ok (.aload_n 0, 1) := by decide +kernel
theorem dJ2_putCharsAt_cd4e5_22 : decode cJ2_putCharsAt_cd4e5 22 = .ok (.iload_n 1, 1) := by decide +kernel
theorem dJ2_putCharsAt_cd4e5_23 : decode cJ2_putCharsAt_cd4e5 23 = .ok (.iinc 1 1, 3) := by decide +kernel
theorem dJ2_putCharsAt_cd4e5_26 : decode cJ2_putCharsAt_cd4e5 26 = .ok (.iload_n 3, 1) := by decide +kernel
theorem dJ2_putCharsAt_cd4e5_27 : decode cJ2_putCharsAt_cd4e5 27 = .ok (.invokestatic 111, 3) := by decide +kernel
theorem dJ2_putCharsAt_cd4e5_30 : decode cJ2_putCharsAt_cd4e5 30 = .ok (.aload_n 0, 1) := by decide +kernel
theorem dJ2_putCharsAt_cd4e5_31 : decode cJ2_putCharsAt_cd4e5 31 = .ok (.iload_n 1, 1) := by decide +kernel
theorem dJ2_putCharsAt_cd4e5_32 : decode cJ2_putCharsAt_cd4e5 32 = .ok (.iinc 1 1, 3) := by decide +kernel
theorem dJ2_putCharsAt_cd4e5_35 : decode cJ2_putCharsAt_cd4e5 35 = .ok (.iload 4, 2) := by decide +kernel
theorem dJ2_putCharsAt_cd4e5_37 : decode cJ2_putCharsAt_cd4e5 37 = .ok (.invokestatic 111, 3) := by decide +kernel
theorem dJ2_putCharsAt_cd4e5_40 : decode cJ2_putCharsAt_cd4e5 40 = .ok (.aload_n 0, 1) := by decide +kernel
theorem dJ2_putCharsAt_cd4e5_41 : decode cJ2_putCharsAt_cd4e5 41 = .ok (.iload_n 1, 1) := by decide +kernel
theorem dJ2_putCharsAt_cd4e5_42 : decode cJ2_putCharsAt_cd4e5 42 = .ok (.iinc 1 1, 3) := by decide +kernel
theorem dJ2_putCharsAt_cd4e5_45 : decode cJ2_putCharsAt_cd4e5 45 = .ok (.iload 5, 2) := by decide +kernel
theorem dJ2_putCharsAt_cd4e5_47 : decode cJ2_putCharsAt_cd4e5 47 = .ok (.invokestatic 111, 3) := by decide +kernel
theorem dJ2_putCharsAt_cd4e5_50 : decode cJ2_putCharsAt_cd4e5 50 = .ok (.getstatic 44, 3) := by decide +kernel
theorem dJ2_putCharsAt_cd4e5_53 : decode cJ2_putCharsAt_cd4e5 53 = .ok (.ifCond .ne 17, 3) := by decide +kernel
theorem dJ2_putCharsAt_cd4e5_56 : decode cJ2_putCharsAt_cd4e5 56 = .ok (.iload_n 1, 1) := by decide +kernel
theorem dJ2_putCharsAt_cd4e5_57 : decode cJ2_putCharsAt_cd4e5 57 = .ok (.iload 6, 2) := by decide +kernel
theorem dJ2_putCharsAt_cd4e5_59 : decode cJ2_putCharsAt_cd4e5 59 = .ok (.if_icmp .eq 11, 3) := by decide +kernel
theorem dJ2_putCharsAt_cd4e5_62 : decode cJ2_putCharsAt_cd4e5 62 = .ok (.new 52, 3) := by decide +kernel
theorem dJ2_putCharsAt_cd4e5_65 : decode cJ2_putCharsAt_cd4e5 65 = .ok (.dup, 1) := by decide +kernel
theorem dJ2_putCharsAt_cd4e5_66 : decode cJ2_putCharsAt_cd4e5 66 = .ok (.invokespecial 66, 3) := by decide +kernel
theorem dJ2_putCharsAt_cd4e5_69 : decode cJ2_putCharsAt_cd4e5 69 = .ok (.athrow, 1) := by decide +kernel
theorem dJ2_putCharsAt_cd4e5_70 : decode cJ2_putCharsAt_cd4e5 70 = .ok (.iload 6, 2) := by decide +kernel
theorem dJ2_putCharsAt_cd4e5_72 : decode cJ2_putCharsAt_cd4e5 72 = .ok (.ireturn, 1) := by decide +kernel
theorem dJ2_charAt_3b067_0 : decode cJ2_charAt_3b067 0 = .ok (.iload_n 1, 1) := by decide +kernel
theorem dJ2_charAt_3b067_1 : decode cJ2_charAt_3b067 1 = .ok (.aload_n 0, 1) := by decide +kernel
theorem dJ2_charAt_3b067_2 : decode cJ2_charAt_3b067 2 = .ok (.invokestatic 67, 3) := by decide +kernel
theorem dJ2_charAt_3b067_5 : decode cJ2_charAt_3b067 5 = .ok (.aload_n 0, 1) := by decide +kernel
theorem dJ2_charAt_3b067_6 : decode cJ2_charAt_3b067 6 = .ok (.iload_n 1, 1) := by decide +kernel
theorem dJ2_charAt_3b067_7 : decode cJ2_charAt_3b067 7 = .ok (.invokestatic 71, 3) := by decide +kernel
theorem dJ2_charAt_3b067_10 : decode cJ2_charAt_3b067 10 = .ok (.ireturn, 1) := by decide +kernel
theorem dJ2_inflate_0e8fd_0 : decode cJ2_inflate_0e8fd 0 = .ok (.iload_n 3, 1) := by decide +kernel
theorem dJ2_inflate_0e8fd_1 : decode cJ2_inflate_0e8fd 1 = .ok (.iload 4, 2) := by decide +kernel
theorem dJ2_inflate_0e8fd_3 : decode cJ2_inflate_0e8fd 3 = .ok (.aload_n 2, 1) := by decide +kernel
theorem dJ2_inflate_0e8fd_4 : decode cJ2_inflate_0e8fd 4 = .ok (.invokestatic 173, 3) := by decide +kernel
theorem dJ2_inflate_0e8fd_7 : decode cJ2_inflate_0e8fd 7 = .ok (.iconst 0, 1) := by decide +kernel
theorem dJ2_inflate_0e8fd_8 : decode cJ2_inflate_0e8fd 8 = .ok (.istore 5, 2) := by decide +kernel
theorem dJ2_inflate_0e8fd_10 : decode cJ2_inflate_0e8fd 10 = .ok (.iload 5, 2) := by decide +kernel
theorem dJ2_inflate_0e8fd_12 : decode cJ2_inflate_0e8fd 12 = .ok (.iload 4, 2) := by decide +kernel
theorem dJ2_inflate_0e8fd_14 : decode cJ2_inflate_0e8fd 14 = .ok (.if_icmp .ge 27, 3) := by decide +kernel
theorem dJ2_inflate_0e8fd_17 : decode cJ2_inflate_0e8fd 17 = .ok (.aload_n 2, 1) := by decide +kernel
theorem dJ2_inflate_0e8fd_18 : decode cJ2_inflate_0e8fd 18 = .ok (.iload_n 3, 1) := by decide +kernel
theorem dJ2_inflate_0e8fd_19 : decode cJ2_inflate_0e8fd 19 = .ok (.iinc 3 1, 3) := by decide +kernel
theorem dJ2_inflate_0e8fd_22 : decode cJ2_inflate_0e8fd 22 = .ok (.aload_n 0, 1) := by decide +kernel
theorem dJ2_inflate_0e8fd_23 : decode cJ2_inflate_0e8fd 23 = .ok (.iload_n 1, 1) := by decide +kernel
theorem dJ2_inflate_0e8fd_24 : decode cJ2_inflate_0e8fd 24 = .ok (.iinc 1 1, 3) := by decide +kernel
theorem dJ2_inflate_0e8fd_27 : decode cJ2_inflate_0e8fd 27 = .ok (.baload, 1) := by decide +kernel
theorem dJ2_inflate_0e8fd_28 : decode cJ2_inflate_0e8fd 28 = .ok (.sipush 255, 3) := by decide +kernel
theorem dJ2_inflate_0e8fd_31 : decode cJ2_inflate_0e8fd 31 = .ok (.iand, 1) := by decide +kernel
theorem dJ2_inflate_0e8fd_32 : decode cJ2_inflate_0e8fd 32 = .ok (.invokestatic 111, 3) := by decide +kernel
theorem dJ2_inflate_0e8fd_35 : decode cJ2_inflate_0e8fd 35 = .ok (.iinc 5 1, 3) := by decide +kernel
theorem dJ2_inflate_0e8fd_38 : decode cJ2_inflate_0e8fd 38 = .ok (.goto (-28), 3) := by decide +kernel
theorem dJ2_inflate_0e8fd_41 : decode cJ2_inflate_0e8fd 41 = .ok (.return_, 1) := by decide +kernel
theorem dJ2_getChars_ba4f3_0 : decode cJ2_getChars_ba4f3 0 = .ok (.iload_n 1, 1) := by decide +kernel
theorem dJ2_getChars_ba4f3_1 : decode cJ2_getChars_ba4f3 1 = .ok (.istore 5, 2) := by decide +kernel
theorem dJ2_getChars_ba4f3_3 : decode cJ2_getChars_ba4f3 3 = .ok (.iload_n 0, 1) := by decide +kernel
theorem dJ2_getChars_ba4f3_4 : decode cJ2_getChars_ba4f3 4 = .ok (.ifCond .ge 7, 3) := by decide +kernel
theorem dJ2_getChars_ba4f3_7 : decode cJ2_getChars_ba4f3 7 = .ok (.iconst 1, 1) := by decide +kernel
theorem dJ2_getChars_ba4f3_8 : decode cJ2_getChars_ba4f3 8 = .ok (.goto 4, 3) := by decide +kernel
theorem dJ2_getChars_ba4f3_11 : decode cJ2_getChars_ba4f3 11 = .ok (.iconst 0, 1) := by decide +kernel
theorem dJ2_getChars_ba4f3_12 : decode cJ2_getChars_ba4f3 12 = .ok (.istore 6, 2) := by decide +kernel
theorem dJ2_getChars_ba4f3_14 : decode cJ2_getChars_ba4f3 14 = .ok (.iload 6, 2) := by decide +kernel
theorem dJ2_getChars_ba4f3_16 : decode cJ2_getChars_ba4f3 16 = .ok (.ifCond .ne 6, 3) := by decide +kernel
theorem dJ2_getChars_ba4f3_19 : decode cJ2_getChars_ba4f3 19 = .ok (.iload_n 0, 1) := by decide +kernel
theorem dJ2_getChars_ba4f3_20 : decode cJ2_getChars_ba4f3 20 = .ok (.ineg, 1) := by decide +kernel
theorem dJ2_getChars_ba4f3_21 : decode cJ2_getChars_ba4f3 21 = .ok (.istore_n 0, 1) := by decide +kernel
theorem dJ2_getChars_ba4f3_22 : decode cJ2_getChars_ba4f3 22 = .ok (.iload_n 0, 1) := by decide +kernel
theorem dJ2_getChars_ba4f3_23 : decode cJ2_getChars_ba4f3 23 = .ok (.bipush (-100), 2) := by decide +kernel
theorem dJ2_getChars_ba4f3_25 : decode cJ2_getChars_ba4f3 25 = .ok (.if_icmp .gt 51, 3) := by decide +kernel
theorem dJ2_getChars_ba4f3_28 : decode cJ2_getChars_ba4f3 28 = .ok (.iload_n 0, 1) := by decide +kernel
theorem dJ2_getChars_ba4f3_29 : decode cJ2_getChars_ba4f3 29 = .ok (.bipush 100, 2) := by decide +kernel
theorem dJ2_getChars_ba4f3_31 : decode cJ2_getChars_ba4f3 31 = .ok (.idiv, 1) := by decide +kernel
theorem dJ2_getChars_ba4f3_32 : decode cJ2_getChars_ba4f3 32 = .ok (.istore_n 3, 1) := by decide +kernel
theorem dJ2_getChars_ba4f3_33 : decode cJ2_getChars_ba4f3 33 = .ok (.iload_n 3, 1) := by decide +kernel
theorem dJ2_getChars_ba4f3_34 : decode cJ2_getChars_ba4f3 34 = .ok (.bipush 100, 2) := by decide +kernel
theorem dJ2_getChars_ba4f3_36 : decode cJ2_getChars_ba4f3 36 = .ok (.imul, 1) := by decide +kernel
theorem dJ2_getChars_ba4f3_37 : decode cJ2_getChars_ba4f3 37 = .ok (.iload_n 0, 1) := by decide +kernel
theorem dJ2_getChars_ba4f3_38 : decode cJ2_getChars_ba4f3 38 = .ok (.isub, 1) := by decide +kernel
theorem dJ2_getChars_ba4f3_39 : decode cJ2_getChars_ba4f3 39 = .ok (.istore 4, 2) := by decide +kernel
theorem dJ2_getChars_ba4f3_41 : decode cJ2_getChars_ba4f3 41 = .ok (.iload_n 3, 1) := by decide +kernel
theorem dJ2_getChars_ba4f3_42 : decode cJ2_getChars_ba4f3 42 = .ok (.istore_n 0, 1) := by decide +kernel
theorem dJ2_getChars_ba4f3_43 : decode cJ2_getChars_ba4f3 43 = .ok (.aload_n 2, 1) := by decide +kernel
theorem dJ2_getChars_ba4f3_44 : decode cJ2_getChars_ba4f3 44 = .ok (.iinc 5 (-1), 3) := by decide +kernel
theorem dJ2_getChars_ba4f3_47 : decode cJ2_getChars_ba4f3 47 = .ok (.iload 5, 2) := by decide +kernel
theorem dJ2_getChars_ba4f3_49 : decode cJ2_getChars_ba4f3 49 = .ok (.getstatic 403, 3) := by decide +kernel
theorem dJ2_getChars_ba4f3_52 : decode cJ2_getChars_ba4f3 52 = .ok (.iload 4, 2) := by decide +kernel
theorem dJ2_getChars_ba4f3_54 : decode cJ2_getChars_ba4f3 54 = .ok (.baload, 1) := by decide +kernel
theorem dJ2_getChars_ba4f3_55 : decode cJ2_getChars_ba4f3 55 = .ok (.invokestatic 111, 3) := by decide +kernel
theorem dJ2_getChars_ba4f3_58 : decode cJ2_getChars_ba4f3 58 = .ok (.aload_n 2, 1) := by decide +kernel
theorem dJ2_getChars_ba4f3_59 : decode cJ2_getChars_ba4f3 59 = .ok (.iinc 5 (-1), 3) := by decide +kernel
theorem dJ2_getChars_ba4f3_62 : decode cJ2_getChars_ba4f3 62 = .ok (.iload 5, 2) := by decide +kernel
theorem dJ2_getChars_ba4f3_64 : decode cJ2_getChars_ba4f3 64 = .ok (.getstatic 407, 3) := by decide +kernel
theorem dJ2_getChars_ba4f3_67 : decode cJ2_getChars_ba4f3 67 = .ok (.iload 4, 2) := by decide +kernel
theorem dJ2_getChars_ba4f3_69 : decode cJ2_getChars_ba4f3 69 = .ok (.baload, 1) := by decide +kernel
theorem dJ2_getChars_ba4f3_70 : decode cJ2_getChars_ba4f3 70 = .ok (.invokestatic 111, 3) := by decide +kernel
theorem dJ2_getChars_ba4f3_73 : decode cJ2_getChars_ba4f3 73 = .ok (.goto (-51), 3) := by decide +kernel
theorem dJ2_getChars_ba4f3_76 : decode cJ2_getChars_ba4f3 76 = .ok (.aload_n 2, 1) := by decide +kernel
theorem dJ2_getChars_ba4f3_77 : decode cJ2_getChars_ba4f3 77 = .ok (.iinc 5 (-1), 3) := by decide +kernel
theorem dJ2_getChars_ba4f3_80 : decode cJ2_getChars_ba4f3 80 = .ok (.iload 5, 2) := by decide +kernel
theorem dJ2_getChars_ba4f3_82 : decode cJ2_getChars_ba4f3 82 = .ok (.getstatic 403, 3) := by decide +kernel
theorem dJ2_getChars_ba4f3_85 : decode cJ2_getChars_ba4f3 85 = .ok (.iload_n 0, 1) := by decide +kernel
theorem dJ2_getChars_ba4f3_86 : decode cJ2_getChars_ba4f3 86 = .ok (.ineg, 1) := by decide +kernel
theorem dJ2_getChars_ba4f3_87 : decode cJ2_getChars_ba4f3 87 = .ok (.baload, 1) := by decide +kernel
theorem dJ2_getChars_ba4f3_88 : decode cJ2_getChars_ba4f3 88 = .ok (.invokestatic 111, 3) := by decide +kernel
theorem dJ2_getChars_ba4f3_91 : decode cJ2_getChars_ba4f3 91 = .ok (.iload_n 0, 1) := by decide +kernel
theorem dJ2_getChars_ba4f3_92 : decode cJ2_getChars_ba4f3 92 = .ok (.bipush (-9), 2) := by decide +kernel
theorem dJ2_getChars_ba4f3_94 : decode cJ2_getChars_ba4f3 94 = .ok (.if_icmp .ge 18, 3) := by decide +kernel
theorem dJ2_getChars_ba4f3_97 : decode cJ2_getChars_ba4f3 97 = .ok (.aload_n 2, 1) := by decide +kernel
theorem dJ2_getChars_ba4f3_98 : decode cJ2_getChars_ba4f3 98 = .ok (.iinc 5 (-1), 3) := by decide +kernel
theorem dJ2_getChars_ba4f3_101 : decode cJ2_getChars_ba4f3 101 = .ok (.iload 5, 2) := by decide +kernel
theorem dJ2_getChars_ba4f3_103 : decode cJ2_getChars_ba4f3 103 = .ok (.getstatic 407, 3) := by decide +kernel
theorem dJ2_getChars_ba4f3_106 : decode cJ2_getChars_ba4f3 106 = .ok (.iload_n 0, 1) := by decide +kernel
theorem dJ2_getChars_ba4f3_107 : decode cJ2_getChars_ba4f3 107 = .ok (.ineg, 1) := by decide +kernel
theorem dJ2_getChars_ba4f3_108 : decode cJ2_getChars_ba4f3 108 = .ok (.baload, 1) := by decide +kernel
theorem dJ2_getChars_ba4f3_109 : decode cJ2_getChars_ba4f3 109 = .ok (.invokestatic 111, 3) := by decide +kernel
theorem dJ2_getChars_ba4f3_112 : decode cJ2_getChars_ba4f3 112 = .ok (.iload 6, 2) := by decide +kernel
theorem dJ2_getChars_ba4f3_114 : decode cJ2_getChars_ba4f3 114 = .ok (.ifCond .eq 14, 3) := by decide +kernel
theorem dJ2_getChars_ba4f3_117 : decode cJ2_getChars_ba4f3 117 = .ok (.aload_n 2, 1) := by decide +kernel
theorem dJ2_getChars_ba4f3_118 : decode cJ2_getChars_ba4f3 118 = .ok (.iinc 5 (-1), 3) := by decide +kernel
theorem dJ2_getChars_ba4f3_121 : decode cJ2_getChars_ba4f3 121 = .ok (.iload 5, 2) := by decide +kernel
theorem dJ2_getChars_ba4f3_123 : decode cJ2_getChars_ba4f3 123 = .ok (.bipush 45, 2) := by decide +kernel
theorem dJ2_getChars_ba4f3_125 : decode cJ2_getChars_ba4f3 125 = .ok (.invokestatic 111, 3) := by decide +kernel
theorem dJ2_getChars_ba4f3_128 : decode cJ2_getChars_ba4f3 128 = .ok (.iload 5, 2) := by decide +kernel
theorem dJ2_getChars_ba4f3_130 : decode cJ2_getChars_ba4f3 130 = .ok (.ireturn, 1) := by decide +kernel
theorem dJ2_checkIndex_2214a_0 : decode cJ2_checkIndex_2214a 0 = .ok (.iload_n 0, 1) := by decide +kernel
theorem dJ2_checkIndex_2214a_1 : decode cJ2_checkIndex_2214a 1 = .ok (.aload_n 1, 1) := by decide +kernel
theorem dJ2_checkIndex_2214a_2 : decode cJ2_checkIndex_2214a 2 = .ok (.invokestatic 48, 3) := by decide +kernel
theorem dJ2_checkIndex_2214a_5 : decode cJ2_checkIndex_2214a 5 = .ok (.invokestatic 414, 3) := by decide +kernel
theorem dJ2_checkIndex_2214a_8 : decode cJ2_checkIndex_2214a 8 = .ok (.return_, 1) := by decide +kernel
theorem dJ2_checkBoundsBeginEnd_d044e_0 : decode cJ2_checkBoundsBeginEnd_d044e 0 = .ok (.iload_n 0, 1) := by decide +kernel
theorem dJ2_checkBoundsBeginEnd_d044e_1 : decode cJ2_checkBoundsBeginEnd_d044e 1 = .ok (.iload_n 1, 1) := by decide +kernel
theorem dJ2_checkBoundsBeginEnd_d044e_2 : decode cJ2_checkBoundsBeginEnd_d044e 2 = .ok (.aload_n 2, 1) := by decide +kernel
theorem dJ2_checkBoundsBeginEnd_d044e_3 : decode cJ2_checkBoundsBeginEnd_d044e 3 = .ok (.invokestatic 48, 3) := by decide +kernel
theorem dJ2_checkBoundsBeginEnd_d044e_6 : decode cJ2_checkBoundsBeginEnd_d044e 6 = .ok (.invokestatic 241, 3) := by decide +kernel
theorem dJ2_checkBoundsBeginEnd_d044e_9 : decode cJ2_checkBoundsBeginEnd_d044e 9 = .ok (.return_, 1) := by decide +kernel
theorem dJ2_checkBoundsOffCount_d044e_0 : decode cJ2_checkBoundsOffCount_d044e 0 = .ok (.iload_n 0, 1) := by decide +kernel
theorem dJ2_checkBoundsOffCount_d044e_1 : decode cJ2_checkBoundsOffCount_d044e 1 = .ok (.iload_n 1, 1) := by decide +kernel
theorem dJ2_checkBoundsOffCount_d044e_2 : decode cJ2_checkBoundsOffCount_d044e 2 = .ok (.aload_n 2, 1) := by decide +kernel
theorem dJ2_checkBoundsOffCount_d044e_3 : decode cJ2_checkBoundsOffCount_d044e 3 = .ok (.invokestatic 48, 3) := by decide +kernel
theorem dJ2_checkBoundsOffCount_d044e_6 : decode cJ2_checkBoundsOffCount_d044e 6 = .ok (.invokestatic 419, 3) := by decide +kernel
theorem dJ2_checkBoundsOffCount_d044e_9 : decode cJ2_checkBoundsOffCount_d044e 9 = .ok (.pop, 1) := by decide +kernel
theorem dJ2_checkBoundsOffCount_d044e_10 : decode cJ2_checkBoundsOffCount_d044e 10 = .ok (.return_, 1) := by decide +kernel
theorem dJ7_fill_53178_0 : decode cJ7_fill_53178 0 = .ok (.iconst 0, 1) := by decide +kernel
theorem dJ7_fill_53178_1 : decode cJ7_fill_53178 1 = .ok (.istore_n 2, 1) := by decide +kernel
theorem dJ7_fill_53178_2 : decode cJ7_fill_53178 2 = .ok (.aload_n 0, 1) := by decide +kernel
theorem dJ7_fill_53178_3 : decode cJ7_fill_53178 3 = .ok (.arraylength, 1) := by decide +kernel
theorem dJ7_fill_53178_4 : decode cJ7_fill_53178 4 = .ok (.istore_n 3, 1) := by decide +kernel
theorem dJ7_fill_53178_5 : decode cJ7_fill_53178 5 = .ok (.iload_n 2, 1) := by decide +kernel
theorem dJ7_fill_53178_6 : decode cJ7_fill_53178 6 = .ok (.iload_n 3, 1) := by decide +kernel
theorem dJ7_fill_53178_7 : decode cJ7_fill_53178 7 = .ok (.if_icmp .ge 13, 3) := by decide +kernel
theorem dJ7_fill_53178_10 : decode cJ7_fill_53178 10 = .ok (.aload_n 0, 1) := by decide +kernel
theorem dJ7_fill_53178_11 : decode cJ7_fill_53178 11 = .ok (.iload_n 2, 1) := by decide +kernel
theorem dJ7_fill_53178_12 : decode cJ7_fill_53178 12 = .ok (.iload_n 1, 1) := by decide +kernel
theorem dJ7_fill_53178_13 : decode cJ7_fill_53178 13 = .ok (.iastore, 1) := by decide +kernel
theorem dJ7_fill_53178_14 : decode cJ7_fill_53178 14 = .ok (.iinc 2 1, 3) := by decide +kernel
theorem dJ7_fill_53178_17 : decode cJ7_fill_53178 17 = .ok (.goto (-12), 3) := by decide +kernel
theorem dJ7_fill_53178_20 : decode cJ7_fill_53178 20 = .ok (.return_, 1) := by decide +kernel
theorem dJ7_copyOf_9075b_0 : decode cJ7_copyOf_9075b 0 = .ok (.iload_n 1, 1) := by decide +kernel
theorem dJ7_copyOf_9075b_1 : decode cJ7_copyOf_9075b 1 = .ok (.aload_n 0, 1) := by decide +kernel
theorem dJ7_copyOf_9075b_2 : decode cJ7_copyOf_9075b 2 = .ok (.arraylength, 1) := by decide +kernel
theorem dJ7_copyOf_9075b_3 : decode cJ7_copyOf_9075b 3 = .ok (.if_icmp .ne 11, 3) := by decide +kernel
theorem dJ7_copyOf_9075b_6 : decode cJ7_copyOf_9075b 6 = .ok (.aload_n 0, 1) := by decide +kernel
theorem dJ7_copyOf_9075b_7 : decode cJ7_copyOf_9075b 7 = .ok (.invokevirtual 310, 3) := by decide +kernel
theorem dJ7_copyOf_9075b_10 : decode cJ7_copyOf_9075b 10 = .ok (.checkcast 311, 3) := by decide +kernel
theorem dJ7_copyOf_9075b_13 : decode cJ7_copyOf_9075b 13 = .ok (.areturn, 1) := by decide +kernel
theorem dJ7_copyOf_9075b_14 : decode cJ7_copyOf_9075b 14 = .ok (.iload_n 1, 1) := by decide +kernel
theorem dJ7_copyOf_9075b_15 : decode cJ7_copyOf_9075b 15 = .ok (.newarray .byte, 2) := by decide +kernel
theorem dJ7_copyOf_9075b_17 : decode cJ7_copyOf_9075b 17 = .ok (.astore_n 2, 1) := by decide +kernel
theorem dJ7_copyOf_9075b_18 : decode cJ7_copyOf_9075b 18 = .ok (.aload_n 0, 1) := by decide +kernel
theorem dJ7_copyOf_9075b_19 : decode cJ7_copyOf_9075b 19 = .ok (.iconst 0, 1) := by decide +kernel
theorem dJ7_copyOf_9075b_20 : decode cJ7_copyOf_9075b 20 = .ok (.aload_n 2, 1) := by decide +kernel
theorem dJ7_copyOf_9075b_21 : decode cJ7_copyOf_9075b 21 = .ok (.iconst 0, 1) := by decide +kernel
theorem dJ7_copyOf_9075b_22 : decode cJ7_copyOf_9075b 22 = .ok (.aload_n 0, 1) := by decide +kernel
theorem dJ7_copyOf_9075b_23 : decode cJ7_copyOf_9075b 23 = .ok (.arraylength, 1) := by decide +kernel
theorem dJ7_copyOf_9075b_24 : decode cJ7_copyOf_9075b 24 = .ok (.iload_n 1, 1) := by decide +kernel
theorem dJ7_copyOf_9075b_25 : decode cJ7_copyOf_9075b 25 = .ok (.invokestatic 304, 3) := by decide +kernel
theorem dJ7_copyOf_9075b_28 : decode cJ7_copyOf_9075b 28 = .ok (.invokestatic 150, 3) := by decide +kernel
theorem dJ7_copyOf_9075b_31 : decode cJ7_copyOf_9075b 31 = .ok (.aload_n 2, 1) := by decide +kernel
theorem dJ7_copyOf_9075b_32 : decode cJ7_copyOf_9075b 32 = .ok (.areturn, 1) := by decide +kernel
theorem dJ7_checkLength_df160_0 : decode cJ7_checkLength_df160 0 = .ok (.iload_n 1, 1) := by decide +kernel
theorem dJ7_checkLength_df160_1 : decode cJ7_checkLength_df160 1 = .ok (.iload_n 0, 1) := by decide +kernel
theorem dJ7_checkLength_df160_2 : decode cJ7_checkLength_df160 2 = .ok (.if_icmp .ge 35, 3) := by decide +kernel
theorem dJ7_checkLength_df160_5 : decode cJ7_checkLength_df160 5 = .ok (.new 43, 3) := by decide +kernel
theorem dJ7_checkLength_df160_8 : decode cJ7_checkLength_df160 8 = .ok (.dup, 1) := by decide +kernel
theorem dJ7_checkLength_df160_9 : decode cJ7_checkLength_df160 9 = .ok (.new 45, 3) := by decide +kernel
theorem dJ7_checkLength_df160_12 : decode cJ7_checkLength_df160 12 = .ok (.dup, 1) := by decide +kernel
theorem dJ7_checkLength_df160_13 : decode cJ7_checkLength_df160 13 = .ok (.invokespecial 47, 3) := by decide +kernel
theorem dJ7_checkLength_df160_16 : decode cJ7_checkLength_df160 16 = .ok (.iload_n 0, 1) := by decide +kernel
theorem dJ7_checkLength_df160_17 : decode cJ7_checkLength_df160 17 = .ok (.invokevirtual 54, 3) := by decide +kernel
theorem dJ7_checkLength_df160_20 : decode cJ7_checkLength_df160 20 = .ok (.ldc_w 337, 3) := by decide +kernel
theorem dJ7_checkLength_df160_23 : decode cJ7_checkLength_df160 23 = .ok (.invokevirtual 50, 3) := by decide +kernel
theorem dJ7_checkLength_df160_26 : decode cJ7_checkLength_df160 26 = .ok (.iload_n 1, 1) := by decide +kernel
theorem dJ7_checkLength_df160_27 : decode cJ7_checkLength_df160 27 = .ok (.invokevirtual 54, 3) := by decide +kernel
theorem dJ7_checkLength_df160_30 : decode cJ7_checkLength_df160 30 = .ok (.invokevirtual 61, 3) := by decide +kernel
theorem dJ7_checkLength_df160_33 : decode cJ7_checkLength_df160 33 = .ok (.invokespecial 65, 3) := by decide +kernel
theorem dJ7_checkLength_df160_36 : decode cJ7_checkLength_df160 36 = .ok (.athrow, 1) := by decide +kernel
theorem dJ7_checkLength_df160_37 : decode cJ7_checkLength_df160 37 = .ok (.return_, 1) := by decide +kernel
theorem dJ7_copyOfRange_39247_0 : decode cJ7_copyOfRange_39247 0 = .ok (.iload_n 1, 1) := by decide +kernel
theorem dJ7_copyOfRange_39247_1 : decode cJ7_copyOfRange_39247 1 = .ok (.ifCond .ne 9, 3) := by decide +kernel
theorem dJ7_copyOfRange_39247_4 : decode cJ7_copyOfRange_39247 4 = .ok (.iload_n 2, 1) := by decide +kernel
theorem dJ7_copyOfRange_39247_5 : decode cJ7_copyOfRange_39247 5 = .ok (.aload_n 0, 1) := by decide +kernel
theorem dJ7_copyOfRange_39247_6 : decode cJ7_copyOfRange_39247 6 = .ok (.arraylength, 1) := by decide +kernel
theorem dJ7_copyOfRange_39247_7 : decode cJ7_copyOfRange_39247 7 = .ok (.if_icmp .eq 10, 3) := by decide +kernel
theorem dJ7_copyOfRange_39247_10 : decode cJ7_copyOfRange_39247 10 = .ok (.aload_n 0, 1) := by decide +kernel
theorem dJ7_copyOfRange_39247_11 : decode cJ7_copyOfRange_39247 11 = .ok (.iload_n 1, 1) := by decide +kernel
theorem dJ7_copyOfRange_39247_12 : decode cJ7_copyOfRange_39247 12 = .ok (.iload_n 2, 1) := by decide +kernel
theorem dJ7_copyOfRange_39247_13 : decode cJ7_copyOfRange_39247 13 = .ok (.invokestatic 339, 3) := by decide +kernel
theorem dJ7_copyOfRange_39247_16 : decode cJ7_copyOfRange_39247 16 = .ok (.areturn, 1) := by decide +kernel
theorem dJ7_copyOfRange_39247_17 : decode cJ7_copyOfRange_39247 17 = .ok (.aload_n 0, 1) := by decide +kernel
theorem dJ7_copyOfRange_39247_18 : decode cJ7_copyOfRange_39247 18 = .ok (.invokevirtual 310, 3) := by decide +kernel
theorem dJ7_copyOfRange_39247_21 : decode cJ7_copyOfRange_39247 21 = .ok (.checkcast 311, 3) := by decide +kernel
theorem dJ7_copyOfRange_39247_24 : decode cJ7_copyOfRange_39247 24 = .ok (.areturn, 1) := by decide +kernel
theorem dJ7_copyOfRangeByte_39247_0 : decode cJ7_copyOfRangeByte_39247 0 = .ok (.iload_n 1, 1) := by decide +kernel
theorem dJ7_copyOfRangeByte_39247_1 : decode cJ7_copyOfRangeByte_39247 1 = .ok (.iload_n 2, 1) := by decide +kernel
theorem dJ7_copyOfRangeByte_39247_2 : decode cJ7_copyOfRangeByte_39247 2 = .ok (.invokestatic 343, 3) := by decide +kernel
theorem dJ7_copyOfRangeByte_39247_5 : decode cJ7_copyOfRangeByte_39247 5 = .ok (.iload_n 2, 1) := by decide +kernel
theorem dJ7_copyOfRangeByte_39247_6 : decode cJ7_copyOfRangeByte_39247 6 = .ok (.iload_n 1, 1) := by decide +kernel
theorem dJ7_copyOfRangeByte_39247_7 : decode cJ7_copyOfRangeByte_39247 7 = .ok (.isub, 1) := by decide +kernel
theorem dJ7_copyOfRangeByte_39247_8 : decode cJ7_copyOfRangeByte_39247 8 = .ok (.istore_n 3, 1) := by decide +kernel
theorem dJ7_copyOfRangeByte_39247_9 : decode cJ7_copyOfRangeByte_39247 9 = .ok (.iload_n 3, 1) := by decide +kernel
theorem dJ7_copyOfRangeByte_39247_10 : decode cJ7_copyOfRangeByte_39247 10 = .ok (.newarray .byte, 2) := by decide +kernel
theorem dJ7_copyOfRangeByte_39247_12 : decode cJ7_copyOfRangeByte_39247 12 = .ok (.astore 4, 2) := by decide +kernel
theorem dJ7_copyOfRangeByte_39247_14 : decode cJ7_copyOfRangeByte_39247 14 = .ok (.aload_n 0, 1) := by decide +kernel
theorem dJ7_copyOfRangeByte_39247_15 : decode cJ7_copyOfRangeByte_39247 15 = .ok (.iload_n 1, 1) := by decide +kernel
theorem dJ7_copyOfRangeByte_39247_16 : decode cJ7_copyOfRangeByte_39247 16 = .ok (.aload 4, 2) := by decide +kernel
theorem dJ7_copyOfRangeByte_39247_18 : decode cJ7_copyOfRangeByte_39247 18 = .ok (.iconst 0, 1) := by decide +kernel
theorem dJ7_copyOfRangeByte_39247_19 : decode cJ7_copyOfRangeByte_39247 19 = .ok (.aload_n 0, 1) := by decide +kernel
theorem dJ7_copyOfRangeByte_39247_20 : decode cJ7_copyOfRangeByte_39247 20 = .ok (.arraylength, 1) := by decide +kernel
theorem dJ7_copyOfRangeByte_39247_21 : decode cJ7_copyOfRangeByte_39247 21 = .ok (.iload_n 1, 1) := by decide +kernel
theorem dJ7_copyOfRangeByte_39247_22 : decode cJ7_copyOfRangeByte_39247 22 = .ok (.isub, 1) := by decide +kernel
theorem dJ7_copyOfRangeByte_39247_23 : decode cJ7_copyOfRangeByte_39247 23 = .ok (.iload_n 3, 1) := by decide +kernel
theorem dJ7_copyOfRangeByte_39247_24 : decode cJ7_copyOfRangeByte_39247 24 = .ok (.invokestatic 304, 3) := by decide +kernel
theorem dJ7_copyOfRangeByte_39247_27 : decode cJ7_copyOfRangeByte_39247 27 = .ok (.invokestatic 150, 3) := by decide +kernel
theorem dJ7_copyOfRangeByte_39247_30 : decode cJ7_copyOfRangeByte_39247 30 = .ok (.aload 4, 2) := by decide +kernel
theorem dJ7_copyOfRangeByte_39247_32 : decode cJ7_copyOfRangeByte_39247 32 = .ok (.areturn, 1) := by decide +kernel
theorem dJ8_newLength_cabcc_0 : decode cJ8_newLength_cabcc 0 = .ok (.iload_n 0, 1) := by decide +kernel
theorem dJ8_newLength_cabcc_1 : decode cJ8_newLength_cabcc 1 = .ok (.iload_n 1, 1) := by decide +kernel
theorem dJ8_newLength_cabcc_2 : decode cJ8_newLength_cabcc 2 = .ok (.iload_n 2, 1) := by decide +kernel
theorem dJ8_newLength_cabcc_3 : decode cJ8_newLength_cabcc 3 = .ok (.invokestatic 194, 3) := by decide +kernel
theorem dJ8_newLength_cabcc_6 : decode cJ8_newLength_cabcc 6 = .ok (.iadd, 1) := by decide +kernel
theorem dJ8_newLength_cabcc_7 : decode cJ8_newLength_cabcc 7 = .ok (.istore_n 3, 1) := by decide +kernel
theorem dJ8_newLength_cabcc_8 : decode cJ8_newLength_cabcc 8 = .ok (.iconst 0, 1) := by decide +kernel
theorem dJ8_newLength_cabcc_9 : decode cJ8_newLength_cabcc 9 = .ok (.iload_n 3, 1) := by decide +kernel
theorem dJ8_newLength_cabcc_10 : decode cJ8_newLength_cabcc 10 = .ok (.if_icmp .ge 11, 3) := by decide +kernel
theorem dJ8_newLength_cabcc_13 : decode cJ8_newLength_cabcc 13 = .ok (.iload_n 3, 1) := by decide +kernel
theorem dJ8_newLength_cabcc_14 : decode cJ8_newLength_cabcc 14 = .ok (.ldc 200, 2) := by decide +kernel
theorem dJ8_newLength_cabcc_16 : decode cJ8_newLength_cabcc 16 = .ok (.if_icmp .gt 5, 3) := by decide +kernel
theorem dJ8_newLength_cabcc_19 : decode cJ8_newLength_cabcc 19 = .ok (.iload_n 3, 1) := by decide +kernel
theorem dJ8_newLength_cabcc_20 : decode cJ8_newLength_cabcc 20 = .ok (.ireturn, 1) := by decide +kernel
theorem dJ8_newLength_cabcc_21 : decode cJ8_newLength_cabcc 21 = .ok (.iload_n 0, 1) := by decide +kernel
theorem dJ8_newLength_cabcc_22 : decode cJ8_newLength_cabcc 22 = .ok (.iload_n 1, 1) := by decide +kernel
theorem dJ8_newLength_cabcc_23 : decode cJ8_newLength_cabcc 23 = .ok (.invokestatic 201, 3) := by decide +kernel
theorem dJ8_newLength_cabcc_26 : decode cJ8_newLength_cabcc 26 = .ok (.ireturn, 1) := by decide +kernel
theorem dJ8_hugeLength_7cf53_0 : decode cJ8_hugeLength_7cf53 0 = .ok (.iload_n 0, 1) := by decide +kernel
theorem dJ8_hugeLength_7cf53_1 : decode cJ8_hugeLength_7cf53 1 = .ok (.iload_n 1, 1) := by decide +kernel
theorem dJ8_hugeLength_7cf53_2 : decode cJ8_hugeLength_7cf53 2 = .ok (.iadd, 1) := by decide +kernel
theorem dJ8_hugeLength_7cf53_3 : decode cJ8_hugeLength_7cf53 3 = .ok (.istore_n 2, 1) := by decide +kernel
theorem dJ8_hugeLength_7cf53_4 : decode cJ8_hugeLength_7cf53 4 = .ok (.iload_n 2, 1) := by decide +kernel
theorem dJ8_hugeLength_7cf53_5 : decode cJ8_hugeLength_7cf53 5 = .ok (.ifCond .ge 44, 3) := by decide +kernel
theorem dJ8_hugeLength_7cf53_8 : decode cJ8_hugeLength_7cf53 8 = .ok (.new 204, 3) := by decide +kernel
theorem dJ8_hugeLength_7cf53_11 : decode cJ8_hugeLength_7cf53 11 = .ok (.dup, 1) := by decide +kernel
theorem dJ8_hugeLength_7cf53_12 : decode cJ8_hugeLength_7cf53 12 = .ok (.new 89, 3) := by decide +kernel
theorem dJ8_hugeLength_7cf53_15 : decode cJ8_hugeLength_7cf53 15 = .ok (.dup, 1) := by decide +kernel
theorem dJ8_hugeLength_7cf53_16 : decode cJ8_hugeLength_7cf53 16 = .ok (.invokespecial 91, 3) := by decide +kernel
theorem dJ8_hugeLength_7cf53_19 : decode cJ8_hugeLength_7cf53 19 = .ok (.ldc 206, 2) := by decide +kernel
theorem dJ8_hugeLength_7cf53_21 : decode cJ8_hugeLength_7cf53 21 = .ok (.invokevirtual 94, 3) := by decide +kernel
theorem dJ8_hugeLength_7cf53_24 : decode cJ8_hugeLength_7cf53 24 = .ok (.iload_n 0, 1) := by decide +kernel
theorem dJ8_hugeLength_7cf53_25 : decode cJ8_hugeLength_7cf53 25 = .ok (.invokevirtual 98, 3) := by decide +kernel
theorem dJ8_hugeLength_7cf53_28 : decode cJ8_hugeLength_7cf53 28 = .ok (.ldc 208, 2) := by decide +kernel
theorem dJ8_hugeLength_7cf53_30 : decode cJ8_hugeLength_7cf53 30 = .ok (.invokevirtual 94, 3) := by decide +kernel
theorem dJ8_hugeLength_7cf53_33 : decode cJ8_hugeLength_7cf53 33 = .ok (.iload_n 1, 1) := by decide +kernel
theorem dJ8_hugeLength_7cf53_34 : decode cJ8_hugeLength_7cf53 34 = .ok (.invokevirtual 98, 3) := by decide +kernel
theorem dJ8_hugeLength_7cf53_37 : decode cJ8_hugeLength_7cf53 37 = .ok (.ldc 210, 2) := by decide +kernel
theorem dJ8_hugeLength_7cf53_39 : decode cJ8_hugeLength_7cf53 39 = .ok (.invokevirtual 94, 3) := by decide +kernel
theorem dJ8_hugeLength_7cf53_42 : decode cJ8_hugeLength_7cf53 42 = .ok (.invokevirtual 101, 3) := by decide +kernel
theorem dJ8_hugeLength_7cf53_45 : decode cJ8_hugeLength_7cf53 45 = .ok (.invokespecial 212, 3) := by decide +kernel
theorem dJ8_hugeLength_7cf53_48 : decode cJ8_hugeLength_7cf53 48 = .ok (.athrow, 1) := by decide +kernel
theorem dJ8_hugeLength_7cf53_49 : decode cJ8_hugeLength_7cf53 49 = .ok (.iload_n 2, 1) := by decide +kernel
theorem dJ8_hugeLength_7cf53_50 : decode cJ8_hugeLength_7cf53 50 = .ok (.ldc 200, 2) := by decide +kernel
theorem dJ8_hugeLength_7cf53_52 : decode cJ8_hugeLength_7cf53 52 = .ok (.if_icmp .gt 6, 3) := by decide +kernel
theorem dJ8_hugeLength_7cf53_55 : decode cJ8_hugeLength_7cf53 55 = .ok (.ldc 200, 2) := by decide +kernel
theorem dJ8_hugeLength_7cf53_57 : decode cJ8_hugeLength_7cf53 57 = .ok (.ireturn, 1) := by decide +kernel
theorem dJ8_hugeLength_7cf53_58 : decode cJ8_hugeLength_7cf53 58 = .ok (.iload_n 2, 1) := by decide +kernel
theorem dJ8_hugeLength_7cf53_59 : decode cJ8_hugeLength_7cf53 59 = .ok (.ireturn, 1) := by decide +kernel
theorem dJ3_checkIndex_8e157_0 : decode cJ3_checkIndex_8e157 0 = .ok (.iload_n 0, 1) := by decide +kernel
theorem dJ3_checkIndex_8e157_1 : decode cJ3_checkIndex_8e157 1 = .ok (.ifCond .lt 8, 3) := by decide +kernel
theorem dJ3_checkIndex_8e157_4 : decode cJ3_checkIndex_8e157 4 = .ok (.iload_n 0, 1) := by decide +kernel
theorem dJ3_checkIndex_8e157_5 : decode cJ3_checkIndex_8e157 5 = .ok (.iload_n 1, 1) := by decide +kernel
theorem dJ3_checkIndex_8e157_6 : decode cJ3_checkIndex_8e157 6 = .ok (.if_icmp .lt 10, 3) := by decide +kernel
theorem dJ3_checkIndex_8e157_9 : decode cJ3_checkIndex_8e157 9 = .ok (.aload_n 2, 1) := by decide +kernel
theorem dJ3_checkIndex_8e157_10 : decode cJ3_checkIndex_8e157 10 = .ok (.iload_n 0, 1) := by decide +kernel
theorem dJ3_checkIndex_8e157_11 : decode cJ3_checkIndex_8e157 11 = .ok (.iload_n 1, 1) := by decide +kernel
theorem dJ3_checkIndex_8e157_12 : decode cJ3_checkIndex_8e157 12 = .ok (.invokestatic 95, 3) := by decide +kernel
theorem dJ3_checkIndex_8e157_15 : decode cJ3_checkIndex_8e157 15 = .ok (.athrow, 1) := by decide +kernel
theorem dJ3_checkIndex_8e157_16 : decode cJ3_checkIndex_8e157 16 = .ok (.iload_n 0, 1) := by decide +kernel
theorem dJ3_checkIndex_8e157_17 : decode cJ3_checkIndex_8e157 17 = .ok (.ireturn, 1) := by decide +kernel
theorem dJ3_checkFromToIndex_8c36e_0 : decode cJ3_checkFromToIndex_8c36e 0 = .ok (.iload_n 0, 1) := by decide +kernel
theorem dJ3_checkFromToIndex_8c36e_1 : decode cJ3_checkFromToIndex_8c36e 1 = .ok (.ifCond .lt 13, 3) := by decide +kernel
theorem dJ3_checkFromToIndex_8c36e_4 : decode cJ3_checkFromToIndex_8c36e 4 = .ok (.iload_n 0, 1) := by decide +kernel
theorem dJ3_checkFromToIndex_8c36e_5 : decode cJ3_checkFromToIndex_8c36e 5 = .ok (.iload_n 1, 1) := by decide +kernel
theorem dJ3_checkFromToIndex_8c36e_6 : decode cJ3_checkFromToIndex_8c36e 6 = .ok (.if_icmp .gt 8, 3) := by decide +kernel
theorem dJ3_checkFromToIndex_8c36e_9 : decode cJ3_checkFromToIndex_8c36e 9 = .ok (.iload_n 1, 1) := by decide +kernel
theorem dJ3_checkFromToIndex_8c36e_10 : decode cJ3_checkFromToIndex_8c36e 10 = .ok (.iload_n 2, 1) := by decide +kernel
theorem dJ3_checkFromToIndex_8c36e_11 : decode cJ3_checkFromToIndex_8c36e 11 = .ok (.if_icmp .le 11, 3) := by decide +kernel
theorem dJ3_checkFromToIndex_8c36e_14 : decode cJ3_checkFromToIndex_8c36e 14 = .ok (.aload_n 3, 1) := by decide +kernel
theorem dJ3_checkFromToIndex_8c36e_15 : decode cJ3_checkFromToIndex_8c36e 15 = .ok (.iload_n 0, 1) := by decide +kernel
theorem dJ3_checkFromToIndex_8c36e_16 : decode cJ3_checkFromToIndex_8c36e 16 = .ok (.iload_n 1, 1) := by decide +kernel
theorem dJ3_checkFromToIndex_8c36e_17 : decode cJ3_checkFromToIndex_8c36e 17 = .ok (.iload_n 2, 1) := by decide +kernel
theorem dJ3_checkFromToIndex_8c36e_18 : decode cJ3_checkFromToIndex_8c36e 18 = .ok (.invokestatic 99, 3) := by decide +kernel
theorem dJ3_checkFromToIndex_8c36e_21 : decode cJ3_checkFromToIndex_8c36e 21 = .ok (.athrow, 1) := by decide +kernel
theorem dJ3_checkFromToIndex_8c36e_22 : decode cJ3_checkFromToIndex_8c36e 22 = .ok (.iload_n 0, 1) := by decide +kernel
theorem dJ3_checkFromToIndex_8c36e_23 : decode cJ3_checkFromToIndex_8c36e 23 = .ok (.ireturn, 1) := by decide +kernel
theorem dJ3_checkFromIndexSize_8c36e_0 : decode cJ3_checkFromIndexSize_8c36e 0 = .ok (.iload_n 2, 1) := by decide +kernel
theorem dJ3_checkFromIndexSize_8c36e_1 : decode cJ3_checkFromIndexSize_8c36e 1 = .ok (.iload_n 0, 1) := by decide +kernel
theorem dJ3_checkFromIndexSize_8c36e_2 : decode cJ3_checkFromIndexSize_8c36e 2 = .ok (.ior, 1) := by decide +kernel
theorem dJ3_checkFromIndexSize_8c36e_3 : decode cJ3_checkFromIndexSize_8c36e 3 = .ok (.iload_n 1, 1) := by decide +kernel
theorem dJ3_checkFromIndexSize_8c36e_4 : decode cJ3_checkFromIndexSize_8c36e 4 = .ok (.ior, 1) := by decide +kernel
theorem dJ3_checkFromIndexSize_8c36e_5 : decode cJ3_checkFromIndexSize_8c36e 5 = .ok (.ifCond .lt 10, 3) := by decide +kernel
theorem dJ3_checkFromIndexSize_8c36e_8 : decode cJ3_checkFromIndexSize_8c36e 8 = .ok (.iload_n 1, 1) := by decide +kernel
theorem dJ3_checkFromIndexSize_8c36e_9 : decode cJ3_checkFromIndexSize_8c36e 9 = .ok (.iload_n 2, 1) := by decide +kernel
theorem dJ3_checkFromIndexSize_8c36e_10 : decode cJ3_checkFromIndexSize_8c36e 10 = .ok (.iload_n 0, 1) := by decide +kernel
theorem dJ3_checkFromIndexSize_8c36e_11 : decode cJ3_checkFromIndexSize_8c36e 11 = .ok (.isub, 1) := by decide +kernel
theorem dJ3_checkFromIndexSize_8c36e_12 : decode cJ3_checkFromIndexSize_8c36e 12 = .ok (.if_icmp .le 11, 3) := by decide +kernel
theorem dJ3_checkFromIndexSize_8c36e_15 : decode cJ3_checkFromIndexSize_8c36e 15 = .ok (.aload_n 3, 1) := by decide +kernel
theorem dJ3_checkFromIndexSize_8c36e_16 : decode cJ3_checkFromIndexSize_8c36e 16 = .ok (.iload_n 0, 1) := by decide +kernel
theorem dJ3_checkFromIndexSize_8c36e_17 : decode cJ3_checkFromIndexSize_8c36e 17 = .ok (.iload_n 1, 1) := by decide +kernel
theorem dJ3_checkFromIndexSize_8c36e_18 : decode cJ3_checkFromIndexSize_8c36e 18 = .ok (.iload_n 2, 1) := by decide +kernel
theorem dJ3_checkFromIndexSize_8c36e_19 : decode cJ3_checkFromIndexSize_8c36e 19 = .ok (.invokestatic 103, 3) := by decide +kernel
theorem dJ3_checkFromIndexSize_8c36e_22 : decode cJ3_checkFromIndexSize_8c36e 22 = .ok (.athrow, 1) := by decide +kernel
theorem dJ3_checkFromIndexSize_8c36e_23 : decode cJ3_checkFromIndexSize_8c36e 23 = .ok (.iload_n 0, 1) := by decide +kernel
theorem dJ3_checkFromIndexSize_8c36e_24 : decode cJ3_checkFromIndexSize_8c36e 24 = .ok (.ireturn, 1) := by decide +kernel
theorem dL_cell_0 : decode cL_cell 0 = .ok (.iload_n 1, 1) := by decide +kernel
theorem dL_cell_1 : decode cL_cell 1 = .ok (.aload_n 0, 1) := by decide +kernel
theorem dL_cell_2 : decode cL_cell 2 = .ok (.arraylength, 1) := by decide +kernel
theorem dL_cell_3 : decode cL_cell 3 = .ok (.if_icmp .ge 9, 3) := by decide +kernel
theorem dL_cell_6 : decode cL_cell 6 = .ok (.aload_n 0, 1) := by decide +kernel
theorem dL_cell_7 : decode cL_cell 7 = .ok (.iload_n 1, 1) := by decide +kernel
theorem dL_cell_8 : decode cL_cell 8 = .ok (.iaload, 1) := by decide +kernel
theorem dL_cell_9 : decode cL_cell 9 = .ok (.goto 7, 3) := by decide +kernel
theorem dL_cell_12 : decode cL_cell 12 = .ok (.ldc 7, 2) := by decide +kernel
theorem dL_cell_14 : decode cL_cell 14 = .ok (.iload_n 1, 1) := by decide +kernel
theorem dL_cell_15 : decode cL_cell 15 = .ok (.imul, 1) := by decide +kernel
theorem dL_cell_16 : decode cL_cell 16 = .ok (.ireturn, 1) := by decide +kernel
theorem dL_addLine_0 : decode cL_addLine 0 = .ok (.aload_n 0, 1) := by decide +kernel
theorem dL_addLine_1 : decode cL_addLine 1 = .ok (.iload_n 1, 1) := by decide +kernel
theorem dL_addLine_2 : decode cL_addLine 2 = .ok (.iload_n 2, 1) := by decide +kernel
theorem dL_addLine_3 : decode cL_addLine 3 = .ok (.iload_n 3, 1) := by decide +kernel
theorem dL_addLine_4 : decode cL_addLine 4 = .ok (.iload 4, 2) := by decide +kernel
theorem dL_addLine_6 : decode cL_addLine 6 = .ok (.invokevirtual 8, 3) := by decide +kernel
theorem dL_addLine_9 : decode cL_addLine 9 = .ok (.ireturn, 1) := by decide +kernel
theorem dL_addLine_10 : decode cL_addLine 10 = .ok (.astore 5, 2) := by decide +kernel
theorem dL_addLine_12 : decode cL_addLine 12 = .ok (.iconst (-1), 1) := by decide +kernel
theorem dL_addLine_13 : decode cL_addLine 13 = .ok (.ireturn, 1) := by decide +kernel
theorem dL_addLine_14 : decode cL_addLine 14 = .ok (.astore 5, 2) := by decide +kernel
theorem dL_addLine_16 : decode cL_addLine 16 = .ok (.bipush (-2), 2) := by decide +kernel
theorem dL_addLine_18 : decode cL_addLine 18 = .ok (.ireturn, 1) := by decide +kernel
theorem dL_addLine_19 : decode cL_addLine 19 = .ok (.astore 5, 2) := by decide +kernel
theorem dL_addLine_21 : decode cL_addLine 21 = .ok (.bipush (-3), 2) := by decide +kernel
theorem dL_addLine_23 : decode cL_addLine 23 = .ok (.ireturn, 1) := by decide +kernel
theorem dL_setOrder_0 : decode cL_setOrder 0 = .ok (.aload_n 0, 1) := by decide +kernel
theorem dL_setOrder_1 : decode cL_setOrder 1 = .ok (.iload_n 1, 1) := by decide +kernel
theorem dL_setOrder_2 : decode cL_setOrder 2 = .ok (.iload_n 2, 1) := by decide +kernel
theorem dL_setOrder_3 : decode cL_setOrder 3 = .ok (.invokevirtual 20, 3) := by decide +kernel
theorem dL_setOrder_6 : decode cL_setOrder 6 = .ok (.ireturn, 1) := by decide +kernel
theorem dL_setOrder_7 : decode cL_setOrder 7 = .ok (.astore_n 3, 1) := by decide +kernel
theorem dL_setOrder_8 : decode cL_setOrder 8 = .ok (.iconst (-1), 1) := by decide +kernel
theorem dL_setOrder_9 : decode cL_setOrder 9 = .ok (.ireturn, 1) := by decide +kernel
theorem dL_setOrder_10 : decode cL_setOrder 10 = .ok (.astore_n 3, 1) := by decide +kernel
theorem dL_setOrder_11 : decode cL_setOrder 11 = .ok (.bipush (-2), 2) := by decide +kernel
theorem dL_setOrder_13 : decode cL_setOrder 13 = .ok (.ireturn, 1) := by decide +kernel
theorem dL_setOrder_14 : decode cL_setOrder 14 = .ok (.astore_n 3, 1) := by decide +kernel
theorem dL_setOrder_15 : decode cL_setOrder 15 = .ok (.bipush (-3), 2) := by decide +kernel
theorem dL_setOrder_17 : decode cL_setOrder 17 = .ok (.ireturn, 1) := by decide +kernel
theorem dL_rally_0 : decode cL_rally 0 = .ok (.aload_n 0, 1) := by decide +kernel
theorem dL_rally_1 : decode cL_rally 1 = .ok (.iload_n 1, 1) := by decide +kernel
theorem dL_rally_2 : decode cL_rally 2 = .ok (.invokevirtual 26, 3) := by decide +kernel
theorem dL_rally_5 : decode cL_rally 5 = .ok (.ireturn, 1) := by decide +kernel
theorem dL_rally_6 : decode cL_rally 6 = .ok (.astore_n 2, 1) := by decide +kernel
theorem dL_rally_7 : decode cL_rally 7 = .ok (.iconst (-1), 1) := by decide +kernel
theorem dL_rally_8 : decode cL_rally 8 = .ok (.ireturn, 1) := by decide +kernel
theorem dL_rally_9 : decode cL_rally 9 = .ok (.astore_n 2, 1) := by decide +kernel
theorem dL_rally_10 : decode cL_rally 10 = .ok (.bipush (-2), 2) := by decide +kernel
theorem dL_rally_12 : decode cL_rally 12 = .ok (.ireturn, 1) := by decide +kernel
theorem dL_rally_13 : decode cL_rally 13 = .ok (.astore_n 2, 1) := by decide +kernel
theorem dL_rally_14 : decode cL_rally 14 = .ok (.bipush (-3), 2) := by decide +kernel
theorem dL_rally_16 : decode cL_rally 16 = .ok (.ireturn, 1) := by decide +kernel
theorem dL_sideOf_0 : decode cL_sideOf 0 = .ok (.aload_n 0, 1) := by decide +kernel
theorem dL_sideOf_1 : decode cL_sideOf 1 = .ok (.iload_n 1, 1) := by decide +kernel
theorem dL_sideOf_2 : decode cL_sideOf 2 = .ok (.invokevirtual 30, 3) := by decide +kernel
theorem dL_sideOf_5 : decode cL_sideOf 5 = .ok (.ireturn, 1) := by decide +kernel
theorem dL_sideOf_6 : decode cL_sideOf 6 = .ok (.astore_n 2, 1) := by decide +kernel
theorem dL_sideOf_7 : decode cL_sideOf 7 = .ok (.bipush (-11), 2) := by decide +kernel
theorem dL_sideOf_9 : decode cL_sideOf 9 = .ok (.ireturn, 1) := by decide +kernel
theorem dL_laneOf_0 : decode cL_laneOf 0 = .ok (.aload_n 0, 1) := by decide +kernel
theorem dL_laneOf_1 : decode cL_laneOf 1 = .ok (.iload_n 1, 1) := by decide +kernel
theorem dL_laneOf_2 : decode cL_laneOf 2 = .ok (.invokevirtual 33, 3) := by decide +kernel
theorem dL_laneOf_5 : decode cL_laneOf 5 = .ok (.ireturn, 1) := by decide +kernel
theorem dL_laneOf_6 : decode cL_laneOf 6 = .ok (.astore_n 2, 1) := by decide +kernel
theorem dL_laneOf_7 : decode cL_laneOf 7 = .ok (.bipush (-11), 2) := by decide +kernel
theorem dL_laneOf_9 : decode cL_laneOf 9 = .ok (.ireturn, 1) := by decide +kernel
theorem dL_laneOf_10 : decode cL_laneOf 10 = .ok (.astore_n 2, 1) := by decide +kernel
theorem dL_laneOf_11 : decode cL_laneOf 11 = .ok (.bipush (-13), 2) := by decide +kernel
theorem dL_laneOf_13 : decode cL_laneOf 13 = .ok (.ireturn, 1) := by decide +kernel
theorem dL_columnOf_0 : decode cL_columnOf 0 = .ok (.aload_n 0, 1) := by decide +kernel
theorem dL_columnOf_1 : decode cL_columnOf 1 = .ok (.iload_n 1, 1) := by decide +kernel
theorem dL_columnOf_2 : decode cL_columnOf 2 = .ok (.invokevirtual 38, 3) := by decide +kernel
theorem dL_columnOf_5 : decode cL_columnOf 5 = .ok (.ireturn, 1) := by decide +kernel
theorem dL_columnOf_6 : decode cL_columnOf 6 = .ok (.astore_n 2, 1) := by decide +kernel
theorem dL_columnOf_7 : decode cL_columnOf 7 = .ok (.bipush (-11), 2) := by decide +kernel
theorem dL_columnOf_9 : decode cL_columnOf 9 = .ok (.ireturn, 1) := by decide +kernel
theorem dL_columnOf_10 : decode cL_columnOf 10 = .ok (.astore_n 2, 1) := by decide +kernel
theorem dL_columnOf_11 : decode cL_columnOf 11 = .ok (.bipush (-13), 2) := by decide +kernel
theorem dL_columnOf_13 : decode cL_columnOf 13 = .ok (.ireturn, 1) := by decide +kernel
theorem dL_kindOf_0 : decode cL_kindOf 0 = .ok (.aload_n 0, 1) := by decide +kernel
theorem dL_kindOf_1 : decode cL_kindOf 1 = .ok (.iload_n 1, 1) := by decide +kernel
theorem dL_kindOf_2 : decode cL_kindOf 2 = .ok (.invokevirtual 41, 3) := by decide +kernel
theorem dL_kindOf_5 : decode cL_kindOf 5 = .ok (.ireturn, 1) := by decide +kernel
theorem dL_kindOf_6 : decode cL_kindOf 6 = .ok (.astore_n 2, 1) := by decide +kernel
theorem dL_kindOf_7 : decode cL_kindOf 7 = .ok (.bipush (-11), 2) := by decide +kernel
theorem dL_kindOf_9 : decode cL_kindOf 9 = .ok (.ireturn, 1) := by decide +kernel
theorem dL_strength_0 : decode cL_strength 0 = .ok (.aload_n 0, 1) := by decide +kernel
theorem dL_strength_1 : decode cL_strength 1 = .ok (.iload_n 1, 1) := by decide +kernel
theorem dL_strength_2 : decode cL_strength 2 = .ok (.invokevirtual 45, 3) := by decide +kernel
theorem dL_strength_5 : decode cL_strength 5 = .ok (.ireturn, 1) := by decide +kernel
theorem dL_strength_6 : decode cL_strength 6 = .ok (.astore_n 2, 1) := by decide +kernel
theorem dL_strength_7 : decode cL_strength 7 = .ok (.bipush (-11), 2) := by decide +kernel
theorem dL_strength_9 : decode cL_strength 9 = .ok (.ireturn, 1) := by decide +kernel
theorem dL_morale_0 : decode cL_morale 0 = .ok (.aload_n 0, 1) := by decide +kernel
theorem dL_morale_1 : decode cL_morale 1 = .ok (.iload_n 1, 1) := by decide +kernel
theorem dL_morale_2 : decode cL_morale 2 = .ok (.invokevirtual 48, 3) := by decide +kernel
theorem dL_morale_5 : decode cL_morale 5 = .ok (.ireturn, 1) := by decide +kernel
theorem dL_morale_6 : decode cL_morale 6 = .ok (.astore_n 2, 1) := by decide +kernel
theorem dL_morale_7 : decode cL_morale 7 = .ok (.bipush (-11), 2) := by decide +kernel
theorem dL_morale_9 : decode cL_morale 9 = .ok (.ireturn, 1) := by decide +kernel
theorem dL_orderOf_0 : decode cL_orderOf 0 = .ok (.aload_n 0, 1) := by decide +kernel
theorem dL_orderOf_1 : decode cL_orderOf 1 = .ok (.iload_n 1, 1) := by decide +kernel
theorem dL_orderOf_2 : decode cL_orderOf 2 = .ok (.invokevirtual 51, 3) := by decide +kernel
theorem dL_orderOf_5 : decode cL_orderOf 5 = .ok (.ireturn, 1) := by decide +kernel
theorem dL_orderOf_6 : decode cL_orderOf 6 = .ok (.astore_n 2, 1) := by decide +kernel
theorem dL_orderOf_7 : decode cL_orderOf 7 = .ok (.bipush (-11), 2) := by decide +kernel
theorem dL_orderOf_9 : decode cL_orderOf 9 = .ok (.ireturn, 1) := by decide +kernel
theorem dL_orderOf_10 : decode cL_orderOf 10 = .ok (.astore_n 2, 1) := by decide +kernel
theorem dL_orderOf_11 : decode cL_orderOf 11 = .ok (.bipush (-14), 2) := by decide +kernel
theorem dL_orderOf_13 : decode cL_orderOf 13 = .ok (.ireturn, 1) := by decide +kernel
theorem dL_isStanding_0 : decode cL_isStanding 0 = .ok (.aload_n 0, 1) := by decide +kernel
theorem dL_isStanding_1 : decode cL_isStanding 1 = .ok (.iload_n 1, 1) := by decide +kernel
theorem dL_isStanding_2 : decode cL_isStanding 2 = .ok (.invokevirtual 54, 3) := by decide +kernel
theorem dL_isStanding_5 : decode cL_isStanding 5 = .ok (.ifCond .eq 7, 3) := by decide +kernel
theorem dL_isStanding_8 : decode cL_isStanding 8 = .ok (.iconst 1, 1) := by decide +kernel
theorem dL_isStanding_9 : decode cL_isStanding 9 = .ok (.goto 4, 3) := by decide +kernel
theorem dL_isStanding_12 : decode cL_isStanding 12 = .ok (.iconst 0, 1) := by decide +kernel
theorem dL_isStanding_13 : decode cL_isStanding 13 = .ok (.ireturn, 1) := by decide +kernel
theorem dL_isStanding_14 : decode cL_isStanding 14 = .ok (.astore_n 2, 1) := by decide +kernel
theorem dL_isStanding_15 : decode cL_isStanding 15 = .ok (.bipush (-11), 2) := by decide +kernel
theorem dL_isStanding_17 : decode cL_isStanding 17 = .ok (.ireturn, 1) := by decide +kernel
theorem dL_isRouted_0 : decode cL_isRouted 0 = .ok (.aload_n 0, 1) := by decide +kernel
theorem dL_isRouted_1 : decode cL_isRouted 1 = .ok (.iload_n 1, 1) := by decide +kernel
theorem dL_isRouted_2 : decode cL_isRouted 2 = .ok (.invokevirtual 58, 3) := by decide +kernel
theorem dL_isRouted_5 : decode cL_isRouted 5 = .ok (.ifCond .eq 7, 3) := by decide +kernel
theorem dL_isRouted_8 : decode cL_isRouted 8 = .ok (.iconst 1, 1) := by decide +kernel
theorem dL_isRouted_9 : decode cL_isRouted 9 = .ok (.goto 4, 3) := by decide +kernel
theorem dL_isRouted_12 : decode cL_isRouted 12 = .ok (.iconst 0, 1) := by decide +kernel
theorem dL_isRouted_13 : decode cL_isRouted 13 = .ok (.ireturn, 1) := by decide +kernel
theorem dL_isRouted_14 : decode cL_isRouted 14 = .ok (.astore_n 2, 1) := by decide +kernel
theorem dL_isRouted_15 : decode cL_isRouted 15 = .ok (.bipush (-11), 2) := by decide +kernel
theorem dL_isRouted_17 : decode cL_isRouted 17 = .ok (.ireturn, 1) := by decide +kernel
theorem dL_routed_0 : decode cL_routed 0 = .ok (.aload_n 0, 1) := by decide +kernel
theorem dL_routed_1 : decode cL_routed 1 = .ok (.iload_n 1, 1) := by decide +kernel
theorem dL_routed_2 : decode cL_routed 2 = .ok (.invokevirtual 61, 3) := by decide +kernel
theorem dL_routed_5 : decode cL_routed 5 = .ok (.ireturn, 1) := by decide +kernel
theorem dL_routed_6 : decode cL_routed 6 = .ok (.astore_n 2, 1) := by decide +kernel
theorem dL_routed_7 : decode cL_routed 7 = .ok (.bipush (-11), 2) := by decide +kernel
theorem dL_routed_9 : decode cL_routed 9 = .ok (.ireturn, 1) := by decide +kernel
theorem dL_lineIn_0 : decode cL_lineIn 0 = .ok (.aload_n 0, 1) := by decide +kernel
theorem dL_lineIn_1 : decode cL_lineIn 1 = .ok (.iload_n 1, 1) := by decide +kernel
theorem dL_lineIn_2 : decode cL_lineIn 2 = .ok (.iload_n 2, 1) := by decide +kernel
theorem dL_lineIn_3 : decode cL_lineIn 3 = .ok (.invokevirtual 64, 3) := by decide +kernel
theorem dL_lineIn_6 : decode cL_lineIn 6 = .ok (.ireturn, 1) := by decide +kernel
theorem dL_lineIn_7 : decode cL_lineIn 7 = .ok (.astore_n 3, 1) := by decide +kernel
theorem dL_lineIn_8 : decode cL_lineIn 8 = .ok (.bipush (-11), 2) := by decide +kernel
theorem dL_lineIn_10 : decode cL_lineIn 10 = .ok (.ireturn, 1) := by decide +kernel
theorem dL_lineIn_11 : decode cL_lineIn 11 = .ok (.astore_n 3, 1) := by decide +kernel
theorem dL_lineIn_12 : decode cL_lineIn 12 = .ok (.bipush (-13), 2) := by decide +kernel
theorem dL_lineIn_14 : decode cL_lineIn 14 = .ok (.ireturn, 1) := by decide +kernel
theorem dL_attack_0 : decode cL_attack 0 = .ok (.aload_n 0, 1) := by decide +kernel
theorem dL_attack_1 : decode cL_attack 1 = .ok (.iload_n 1, 1) := by decide +kernel
theorem dL_attack_2 : decode cL_attack 2 = .ok (.invokevirtual 68, 3) := by decide +kernel
theorem dL_attack_5 : decode cL_attack 5 = .ok (.ireturn, 1) := by decide +kernel
theorem dL_attack_6 : decode cL_attack 6 = .ok (.astore_n 2, 1) := by decide +kernel
theorem dL_attack_7 : decode cL_attack 7 = .ok (.bipush (-11), 2) := by decide +kernel
theorem dL_attack_9 : decode cL_attack 9 = .ok (.ireturn, 1) := by decide +kernel
theorem dL_counter_0 : decode cL_counter 0 = .ok (.aload_n 0, 1) := by decide +kernel
theorem dL_counter_1 : decode cL_counter 1 = .ok (.iload_n 1, 1) := by decide +kernel
theorem dL_counter_2 : decode cL_counter 2 = .ok (.invokevirtual 71, 3) := by decide +kernel
theorem dL_counter_5 : decode cL_counter 5 = .ok (.ireturn, 1) := by decide +kernel
theorem dL_counter_6 : decode cL_counter 6 = .ok (.astore_n 2, 1) := by decide +kernel
theorem dL_counter_7 : decode cL_counter 7 = .ok (.bipush (-11), 2) := by decide +kernel
theorem dL_counter_9 : decode cL_counter 9 = .ok (.ireturn, 1) := by decide +kernel
theorem dL_support_0 : decode cL_support 0 = .ok (.aload_n 0, 1) := by decide +kernel
theorem dL_support_1 : decode cL_support 1 = .ok (.iload_n 1, 1) := by decide +kernel
theorem dL_support_2 : decode cL_support 2 = .ok (.invokevirtual 74, 3) := by decide +kernel
theorem dL_support_5 : decode cL_support 5 = .ok (.ireturn, 1) := by decide +kernel
theorem dL_support_6 : decode cL_support 6 = .ok (.astore_n 2, 1) := by decide +kernel
theorem dL_support_7 : decode cL_support 7 = .ok (.bipush (-11), 2) := by decide +kernel
theorem dL_support_9 : decode cL_support 9 = .ok (.ireturn, 1) := by decide +kernel
theorem dL_support_10 : decode cL_support 10 = .ok (.astore_n 2, 1) := by decide +kernel
theorem dL_support_11 : decode cL_support 11 = .ok (.bipush (-13), 2) := by decide +kernel
theorem dL_support_13 : decode cL_support 13 = .ok (.ireturn, 1) := by decide +kernel
theorem dL_byLines_0 : decode cL_byLines 0 = .ok (.aload_n 0, 1) := by decide +kernel
theorem dL_byLines_1 : decode cL_byLines 1 = .ok (.iload_n 1, 1) := by decide +kernel
theorem dL_byLines_2 : decode cL_byLines 2 = .ok (.invokevirtual 77, 3) := by decide +kernel
theorem dL_byLines_5 : decode cL_byLines 5 = .ok (.ireturn, 1) := by decide +kernel
theorem dL_byLines_6 : decode cL_byLines 6 = .ok (.astore_n 2, 1) := by decide +kernel
theorem dL_byLines_7 : decode cL_byLines 7 = .ok (.bipush (-11), 2) := by decide +kernel
theorem dL_byLines_9 : decode cL_byLines 9 = .ok (.ireturn, 1) := by decide +kernel
theorem dL_byLines_10 : decode cL_byLines 10 = .ok (.astore_n 2, 1) := by decide +kernel
theorem dL_byLines_11 : decode cL_byLines 11 = .ok (.bipush (-13), 2) := by decide +kernel
theorem dL_byLines_13 : decode cL_byLines 13 = .ok (.ireturn, 1) := by decide +kernel
theorem dL_ahead_0 : decode cL_ahead 0 = .ok (.aload_n 0, 1) := by decide +kernel
theorem dL_ahead_1 : decode cL_ahead 1 = .ok (.iload_n 1, 1) := by decide +kernel
theorem dL_ahead_2 : decode cL_ahead 2 = .ok (.invokevirtual 80, 3) := by decide +kernel
theorem dL_ahead_5 : decode cL_ahead 5 = .ok (.ireturn, 1) := by decide +kernel
theorem dL_ahead_6 : decode cL_ahead 6 = .ok (.astore_n 2, 1) := by decide +kernel
theorem dL_ahead_7 : decode cL_ahead 7 = .ok (.bipush (-11), 2) := by decide +kernel
theorem dL_ahead_9 : decode cL_ahead 9 = .ok (.ireturn, 1) := by decide +kernel
theorem dL_ahead_10 : decode cL_ahead 10 = .ok (.astore_n 2, 1) := by decide +kernel
theorem dL_ahead_11 : decode cL_ahead 11 = .ok (.bipush (-13), 2) := by decide +kernel
theorem dL_ahead_13 : decode cL_ahead 13 = .ok (.ireturn, 1) := by decide +kernel
theorem dL_byDistances_0 : decode cL_byDistances 0 = .ok (.aload_n 0, 1) := by decide +kernel
theorem dL_byDistances_1 : decode cL_byDistances 1 = .ok (.iload_n 1, 1) := by decide +kernel
theorem dL_byDistances_2 : decode cL_byDistances 2 = .ok (.invokevirtual 83, 3) := by decide +kernel
theorem dL_byDistances_5 : decode cL_byDistances 5 = .ok (.ireturn, 1) := by decide +kernel
theorem dL_byDistances_6 : decode cL_byDistances 6 = .ok (.astore_n 2, 1) := by decide +kernel
theorem dL_byDistances_7 : decode cL_byDistances 7 = .ok (.bipush (-11), 2) := by decide +kernel
theorem dL_byDistances_9 : decode cL_byDistances 9 = .ok (.ireturn, 1) := by decide +kernel
theorem dL_byDistances_10 : decode cL_byDistances 10 = .ok (.astore_n 2, 1) := by decide +kernel
theorem dL_byDistances_11 : decode cL_byDistances 11 = .ok (.bipush (-13), 2) := by decide +kernel
theorem dL_byDistances_13 : decode cL_byDistances 13 = .ok (.ireturn, 1) := by decide +kernel
theorem dL_jars_0 : decode cL_jars 0 = .ok (.aload_n 0, 1) := by decide +kernel
theorem dL_jars_1 : decode cL_jars 1 = .ok (.iload_n 1, 1) := by decide +kernel
theorem dL_jars_2 : decode cL_jars 2 = .ok (.invokevirtual 90, 3) := by decide +kernel
theorem dL_jars_5 : decode cL_jars 5 = .ok (.ireturn, 1) := by decide +kernel
theorem dL_jars_6 : decode cL_jars 6 = .ok (.astore_n 2, 1) := by decide +kernel
theorem dL_jars_7 : decode cL_jars 7 = .ok (.bipush (-12), 2) := by decide +kernel
theorem dL_jars_9 : decode cL_jars 9 = .ok (.ireturn, 1) := by decide +kernel
theorem dL_sumOf_0 : decode cL_sumOf 0 = .ok (.aload_n 0, 1) := by decide +kernel
theorem dL_sumOf_1 : decode cL_sumOf 1 = .ok (.iload_n 1, 1) := by decide +kernel
theorem dL_sumOf_2 : decode cL_sumOf 2 = .ok (.invokevirtual 93, 3) := by decide +kernel
theorem dL_sumOf_5 : decode cL_sumOf 5 = .ok (.ireturn, 1) := by decide +kernel
theorem dL_sumOf_6 : decode cL_sumOf 6 = .ok (.astore_n 2, 1) := by decide +kernel
theorem dL_sumOf_7 : decode cL_sumOf 7 = .ok (.bipush (-12), 2) := by decide +kernel
theorem dL_sumOf_9 : decode cL_sumOf 9 = .ok (.ireturn, 1) := by decide +kernel
theorem dL_byCells_0 : decode cL_byCells 0 = .ok (.aload_n 0, 1) := by decide +kernel
theorem dL_byCells_1 : decode cL_byCells 1 = .ok (.iload_n 1, 1) := by decide +kernel
theorem dL_byCells_2 : decode cL_byCells 2 = .ok (.invokevirtual 96, 3) := by decide +kernel
theorem dL_byCells_5 : decode cL_byCells 5 = .ok (.ireturn, 1) := by decide +kernel
theorem dL_byCells_6 : decode cL_byCells 6 = .ok (.astore_n 2, 1) := by decide +kernel
theorem dL_byCells_7 : decode cL_byCells 7 = .ok (.bipush (-12), 2) := by decide +kernel
theorem dL_byCells_9 : decode cL_byCells 9 = .ok (.ireturn, 1) := by decide +kernel
theorem dL_fallen_0 : decode cL_fallen 0 = .ok (.aload_n 0, 1) := by decide +kernel
theorem dL_fallen_1 : decode cL_fallen 1 = .ok (.iload_n 1, 1) := by decide +kernel
theorem dL_fallen_2 : decode cL_fallen 2 = .ok (.invokevirtual 99, 3) := by decide +kernel
theorem dL_fallen_5 : decode cL_fallen 5 = .ok (.ireturn, 1) := by decide +kernel
theorem dL_fallen_6 : decode cL_fallen 6 = .ok (.astore_n 2, 1) := by decide +kernel
theorem dL_fallen_7 : decode cL_fallen 7 = .ok (.bipush (-12), 2) := by decide +kernel
theorem dL_fallen_9 : decode cL_fallen 9 = .ok (.ireturn, 1) := by decide +kernel
theorem dL_front_0 : decode cL_front 0 = .ok (.aload_n 0, 1) := by decide +kernel
theorem dL_front_1 : decode cL_front 1 = .ok (.iload_n 1, 1) := by decide +kernel
theorem dL_front_2 : decode cL_front 2 = .ok (.iload_n 2, 1) := by decide +kernel
theorem dL_front_3 : decode cL_front 3 = .ok (.invokevirtual 102, 3) := by decide +kernel
theorem dL_front_6 : decode cL_front 6 = .ok (.ireturn, 1) := by decide +kernel
theorem dL_front_7 : decode cL_front 7 = .ok (.astore_n 3, 1) := by decide +kernel
theorem dL_front_8 : decode cL_front 8 = .ok (.bipush (-12), 2) := by decide +kernel
theorem dL_front_10 : decode cL_front 10 = .ok (.ireturn, 1) := by decide +kernel
theorem dL_front_11 : decode cL_front 11 = .ok (.astore_n 3, 1) := by decide +kernel
theorem dL_front_12 : decode cL_front 12 = .ok (.bipush (-13), 2) := by decide +kernel
theorem dL_front_14 : decode cL_front 14 = .ok (.ireturn, 1) := by decide +kernel
theorem dL_leader_0 : decode cL_leader 0 = .ok (.aload_n 0, 1) := by decide +kernel
theorem dL_leader_1 : decode cL_leader 1 = .ok (.invokevirtual 105, 3) := by decide +kernel
theorem dL_leader_4 : decode cL_leader 4 = .ok (.ireturn, 1) := by decide +kernel
theorem dL_leader_5 : decode cL_leader 5 = .ok (.astore_n 1, 1) := by decide +kernel
theorem dL_leader_6 : decode cL_leader 6 = .ok (.bipush (-13), 2) := by decide +kernel
theorem dL_leader_8 : decode cL_leader 8 = .ok (.ireturn, 1) := by decide +kernel
theorem dL_byStrength_0 : decode cL_byStrength 0 = .ok (.aload_n 0, 1) := by decide +kernel
theorem dL_byStrength_1 : decode cL_byStrength 1 = .ok (.iload_n 1, 1) := by decide +kernel
theorem dL_byStrength_2 : decode cL_byStrength 2 = .ok (.invokevirtual 108, 3) := by decide +kernel
theorem dL_byStrength_5 : decode cL_byStrength 5 = .ok (.ireturn, 1) := by decide +kernel
theorem dL_byStrength_6 : decode cL_byStrength 6 = .ok (.astore_n 2, 1) := by decide +kernel
theorem dL_byStrength_7 : decode cL_byStrength 7 = .ok (.bipush (-13), 2) := by decide +kernel
theorem dL_byStrength_9 : decode cL_byStrength 9 = .ok (.ireturn, 1) := by decide +kernel
theorem dL_writeLane_0 : decode cL_writeLane 0 = .ok (.aload_n 0, 1) := by decide +kernel
theorem dL_writeLane_1 : decode cL_writeLane 1 = .ok (.iload_n 1, 1) := by decide +kernel
theorem dL_writeLane_2 : decode cL_writeLane 2 = .ok (.invokevirtual 111, 3) := by decide +kernel
theorem dL_writeLane_5 : decode cL_writeLane 5 = .ok (.ireturn, 1) := by decide +kernel
theorem dL_writeLane_6 : decode cL_writeLane 6 = .ok (.astore_n 2, 1) := by decide +kernel
theorem dL_writeLane_7 : decode cL_writeLane 7 = .ok (.bipush (-11), 2) := by decide +kernel
theorem dL_writeLane_9 : decode cL_writeLane 9 = .ok (.ireturn, 1) := by decide +kernel
theorem dL_writtenAt_0 : decode cL_writtenAt 0 = .ok (.aload_n 0, 1) := by decide +kernel
theorem dL_writtenAt_1 : decode cL_writtenAt 1 = .ok (.iload_n 1, 1) := by decide +kernel
theorem dL_writtenAt_2 : decode cL_writtenAt 2 = .ok (.invokevirtual 114, 3) := by decide +kernel
theorem dL_writtenAt_5 : decode cL_writtenAt 5 = .ok (.ireturn, 1) := by decide +kernel
theorem dL_writtenAt_6 : decode cL_writtenAt 6 = .ok (.astore_n 2, 1) := by decide +kernel
theorem dL_writtenAt_7 : decode cL_writtenAt 7 = .ok (.bipush (-11), 2) := by decide +kernel
theorem dL_writtenAt_9 : decode cL_writtenAt 9 = .ok (.ireturn, 1) := by decide +kernel
theorem dL_type_0 : decode cL_type 0 = .ok (.aload_n 0, 1) := by decide +kernel
theorem dL_type_1 : decode cL_type 1 = .ok (.iload_n 1, 1) := by decide +kernel
theorem dL_type_2 : decode cL_type 2 = .ok (.invokevirtual 117, 3) := by decide +kernel
theorem dL_type_5 : decode cL_type 5 = .ok (.ireturn, 1) := by decide +kernel
theorem dL_type_6 : decode cL_type 6 = .ok (.astore_n 2, 1) := by decide +kernel
theorem dL_type_7 : decode cL_type 7 = .ok (.bipush (-12), 2) := by decide +kernel
theorem dL_type_9 : decode cL_type 9 = .ok (.ireturn, 1) := by decide +kernel
theorem dL_type_10 : decode cL_type 10 = .ok (.astore_n 2, 1) := by decide +kernel
theorem dL_type_11 : decode cL_type 11 = .ok (.bipush (-14), 2) := by decide +kernel
theorem dL_type_13 : decode cL_type 13 = .ok (.ireturn, 1) := by decide +kernel
theorem dL_executes_0 : decode cL_executes 0 = .ok (.aload_n 0, 1) := by decide +kernel
theorem dL_executes_1 : decode cL_executes 1 = .ok (.invokevirtual 121, 3) := by decide +kernel
theorem dL_executes_4 : decode cL_executes 4 = .ok (.ireturn, 1) := by decide +kernel
theorem dL_executes_5 : decode cL_executes 5 = .ok (.astore_n 1, 1) := by decide +kernel
theorem dL_executes_6 : decode cL_executes 6 = .ok (.iconst (-1), 1) := by decide +kernel
theorem dL_executes_7 : decode cL_executes 7 = .ok (.ireturn, 1) := by decide +kernel
theorem dL_executes_8 : decode cL_executes 8 = .ok (.astore_n 1, 1) := by decide +kernel
theorem dL_executes_9 : decode cL_executes 9 = .ok (.bipush (-2), 2) := by decide +kernel
theorem dL_executes_11 : decode cL_executes 11 = .ok (.ireturn, 1) := by decide +kernel
theorem dL_undo_0 : decode cL_undo 0 = .ok (.aload_n 0, 1) := by decide +kernel
theorem dL_undo_1 : decode cL_undo 1 = .ok (.invokevirtual 130, 3) := by decide +kernel
theorem dL_undo_4 : decode cL_undo 4 = .ok (.ireturn, 1) := by decide +kernel
theorem dL_undo_5 : decode cL_undo 5 = .ok (.astore_n 1, 1) := by decide +kernel
theorem dL_undo_6 : decode cL_undo 6 = .ok (.iconst (-1), 1) := by decide +kernel
theorem dL_undo_7 : decode cL_undo 7 = .ok (.ireturn, 1) := by decide +kernel
theorem dL_execute_0 : decode cL_execute 0 = .ok (.iconst 0, 1) := by decide +kernel
theorem dL_execute_1 : decode cL_execute 1 = .ok (.istore_n 2, 1) := by decide +kernel
theorem dL_execute_2 : decode cL_execute 2 = .ok (.iload_n 2, 1) := by decide +kernel
theorem dL_execute_3 : decode cL_execute 3 = .ok (.aload_n 1, 1) := by decide +kernel
theorem dL_execute_4 : decode cL_execute 4 = .ok (.invokevirtual 133, 3) := by decide +kernel
theorem dL_execute_7 : decode cL_execute 7 = .ok (.if_icmp .ge 27, 3) := by decide +kernel
theorem dL_execute_10 : decode cL_execute 10 = .ok (.aload_n 0, 1) := by decide +kernel
theorem dL_execute_11 : decode cL_execute 11 = .ok (.aload_n 1, 1) := by decide +kernel
theorem dL_execute_12 : decode cL_execute 12 = .ok (.iload_n 2, 1) := by decide +kernel
theorem dL_execute_13 : decode cL_execute 13 = .ok (.invokevirtual 138, 3) := by decide +kernel
theorem dL_execute_16 : decode cL_execute 16 = .ok (.invokestatic 141, 3) := by decide +kernel
theorem dL_execute_19 : decode cL_execute 19 = .ok (.iload_n 2, 1) := by decide +kernel
theorem dL_execute_20 : decode cL_execute 20 = .ok (.iconst 1, 1) := by decide +kernel
theorem dL_execute_21 : decode cL_execute 21 = .ok (.iadd, 1) := by decide +kernel
theorem dL_execute_22 : decode cL_execute 22 = .ok (.if_icmp .eq 6, 3) := by decide +kernel
theorem dL_execute_25 : decode cL_execute 25 = .ok (.bipush (-9), 2) := by decide +kernel
theorem dL_execute_27 : decode cL_execute 27 = .ok (.ireturn, 1) := by decide +kernel
theorem dL_execute_28 : decode cL_execute 28 = .ok (.iinc 2 1, 3) := by decide +kernel
theorem dL_execute_31 : decode cL_execute 31 = .ok (.goto (-29), 3) := by decide +kernel
theorem dL_execute_34 : decode cL_execute 34 = .ok (.aload_n 0, 1) := by decide +kernel
theorem dL_execute_35 : decode cL_execute 35 = .ok (.invokestatic 146, 3) := by decide +kernel
theorem dL_execute_38 : decode cL_execute 38 = .ok (.ireturn, 1) := by decide +kernel
theorem dL_drawn_0 : decode cL_drawn 0 = .ok (.new 9, 3) := by decide +kernel
theorem dL_drawn_3 : decode cL_drawn 3 = .ok (.dup, 1) := by decide +kernel
theorem dL_drawn_4 : decode cL_drawn 4 = .ok (.invokespecial 150, 3) := by decide +kernel
theorem dL_drawn_7 : decode cL_drawn 7 = .ok (.astore_n 1, 1) := by decide +kernel
theorem dL_drawn_8 : decode cL_drawn 8 = .ok (.aload_n 0, 1) := by decide +kernel
theorem dL_drawn_9 : decode cL_drawn 9 = .ok (.iconst 0, 1) := by decide +kernel
theorem dL_drawn_10 : decode cL_drawn 10 = .ok (.invokestatic 151, 3) := by decide +kernel
theorem dL_drawn_13 : decode cL_drawn 13 = .ok (.iconst 1, 1) := by decide +kernel
theorem dL_drawn_14 : decode cL_drawn 14 = .ok (.iushr, 1) := by decide +kernel
theorem dL_drawn_15 : decode cL_drawn 15 = .ok (.istore_n 2, 1) := by decide +kernel
theorem dL_drawn_16 : decode cL_drawn 16 = .ok (.iconst 0, 1) := by decide +kernel
theorem dL_drawn_17 : decode cL_drawn 17 = .ok (.istore_n 3, 1) := by decide +kernel
theorem dL_drawn_18 : decode cL_drawn 18 = .ok (.iload_n 3, 1) := by decide +kernel
theorem dL_drawn_19 : decode cL_drawn 19 = .ok (.bipush 6, 2) := by decide +kernel
theorem dL_drawn_21 : decode cL_drawn 21 = .ok (.if_icmp .ge 67, 3) := by decide +kernel
theorem dL_drawn_24 : decode cL_drawn 24 = .ok (.aload_n 0, 1) := by decide +kernel
theorem dL_drawn_25 : decode cL_drawn 25 = .ok (.iconst 1, 1) := by decide +kernel
theorem dL_drawn_26 : decode cL_drawn 26 = .ok (.iload_n 3, 1) := by decide +kernel
theorem dL_drawn_27 : decode cL_drawn 27 = .ok (.iadd, 1) := by decide +kernel
theorem dL_drawn_28 : decode cL_drawn 28 = .ok (.invokestatic 151, 3) := by decide +kernel
theorem dL_drawn_31 : decode cL_drawn 31 = .ok (.iconst 1, 1) := by decide +kernel
theorem dL_drawn_32 : decode cL_drawn 32 = .ok (.iushr, 1) := by decide +kernel
theorem dL_drawn_33 : decode cL_drawn 33 = .ok (.istore 4, 2) := by decide +kernel
theorem dL_drawn_35 : decode cL_drawn 35 = .ok (.iload_n 2, 1) := by decide +kernel
theorem dL_drawn_36 : decode cL_drawn 36 = .ok (.iload_n 3, 1) := by decide +kernel
theorem dL_drawn_37 : decode cL_drawn 37 = .ok (.iushr, 1) := by decide +kernel
theorem dL_drawn_38 : decode cL_drawn 38 = .ok (.iconst 1, 1) := by decide +kernel
theorem dL_drawn_39 : decode cL_drawn 39 = .ok (.iand, 1) := by decide +kernel
theorem dL_drawn_40 : decode cL_drawn 40 = .ok (.iconst 1, 1) := by decide +kernel
theorem dL_drawn_41 : decode cL_drawn 41 = .ok (.if_icmp .eq 8, 3) := by decide +kernel
theorem dL_drawn_44 : decode cL_drawn 44 = .ok (.iload_n 3, 1) := by decide +kernel
theorem dL_drawn_45 : decode cL_drawn 45 = .ok (.iconst 2, 1) := by decide +kernel
theorem dL_drawn_46 : decode cL_drawn 46 = .ok (.if_icmp .ge 36, 3) := by decide +kernel
theorem dL_drawn_49 : decode cL_drawn 49 = .ok (.aload_n 1, 1) := by decide +kernel
theorem dL_drawn_50 : decode cL_drawn 50 = .ok (.iload_n 3, 1) := by decide +kernel
theorem dL_drawn_51 : decode cL_drawn 51 = .ok (.iconst 2, 1) := by decide +kernel
theorem dL_drawn_52 : decode cL_drawn 52 = .ok (.irem, 1) := by decide +kernel
theorem dL_drawn_53 : decode cL_drawn 53 = .ok (.iload_n 3, 1) := by decide +kernel
theorem dL_drawn_54 : decode cL_drawn 54 = .ok (.iconst 2, 1) := by decide +kernel
theorem dL_drawn_55 : decode cL_drawn 55 = .ok (.idiv, 1) := by decide +kernel
theorem dL_drawn_56 : decode cL_drawn 56 = .ok (.ldc 155, 2) := by decide +kernel
theorem dL_drawn_58 : decode cL_drawn 58 = .ok (.iload 4, 2) := by decide +kernel
theorem dL_drawn_60 : decode cL_drawn 60 = .ok (.iconst 4, 1) := by decide +kernel
theorem dL_drawn_61 : decode cL_drawn 61 = .ok (.irem, 1) := by decide +kernel
theorem dL_drawn_62 : decode cL_drawn 62 = .ok (.invokevirtual 138, 3) := by decide +kernel
theorem dL_drawn_65 : decode cL_drawn 65 = .ok (.iconst 5, 1) := by decide +kernel
theorem dL_drawn_66 : decode cL_drawn 66 = .ok (.iload 4, 2) := by decide +kernel
theorem dL_drawn_68 : decode cL_drawn 68 = .ok (.iconst 2, 1) := by decide +kernel
theorem dL_drawn_69 : decode cL_drawn 69 = .ok (.iushr, 1) := by decide +kernel
theorem dL_drawn_70 : decode cL_drawn 70 = .ok (.bipush 90, 2) := by decide +kernel
theorem dL_drawn_72 : decode cL_drawn 72 = .ok (.irem, 1) := by decide +kernel
theorem dL_drawn_73 : decode cL_drawn 73 = .ok (.iadd, 1) := by decide +kernel
theorem dL_drawn_74 : decode cL_drawn 74 = .ok (.invokestatic 157, 3) := by decide +kernel
theorem dL_drawn_77 : decode cL_drawn 77 = .ok (.ifCond .ge 5, 3) := by decide +kernel
theorem dL_drawn_80 : decode cL_drawn 80 = .ok (.aconst_null, 1) := by decide +kernel
theorem dL_drawn_81 : decode cL_drawn 81 = .ok (.areturn, 1) := by decide +kernel
theorem dL_drawn_82 : decode cL_drawn 82 = .ok (.iinc 3 1, 3) := by decide +kernel
theorem dL_drawn_85 : decode cL_drawn 85 = .ok (.goto (-67), 3) := by decide +kernel
theorem dL_drawn_88 : decode cL_drawn 88 = .ok (.iload_n 2, 1) := by decide +kernel
theorem dL_drawn_89 : decode cL_drawn 89 = .ok (.bipush 6, 2) := by decide +kernel
theorem dL_drawn_91 : decode cL_drawn 91 = .ok (.iushr, 1) := by decide +kernel
theorem dL_drawn_92 : decode cL_drawn 92 = .ok (.bipush 12, 2) := by decide +kernel
theorem dL_drawn_94 : decode cL_drawn 94 = .ok (.irem, 1) := by decide +kernel
theorem dL_drawn_95 : decode cL_drawn 95 = .ok (.istore_n 3, 1) := by decide +kernel
theorem dL_drawn_96 : decode cL_drawn 96 = .ok (.iconst 0, 1) := by decide +kernel
theorem dL_drawn_97 : decode cL_drawn 97 = .ok (.istore 4, 2) := by decide +kernel
theorem dL_drawn_99 : decode cL_drawn 99 = .ok (.iload 4, 2) := by decide +kernel
theorem dL_drawn_101 : decode cL_drawn 101 = .ok (.bipush 10, 2) := by decide +kernel
theorem dL_drawn_103 : decode cL_drawn 103 = .ok (.iload_n 3, 1) := by decide +kernel
theorem dL_drawn_104 : decode cL_drawn 104 = .ok (.iadd, 1) := by decide +kernel
theorem dL_drawn_105 : decode cL_drawn 105 = .ok (.if_icmp .ge 150, 3) := by decide +kernel
theorem dL_drawn_108 : decode cL_drawn 108 = .ok (.aload_n 0, 1) := by decide +kernel
theorem dL_drawn_109 : decode cL_drawn 109 = .ok (.bipush 7, 2) := by decide +kernel
theorem dL_drawn_111 : decode cL_drawn 111 = .ok (.iload 4, 2) := by decide +kernel
theorem dL_drawn_113 : decode cL_drawn 113 = .ok (.iadd, 1) := by decide +kernel
theorem dL_drawn_114 : decode cL_drawn 114 = .ok (.invokestatic 151, 3) := by decide +kernel
theorem dL_drawn_117 : decode cL_drawn 117 = .ok (.iconst 1, 1) := by decide +kernel
theorem dL_drawn_118 : decode cL_drawn 118 = .ok (.iushr, 1) := by decide +kernel
theorem dL_drawn_119 : decode cL_drawn 119 = .ok (.istore 5, 2) := by decide +kernel
theorem dL_drawn_121 : decode cL_drawn 121 = .ok (.iload 5, 2) := by decide +kernel
theorem dL_drawn_123 : decode cL_drawn 123 = .ok (.iconst 4, 1) := by decide +kernel
theorem dL_drawn_124 : decode cL_drawn 124 = .ok (.iushr, 1) := by decide +kernel
theorem dL_drawn_125 : decode cL_drawn 125 = .ok (.aload_n 1, 1) := by decide +kernel
theorem dL_drawn_126 : decode cL_drawn 126 = .ok (.invokevirtual 160, 3) := by decide +kernel
theorem dL_drawn_129 : decode cL_drawn 129 = .ok (.irem, 1) := by decide +kernel
theorem dL_drawn_130 : decode cL_drawn 130 = .ok (.istore 6, 2) := by decide +kernel
theorem dL_drawn_132 : decode cL_drawn 132 = .ok (.iload 5, 2) := by decide +kernel
theorem dL_drawn_134 : decode cL_drawn 134 = .ok (.bipush 16, 2) := by decide +kernel
theorem dL_drawn_136 : decode cL_drawn 136 = .ok (.irem, 1) := by decide +kernel
theorem dL_drawn_137 : decode cL_drawn 137 = .ok (.bipush 7, 2) := by decide +kernel
theorem dL_drawn_139 : decode cL_drawn 139 = .ok (.if_icmp .ge 24, 3) := by decide +kernel
theorem dL_drawn_142 : decode cL_drawn 142 = .ok (.aload_n 1, 1) := by decide +kernel
theorem dL_drawn_143 : decode cL_drawn 143 = .ok (.iload 6, 2) := by decide +kernel
theorem dL_drawn_145 : decode cL_drawn 145 = .ok (.ldc 163, 2) := by decide +kernel
theorem dL_drawn_147 : decode cL_drawn 147 = .ok (.iload 5, 2) := by decide +kernel
theorem dL_drawn_149 : decode cL_drawn 149 = .ok (.bipush 8, 2) := by decide +kernel
theorem dL_drawn_151 : decode cL_drawn 151 = .ok (.iushr, 1) := by decide +kernel
theorem dL_drawn_152 : decode cL_drawn 152 = .ok (.iconst 4, 1) := by decide +kernel
theorem dL_drawn_153 : decode cL_drawn 153 = .ok (.irem, 1) := by decide +kernel
theorem dL_drawn_154 : decode cL_drawn 154 = .ok (.invokevirtual 138, 3) := by decide +kernel
theorem dL_drawn_157 : decode cL_drawn 157 = .ok (.invokestatic 165, 3) := by decide +kernel
theorem dL_drawn_160 : decode cL_drawn 160 = .ok (.goto 79, 3) := by decide +kernel
theorem dL_drawn_163 : decode cL_drawn 163 = .ok (.iload 5, 2) := by decide +kernel
theorem dL_drawn_165 : decode cL_drawn 165 = .ok (.bipush 16, 2) := by decide +kernel
theorem dL_drawn_167 : decode cL_drawn 167 = .ok (.irem, 1) := by decide +kernel
theorem dL_drawn_168 : decode cL_drawn 168 = .ok (.bipush 9, 2) := by decide +kernel
theorem dL_drawn_170 : decode cL_drawn 170 = .ok (.if_icmp .ge 46, 3) := by decide +kernel
theorem dL_drawn_173 : decode cL_drawn 173 = .ok (.aload_n 1, 1) := by decide +kernel
theorem dL_drawn_174 : decode cL_drawn 174 = .ok (.iload 5, 2) := by decide +kernel
theorem dL_drawn_176 : decode cL_drawn 176 = .ok (.bipush 8, 2) := by decide +kernel
theorem dL_drawn_178 : decode cL_drawn 178 = .ok (.iushr, 1) := by decide +kernel
theorem dL_drawn_179 : decode cL_drawn 179 = .ok (.iconst 2, 1) := by decide +kernel
theorem dL_drawn_180 : decode cL_drawn 180 = .ok (.irem, 1) := by decide +kernel
theorem dL_drawn_181 : decode cL_drawn 181 = .ok (.iload 5, 2) := by decide +kernel
theorem dL_drawn_183 : decode cL_drawn 183 = .ok (.bipush 9, 2) := by decide +kernel
theorem dL_drawn_185 : decode cL_drawn 185 = .ok (.iushr, 1) := by decide +kernel
theorem dL_drawn_186 : decode cL_drawn 186 = .ok (.iconst 3, 1) := by decide +kernel
theorem dL_drawn_187 : decode cL_drawn 187 = .ok (.irem, 1) := by decide +kernel
theorem dL_drawn_188 : decode cL_drawn 188 = .ok (.ldc 155, 2) := by decide +kernel
theorem dL_drawn_190 : decode cL_drawn 190 = .ok (.iload 5, 2) := by decide +kernel
theorem dL_drawn_192 : decode cL_drawn 192 = .ok (.bipush 11, 2) := by decide +kernel
theorem dL_drawn_194 : decode cL_drawn 194 = .ok (.iushr, 1) := by decide +kernel
theorem dL_drawn_195 : decode cL_drawn 195 = .ok (.iconst 4, 1) := by decide +kernel
theorem dL_drawn_196 : decode cL_drawn 196 = .ok (.irem, 1) := by decide +kernel
theorem dL_drawn_197 : decode cL_drawn 197 = .ok (.invokevirtual 138, 3) := by decide +kernel
theorem dL_drawn_200 : decode cL_drawn 200 = .ok (.iconst 1, 1) := by decide +kernel
theorem dL_drawn_201 : decode cL_drawn 201 = .ok (.iload 5, 2) := by decide +kernel
theorem dL_drawn_203 : decode cL_drawn 203 = .ok (.bipush 13, 2) := by decide +kernel
theorem dL_drawn_205 : decode cL_drawn 205 = .ok (.iushr, 1) := by decide +kernel
theorem dL_drawn_206 : decode cL_drawn 206 = .ok (.bipush 60, 2) := by decide +kernel
theorem dL_drawn_208 : decode cL_drawn 208 = .ok (.irem, 1) := by decide +kernel
theorem dL_drawn_209 : decode cL_drawn 209 = .ok (.iadd, 1) := by decide +kernel
theorem dL_drawn_210 : decode cL_drawn 210 = .ok (.invokestatic 157, 3) := by decide +kernel
theorem dL_drawn_213 : decode cL_drawn 213 = .ok (.goto 26, 3) := by decide +kernel
theorem dL_drawn_216 : decode cL_drawn 216 = .ok (.iload 5, 2) := by decide +kernel
theorem dL_drawn_218 : decode cL_drawn 218 = .ok (.bipush 16, 2) := by decide +kernel
theorem dL_drawn_220 : decode cL_drawn 220 = .ok (.irem, 1) := by decide +kernel
theorem dL_drawn_221 : decode cL_drawn 221 = .ok (.bipush 9, 2) := by decide +kernel
theorem dL_drawn_223 : decode cL_drawn 223 = .ok (.if_icmp .ne 12, 3) := by decide +kernel
theorem dL_drawn_226 : decode cL_drawn 226 = .ok (.aload_n 1, 1) := by decide +kernel
theorem dL_drawn_227 : decode cL_drawn 227 = .ok (.iload 6, 2) := by decide +kernel
theorem dL_drawn_229 : decode cL_drawn 229 = .ok (.invokestatic 168, 3) := by decide +kernel
theorem dL_drawn_232 : decode cL_drawn 232 = .ok (.goto 7, 3) := by decide +kernel
theorem dL_drawn_235 : decode cL_drawn 235 = .ok (.aload_n 1, 1) := by decide +kernel
theorem dL_drawn_236 : decode cL_drawn 236 = .ok (.invokevirtual 171, 3) := by decide +kernel
theorem dL_drawn_239 : decode cL_drawn 239 = .ok (.istore 7, 2) := by decide +kernel
theorem dL_drawn_241 : decode cL_drawn 241 = .ok (.iload 7, 2) := by decide +kernel
theorem dL_drawn_243 : decode cL_drawn 243 = .ok (.iconst (-1), 1) := by decide +kernel
theorem dL_drawn_244 : decode cL_drawn 244 = .ok (.if_icmp .ne 5, 3) := by decide +kernel
theorem dL_drawn_247 : decode cL_drawn 247 = .ok (.aconst_null, 1) := by decide +kernel
theorem dL_drawn_248 : decode cL_drawn 248 = .ok (.areturn, 1) := by decide +kernel
theorem dL_drawn_249 : decode cL_drawn 249 = .ok (.iinc 4 1, 3) := by decide +kernel
theorem dL_drawn_252 : decode cL_drawn 252 = .ok (.goto (-153), 3) := by decide +kernel
theorem dL_drawn_255 : decode cL_drawn 255 = .ok (.aload_n 1, 1) := by decide +kernel
theorem dL_drawn_256 : decode cL_drawn 256 = .ok (.areturn, 1) := by decide +kernel
theorem dL_isFallen_0 : decode cL_isFallen 0 = .ok (.aload_n 0, 1) := by decide +kernel
theorem dL_isFallen_1 : decode cL_isFallen 1 = .ok (.iload_n 1, 1) := by decide +kernel
theorem dL_isFallen_2 : decode cL_isFallen 2 = .ok (.invokevirtual 54, 3) := by decide +kernel
theorem dL_isFallen_5 : decode cL_isFallen 5 = .ok (.ifCond .ne 15, 3) := by decide +kernel
theorem dL_isFallen_8 : decode cL_isFallen 8 = .ok (.aload_n 0, 1) := by decide +kernel
theorem dL_isFallen_9 : decode cL_isFallen 9 = .ok (.iload_n 1, 1) := by decide +kernel
theorem dL_isFallen_10 : decode cL_isFallen 10 = .ok (.invokevirtual 58, 3) := by decide +kernel
theorem dL_isFallen_13 : decode cL_isFallen 13 = .ok (.ifCond .ne 7, 3) := by decide +kernel
theorem dL_isFallen_16 : decode cL_isFallen 16 = .ok (.iconst 1, 1) := by decide +kernel
theorem dL_isFallen_17 : decode cL_isFallen 17 = .ok (.goto 4, 3) := by decide +kernel
theorem dL_isFallen_20 : decode cL_isFallen 20 = .ok (.iconst 0, 1) := by decide +kernel
theorem dL_isFallen_21 : decode cL_isFallen 21 = .ok (.ireturn, 1) := by decide +kernel
theorem dL_way_0 : decode cL_way 0 = .ok (.aload_n 0, 1) := by decide +kernel
theorem dL_way_1 : decode cL_way 1 = .ok (.iload_n 1, 1) := by decide +kernel
theorem dL_way_2 : decode cL_way 2 = .ok (.invokevirtual 30, 3) := by decide +kernel
theorem dL_way_5 : decode cL_way 5 = .ok (.ifCond .ne 7, 3) := by decide +kernel
theorem dL_way_8 : decode cL_way 8 = .ok (.iconst 1, 1) := by decide +kernel
theorem dL_way_9 : decode cL_way 9 = .ok (.goto 4, 3) := by decide +kernel
theorem dL_way_12 : decode cL_way 12 = .ok (.iconst (-1), 1) := by decide +kernel
theorem dL_way_13 : decode cL_way 13 = .ok (.ireturn, 1) := by decide +kernel
theorem dL_attackBy_0 : decode cL_attackBy 0 = .ok (.iload_n 0, 1) := by decide +kernel
theorem dL_attackBy_1 : decode cL_attackBy 1 = .ok (.bipush 112, 2) := by decide +kernel
theorem dL_attackBy_3 : decode cL_attackBy 3 = .ok (.if_icmp .ne 9, 3) := by decide +kernel
theorem dL_attackBy_6 : decode cL_attackBy 6 = .ok (.iload_n 1, 1) := by decide +kernel
theorem dL_attackBy_7 : decode cL_attackBy 7 = .ok (.iconst 4, 1) := by decide +kernel
theorem dL_attackBy_8 : decode cL_attackBy 8 = .ok (.idiv, 1) := by decide +kernel
theorem dL_attackBy_9 : decode cL_attackBy 9 = .ok (.goto 35, 3) := by decide +kernel
theorem dL_attackBy_12 : decode cL_attackBy 12 = .ok (.iload_n 0, 1) := by decide +kernel
theorem dL_attackBy_13 : decode cL_attackBy 13 = .ok (.bipush 110, 2) := by decide +kernel
theorem dL_attackBy_15 : decode cL_attackBy 15 = .ok (.if_icmp .ne 11, 3) := by decide +kernel
theorem dL_attackBy_18 : decode cL_attackBy 18 = .ok (.iload_n 1, 1) := by decide +kernel
theorem dL_attackBy_19 : decode cL_attackBy 19 = .ok (.iconst 5, 1) := by decide +kernel
theorem dL_attackBy_20 : decode cL_attackBy 20 = .ok (.idiv, 1) := by decide +kernel
theorem dL_attackBy_21 : decode cL_attackBy 21 = .ok (.iconst 2, 1) := by decide +kernel
theorem dL_attackBy_22 : decode cL_attackBy 22 = .ok (.iadd, 1) := by decide +kernel
theorem dL_attackBy_23 : decode cL_attackBy 23 = .ok (.goto 21, 3) := by decide +kernel
theorem dL_attackBy_26 : decode cL_attackBy 26 = .ok (.iload_n 0, 1) := by decide +kernel
theorem dL_attackBy_27 : decode cL_attackBy 27 = .ok (.bipush 99, 2) := by decide +kernel
theorem dL_attackBy_29 : decode cL_attackBy 29 = .ok (.if_icmp .ne 9, 3) := by decide +kernel
theorem dL_attackBy_32 : decode cL_attackBy 32 = .ok (.iload_n 1, 1) := by decide +kernel
theorem dL_attackBy_33 : decode cL_attackBy 33 = .ok (.iconst 3, 1) := by decide +kernel
theorem dL_attackBy_34 : decode cL_attackBy 34 = .ok (.idiv, 1) := by decide +kernel
theorem dL_attackBy_35 : decode cL_attackBy 35 = .ok (.goto 9, 3) := by decide +kernel
theorem dL_attackBy_38 : decode cL_attackBy 38 = .ok (.iload_n 1, 1) := by decide +kernel
theorem dL_attackBy_39 : decode cL_attackBy 39 = .ok (.bipush 6, 2) := by decide +kernel
theorem dL_attackBy_41 : decode cL_attackBy 41 = .ok (.idiv, 1) := by decide +kernel
theorem dL_attackBy_42 : decode cL_attackBy 42 = .ok (.iconst 1, 1) := by decide +kernel
theorem dL_attackBy_43 : decode cL_attackBy 43 = .ok (.iadd, 1) := by decide +kernel
theorem dL_attackBy_44 : decode cL_attackBy 44 = .ok (.ireturn, 1) := by decide +kernel
theorem dL_counterBy_0 : decode cL_counterBy 0 = .ok (.iload_n 0, 1) := by decide +kernel
theorem dL_counterBy_1 : decode cL_counterBy 1 = .ok (.bipush 112, 2) := by decide +kernel
theorem dL_counterBy_3 : decode cL_counterBy 3 = .ok (.if_icmp .ne 10, 3) := by decide +kernel
theorem dL_counterBy_6 : decode cL_counterBy 6 = .ok (.iload_n 1, 1) := by decide +kernel
theorem dL_counterBy_7 : decode cL_counterBy 7 = .ok (.bipush 8, 2) := by decide +kernel
theorem dL_counterBy_9 : decode cL_counterBy 9 = .ok (.idiv, 1) := by decide +kernel
theorem dL_counterBy_10 : decode cL_counterBy 10 = .ok (.goto 32, 3) := by decide +kernel
theorem dL_counterBy_13 : decode cL_counterBy 13 = .ok (.iload_n 0, 1) := by decide +kernel
theorem dL_counterBy_14 : decode cL_counterBy 14 = .ok (.bipush 110, 2) := by decide +kernel
theorem dL_counterBy_16 : decode cL_counterBy 16 = .ok (.if_icmp .ne 9, 3) := by decide +kernel
theorem dL_counterBy_19 : decode cL_counterBy 19 = .ok (.iload_n 1, 1) := by decide +kernel
theorem dL_counterBy_20 : decode cL_counterBy 20 = .ok (.iconst 4, 1) := by decide +kernel
theorem dL_counterBy_21 : decode cL_counterBy 21 = .ok (.idiv, 1) := by decide +kernel
theorem dL_counterBy_22 : decode cL_counterBy 22 = .ok (.goto 20, 3) := by decide +kernel
theorem dL_counterBy_25 : decode cL_counterBy 25 = .ok (.iload_n 0, 1) := by decide +kernel
theorem dL_counterBy_26 : decode cL_counterBy 26 = .ok (.bipush 99, 2) := by decide +kernel
theorem dL_counterBy_28 : decode cL_counterBy 28 = .ok (.if_icmp .ne 10, 3) := by decide +kernel
theorem dL_counterBy_31 : decode cL_counterBy 31 = .ok (.iload_n 1, 1) := by decide +kernel
theorem dL_counterBy_32 : decode cL_counterBy 32 = .ok (.bipush 10, 2) := by decide +kernel
theorem dL_counterBy_34 : decode cL_counterBy 34 = .ok (.idiv, 1) := by decide +kernel
theorem dL_counterBy_35 : decode cL_counterBy 35 = .ok (.goto 7, 3) := by decide +kernel
theorem dL_counterBy_38 : decode cL_counterBy 38 = .ok (.iload_n 1, 1) := by decide +kernel
theorem dL_counterBy_39 : decode cL_counterBy 39 = .ok (.bipush 6, 2) := by decide +kernel
theorem dL_counterBy_41 : decode cL_counterBy 41 = .ok (.idiv, 1) := by decide +kernel
theorem dL_counterBy_42 : decode cL_counterBy 42 = .ok (.ireturn, 1) := by decide +kernel
theorem dL_supportBy_0 : decode cL_supportBy 0 = .ok (.iconst 0, 1) := by decide +kernel
theorem dL_supportBy_1 : decode cL_supportBy 1 = .ok (.istore_n 2, 1) := by decide +kernel
theorem dL_supportBy_2 : decode cL_supportBy 2 = .ok (.iconst (-1), 1) := by decide +kernel
theorem dL_supportBy_3 : decode cL_supportBy 3 = .ok (.istore_n 3, 1) := by decide +kernel
theorem dL_supportBy_4 : decode cL_supportBy 4 = .ok (.iload_n 3, 1) := by decide +kernel
theorem dL_supportBy_5 : decode cL_supportBy 5 = .ok (.iconst 2, 1) := by decide +kernel
theorem dL_supportBy_6 : decode cL_supportBy 6 = .ok (.if_icmp .ge 63, 3) := by decide +kernel
theorem dL_supportBy_9 : decode cL_supportBy 9 = .ok (.aload_n 0, 1) := by decide +kernel
theorem dL_supportBy_10 : decode cL_supportBy 10 = .ok (.aload_n 0, 1) := by decide +kernel
theorem dL_supportBy_11 : decode cL_supportBy 11 = .ok (.iload_n 1, 1) := by decide +kernel
theorem dL_supportBy_12 : decode cL_supportBy 12 = .ok (.invokevirtual 33, 3) := by decide +kernel
theorem dL_supportBy_15 : decode cL_supportBy 15 = .ok (.iload_n 3, 1) := by decide +kernel
theorem dL_supportBy_16 : decode cL_supportBy 16 = .ok (.iadd, 1) := by decide +kernel
theorem dL_supportBy_17 : decode cL_supportBy 17 = .ok (.aload_n 0, 1) := by decide +kernel
theorem dL_supportBy_18 : decode cL_supportBy 18 = .ok (.iload_n 1, 1) := by decide +kernel
theorem dL_supportBy_19 : decode cL_supportBy 19 = .ok (.invokevirtual 38, 3) := by decide +kernel
theorem dL_supportBy_22 : decode cL_supportBy 22 = .ok (.invokestatic 174, 3) := by decide +kernel
theorem dL_supportBy_25 : decode cL_supportBy 25 = .ok (.istore 4, 2) := by decide +kernel
theorem dL_supportBy_27 : decode cL_supportBy 27 = .ok (.iload_n 2, 1) := by decide +kernel
theorem dL_supportBy_28 : decode cL_supportBy 28 = .ok (.iload 4, 2) := by decide +kernel
theorem dL_supportBy_30 : decode cL_supportBy 30 = .ok (.ifCond .lt 30, 3) := by decide +kernel
theorem dL_supportBy_33 : decode cL_supportBy 33 = .ok (.aload_n 0, 1) := by decide +kernel
theorem dL_supportBy_34 : decode cL_supportBy 34 = .ok (.iload 4, 2) := by decide +kernel
theorem dL_supportBy_36 : decode cL_supportBy 36 = .ok (.invokevirtual 54, 3) := by decide +kernel
theorem dL_supportBy_39 : decode cL_supportBy 39 = .ok (.ifCond .eq 21, 3) := by decide +kernel
theorem dL_supportBy_42 : decode cL_supportBy 42 = .ok (.aload_n 0, 1) := by decide +kernel
theorem dL_supportBy_43 : decode cL_supportBy 43 = .ok (.iload 4, 2) := by decide +kernel
theorem dL_supportBy_45 : decode cL_supportBy 45 = .ok (.invokevirtual 30, 3) := by decide +kernel
theorem dL_supportBy_48 : decode cL_supportBy 48 = .ok (.aload_n 0, 1) := by decide +kernel
theorem dL_supportBy_49 : decode cL_supportBy 49 = .ok (.iload_n 1, 1) := by decide +kernel
theorem dL_supportBy_50 : decode cL_supportBy 50 = .ok (.invokevirtual 30, 3) := by decide +kernel
theorem dL_supportBy_53 : decode cL_supportBy 53 = .ok (.if_icmp .ne 7, 3) := by decide +kernel
theorem dL_supportBy_56 : decode cL_supportBy 56 = .ok (.iconst 1, 1) := by decide +kernel
theorem dL_supportBy_57 : decode cL_supportBy 57 = .ok (.goto 4, 3) := by decide +kernel
theorem dL_supportBy_60 : decode cL_supportBy 60 = .ok (.iconst 0, 1) := by decide +kernel
theorem dL_supportBy_61 : decode cL_supportBy 61 = .ok (.iadd, 1) := by decide +kernel
theorem dL_supportBy_62 : decode cL_supportBy 62 = .ok (.istore_n 2, 1) := by decide +kernel
theorem dL_supportBy_63 : decode cL_supportBy 63 = .ok (.iinc 3 2, 3) := by decide +kernel
theorem dL_supportBy_66 : decode cL_supportBy 66 = .ok (.goto (-62), 3) := by decide +kernel
theorem dL_supportBy_69 : decode cL_supportBy 69 = .ok (.iload_n 2, 1) := by decide +kernel
theorem dL_supportBy_70 : decode cL_supportBy 70 = .ok (.ireturn, 1) := by decide +kernel
theorem dL_law_0 : decode cL_law 0 = .ok (.aload_n 0, 1) := by decide +kernel
theorem dL_law_1 : decode cL_law 1 = .ok (.invokestatic 177, 3) := by decide +kernel
theorem dL_law_4 : decode cL_law 4 = .ok (.astore_n 1, 1) := by decide +kernel
theorem dL_law_5 : decode cL_law 5 = .ok (.aload_n 1, 1) := by decide +kernel
theorem dL_law_6 : decode cL_law 6 = .ok (.ifnull 36, 3) := by decide +kernel
theorem dL_law_9 : decode cL_law 9 = .ok (.aload_n 1, 1) := by decide +kernel
theorem dL_law_10 : decode cL_law 10 = .ok (.invokestatic 181, 3) := by decide +kernel
theorem dL_law_13 : decode cL_law 13 = .ok (.ifCond .eq 29, 3) := by decide +kernel
theorem dL_law_16 : decode cL_law 16 = .ok (.aload_n 1, 1) := by decide +kernel
theorem dL_law_17 : decode cL_law 17 = .ok (.invokestatic 185, 3) := by decide +kernel
theorem dL_law_20 : decode cL_law 20 = .ok (.ifCond .eq 22, 3) := by decide +kernel
theorem dL_law_23 : decode cL_law 23 = .ok (.aload_n 1, 1) := by decide +kernel
theorem dL_law_24 : decode cL_law 24 = .ok (.invokestatic 188, 3) := by decide +kernel
theorem dL_law_27 : decode cL_law 27 = .ok (.ifCond .eq 15, 3) := by decide +kernel
theorem dL_law_30 : decode cL_law 30 = .ok (.aload_n 0, 1) := by decide +kernel
theorem dL_law_31 : decode cL_law 31 = .ok (.aload_n 1, 1) := by decide +kernel
theorem dL_law_32 : decode cL_law 32 = .ok (.invokestatic 191, 3) := by decide +kernel
theorem dL_law_35 : decode cL_law 35 = .ok (.ifCond .eq 7, 3) := by decide +kernel
theorem dL_law_38 : decode cL_law 38 = .ok (.iconst 1, 1) := by decide +kernel
theorem dL_law_39 : decode cL_law 39 = .ok (.goto 4, 3) := by decide +kernel
theorem dL_law_42 : decode cL_law 42 = .ok (.iconst 0, 1) := by decide +kernel
theorem dL_law_43 : decode cL_law 43 = .ok (.ireturn, 1) := by decide +kernel
theorem dL_lines_0 : decode cL_lines 0 = .ok (.aload_n 0, 1) := by decide +kernel
theorem dL_lines_1 : decode cL_lines 1 = .ok (.invokevirtual 160, 3) := by decide +kernel
theorem dL_lines_4 : decode cL_lines 4 = .ok (.istore_n 1, 1) := by decide +kernel
theorem dL_lines_5 : decode cL_lines 5 = .ok (.iconst 0, 1) := by decide +kernel
theorem dL_lines_6 : decode cL_lines 6 = .ok (.istore_n 2, 1) := by decide +kernel
theorem dL_lines_7 : decode cL_lines 7 = .ok (.iconst 0, 1) := by decide +kernel
theorem dL_lines_8 : decode cL_lines 8 = .ok (.istore_n 3, 1) := by decide +kernel
theorem dL_lines_9 : decode cL_lines 9 = .ok (.iload_n 3, 1) := by decide +kernel
theorem dL_lines_10 : decode cL_lines 10 = .ok (.iconst 3, 1) := by decide +kernel
theorem dL_lines_11 : decode cL_lines 11 = .ok (.if_icmp .ge 75, 3) := by decide +kernel
theorem dL_lines_14 : decode cL_lines 14 = .ok (.iconst 0, 1) := by decide +kernel
theorem dL_lines_15 : decode cL_lines 15 = .ok (.istore 4, 2) := by decide +kernel
theorem dL_lines_17 : decode cL_lines 17 = .ok (.iload 4, 2) := by decide +kernel
theorem dL_lines_19 : decode cL_lines 19 = .ok (.bipush 10, 2) := by decide +kernel
theorem dL_lines_21 : decode cL_lines 21 = .ok (.if_icmp .ge 59, 3) := by decide +kernel
theorem dL_lines_24 : decode cL_lines 24 = .ok (.aload_n 0, 1) := by decide +kernel
theorem dL_lines_25 : decode cL_lines 25 = .ok (.iload_n 3, 1) := by decide +kernel
theorem dL_lines_26 : decode cL_lines 26 = .ok (.iload 4, 2) := by decide +kernel
theorem dL_lines_28 : decode cL_lines 28 = .ok (.invokestatic 174, 3) := by decide +kernel
theorem dL_lines_31 : decode cL_lines 31 = .ok (.istore 5, 2) := by decide +kernel
theorem dL_lines_33 : decode cL_lines 33 = .ok (.iload_n 2, 1) := by decide +kernel
theorem dL_lines_34 : decode cL_lines 34 = .ok (.iload 5, 2) := by decide +kernel
theorem dL_lines_36 : decode cL_lines 36 = .ok (.ifCond .lt 7, 3) := by decide +kernel
theorem dL_lines_39 : decode cL_lines 39 = .ok (.iconst 1, 1) := by decide +kernel
theorem dL_lines_40 : decode cL_lines 40 = .ok (.goto 4, 3) := by decide +kernel
theorem dL_lines_43 : decode cL_lines 43 = .ok (.iconst 0, 1) := by decide +kernel
theorem dL_lines_44 : decode cL_lines 44 = .ok (.iadd, 1) := by decide +kernel
theorem dL_lines_45 : decode cL_lines 45 = .ok (.istore_n 2, 1) := by decide +kernel
theorem dL_lines_46 : decode cL_lines 46 = .ok (.iload 5, 2) := by decide +kernel
theorem dL_lines_48 : decode cL_lines 48 = .ok (.ifCond .lt 26, 3) := by decide +kernel
theorem dL_lines_51 : decode cL_lines 51 = .ok (.aload_n 0, 1) := by decide +kernel
theorem dL_lines_52 : decode cL_lines 52 = .ok (.iload 5, 2) := by decide +kernel
theorem dL_lines_54 : decode cL_lines 54 = .ok (.invokestatic 195, 3) := by decide +kernel
theorem dL_lines_57 : decode cL_lines 57 = .ok (.iload_n 3, 1) := by decide +kernel
theorem dL_lines_58 : decode cL_lines 58 = .ok (.if_icmp .ne 14, 3) := by decide +kernel
theorem dL_lines_61 : decode cL_lines 61 = .ok (.aload_n 0, 1) := by decide +kernel
theorem dL_lines_62 : decode cL_lines 62 = .ok (.iload 5, 2) := by decide +kernel
theorem dL_lines_64 : decode cL_lines 64 = .ok (.invokestatic 197, 3) := by decide +kernel
theorem dL_lines_67 : decode cL_lines 67 = .ok (.iload 4, 2) := by decide +kernel
theorem dL_lines_69 : decode cL_lines 69 = .ok (.if_icmp .eq 5, 3) := by decide +kernel
theorem dL_lines_72 : decode cL_lines 72 = .ok (.iconst 0, 1) := by decide +kernel
theorem dL_lines_73 : decode cL_lines 73 = .ok (.ireturn, 1) := by decide +kernel
theorem dL_lines_74 : decode cL_lines 74 = .ok (.iinc 4 1, 3) := by decide +kernel
theorem dL_lines_77 : decode cL_lines 77 = .ok (.goto (-60), 3) := by decide +kernel
theorem dL_lines_80 : decode cL_lines 80 = .ok (.iinc 3 1, 3) := by decide +kernel
theorem dL_lines_83 : decode cL_lines 83 = .ok (.goto (-74), 3) := by decide +kernel
theorem dL_lines_86 : decode cL_lines 86 = .ok (.iconst 0, 1) := by decide +kernel
theorem dL_lines_87 : decode cL_lines 87 = .ok (.istore_n 3, 1) := by decide +kernel
theorem dL_lines_88 : decode cL_lines 88 = .ok (.iconst 0, 1) := by decide +kernel
theorem dL_lines_89 : decode cL_lines 89 = .ok (.istore 4, 2) := by decide +kernel
theorem dL_lines_91 : decode cL_lines 91 = .ok (.iload 4, 2) := by decide +kernel
theorem dL_lines_93 : decode cL_lines 93 = .ok (.iload_n 1, 1) := by decide +kernel
theorem dL_lines_94 : decode cL_lines 94 = .ok (.if_icmp .ge 482, 3) := by decide +kernel
theorem dL_lines_97 : decode cL_lines 97 = .ok (.aload_n 0, 1) := by decide +kernel
theorem dL_lines_98 : decode cL_lines 98 = .ok (.iload 4, 2) := by decide +kernel
theorem dL_lines_100 : decode cL_lines 100 = .ok (.invokestatic 199, 3) := by decide +kernel
theorem dL_lines_103 : decode cL_lines 103 = .ok (.istore 5, 2) := by decide +kernel
theorem dL_lines_105 : decode cL_lines 105 = .ok (.aload_n 0, 1) := by decide +kernel
theorem dL_lines_106 : decode cL_lines 106 = .ok (.iload 4, 2) := by decide +kernel
theorem dL_lines_108 : decode cL_lines 108 = .ok (.invokestatic 203, 3) := by decide +kernel
theorem dL_lines_111 : decode cL_lines 111 = .ok (.istore 6, 2) := by decide +kernel
theorem dL_lines_113 : decode cL_lines 113 = .ok (.aload_n 0, 1) := by decide +kernel
theorem dL_lines_114 : decode cL_lines 114 = .ok (.iload 4, 2) := by decide +kernel
theorem dL_lines_116 : decode cL_lines 116 = .ok (.invokestatic 205, 3) := by decide +kernel
theorem dL_lines_119 : decode cL_lines 119 = .ok (.istore 7, 2) := by decide +kernel
theorem dL_lines_121 : decode cL_lines 121 = .ok (.iload_n 3, 1) := by decide +kernel
theorem dL_lines_122 : decode cL_lines 122 = .ok (.iload 5, 2) := by decide +kernel
theorem dL_lines_124 : decode cL_lines 124 = .ok (.ifCond .eq 7, 3) := by decide +kernel
theorem dL_lines_127 : decode cL_lines 127 = .ok (.iconst 0, 1) := by decide +kernel
theorem dL_lines_128 : decode cL_lines 128 = .ok (.goto 4, 3) := by decide +kernel
theorem dL_lines_131 : decode cL_lines 131 = .ok (.iconst 1, 1) := by decide +kernel
theorem dL_lines_132 : decode cL_lines 132 = .ok (.iadd, 1) := by decide +kernel
theorem dL_lines_133 : decode cL_lines 133 = .ok (.istore_n 3, 1) := by decide +kernel
theorem dL_lines_134 : decode cL_lines 134 = .ok (.iload 5, 2) := by decide +kernel
theorem dL_lines_136 : decode cL_lines 136 = .ok (.iload 7, 2) := by decide +kernel
theorem dL_lines_138 : decode cL_lines 138 = .ok (.ifCond .ne 7, 3) := by decide +kernel
theorem dL_lines_141 : decode cL_lines 141 = .ok (.iconst 1, 1) := by decide +kernel
theorem dL_lines_142 : decode cL_lines 142 = .ok (.goto 4, 3) := by decide +kernel
theorem dL_lines_145 : decode cL_lines 145 = .ok (.iconst 0, 1) := by decide +kernel
theorem dL_lines_146 : decode cL_lines 146 = .ok (.if_icmp .ne 97, 3) := by decide +kernel
theorem dL_lines_149 : decode cL_lines 149 = .ok (.aload_n 0, 1) := by decide +kernel
theorem dL_lines_150 : decode cL_lines 150 = .ok (.iload 4, 2) := by decide +kernel
theorem dL_lines_152 : decode cL_lines 152 = .ok (.invokestatic 208, 3) := by decide +kernel
theorem dL_lines_155 : decode cL_lines 155 = .ok (.ifCond .lt 88, 3) := by decide +kernel
theorem dL_lines_158 : decode cL_lines 158 = .ok (.aload_n 0, 1) := by decide +kernel
theorem dL_lines_159 : decode cL_lines 159 = .ok (.iload 4, 2) := by decide +kernel
theorem dL_lines_161 : decode cL_lines 161 = .ok (.invokestatic 208, 3) := by decide +kernel
theorem dL_lines_164 : decode cL_lines 164 = .ok (.bipush 20, 2) := by decide +kernel
theorem dL_lines_166 : decode cL_lines 166 = .ok (.if_icmp .gt 77, 3) := by decide +kernel
theorem dL_lines_169 : decode cL_lines 169 = .ok (.aload_n 0, 1) := by decide +kernel
theorem dL_lines_170 : decode cL_lines 170 = .ok (.iload 4, 2) := by decide +kernel
theorem dL_lines_172 : decode cL_lines 172 = .ok (.invokestatic 211, 3) := by decide +kernel
theorem dL_lines_175 : decode cL_lines 175 = .ok (.aload_n 0, 1) := by decide +kernel
theorem dL_lines_176 : decode cL_lines 176 = .ok (.iload 4, 2) := by decide +kernel
theorem dL_lines_178 : decode cL_lines 178 = .ok (.invokestatic 213, 3) := by decide +kernel
theorem dL_lines_181 : decode cL_lines 181 = .ok (.iadd, 1) := by decide +kernel
theorem dL_lines_182 : decode cL_lines 182 = .ok (.iconst 2, 1) := by decide +kernel
theorem dL_lines_183 : decode cL_lines 183 = .ok (.if_icmp .ge 60, 3) := by decide +kernel
theorem dL_lines_186 : decode cL_lines 186 = .ok (.aload_n 0, 1) := by decide +kernel
theorem dL_lines_187 : decode cL_lines 187 = .ok (.iload 4, 2) := by decide +kernel
theorem dL_lines_189 : decode cL_lines 189 = .ok (.invokestatic 211, 3) := by decide +kernel
theorem dL_lines_192 : decode cL_lines 192 = .ok (.iconst 1, 1) := by decide +kernel
theorem dL_lines_193 : decode cL_lines 193 = .ok (.if_icmp .ne 7, 3) := by decide +kernel
theorem dL_lines_196 : decode cL_lines 196 = .ok (.iconst 1, 1) := by decide +kernel
theorem dL_lines_197 : decode cL_lines 197 = .ok (.goto 4, 3) := by decide +kernel
theorem dL_lines_200 : decode cL_lines 200 = .ok (.iconst 0, 1) := by decide +kernel
theorem dL_lines_201 : decode cL_lines 201 = .ok (.aload_n 0, 1) := by decide +kernel
theorem dL_lines_202 : decode cL_lines 202 = .ok (.iload 4, 2) := by decide +kernel
theorem dL_lines_204 : decode cL_lines 204 = .ok (.invokestatic 215, 3) := by decide +kernel
theorem dL_lines_207 : decode cL_lines 207 = .ok (.ifCond .le 7, 3) := by decide +kernel
theorem dL_lines_210 : decode cL_lines 210 = .ok (.iconst 1, 1) := by decide +kernel
theorem dL_lines_211 : decode cL_lines 211 = .ok (.goto 4, 3) := by decide +kernel
theorem dL_lines_214 : decode cL_lines 214 = .ok (.iconst 0, 1) := by decide +kernel
theorem dL_lines_215 : decode cL_lines 215 = .ok (.if_icmp .ne 28, 3) := by decide +kernel
theorem dL_lines_218 : decode cL_lines 218 = .ok (.iload 5, 2) := by decide +kernel
theorem dL_lines_220 : decode cL_lines 220 = .ok (.aload_n 0, 1) := by decide +kernel
theorem dL_lines_221 : decode cL_lines 221 = .ok (.iload 4, 2) := by decide +kernel
theorem dL_lines_223 : decode cL_lines 223 = .ok (.invokestatic 195, 3) := by decide +kernel
theorem dL_lines_226 : decode cL_lines 226 = .ok (.bipush (-13), 2) := by decide +kernel
theorem dL_lines_228 : decode cL_lines 228 = .ok (.if_icmp .ne 7, 3) := by decide +kernel
theorem dL_lines_231 : decode cL_lines 231 = .ok (.iconst 1, 1) := by decide +kernel
theorem dL_lines_232 : decode cL_lines 232 = .ok (.goto 4, 3) := by decide +kernel
theorem dL_lines_235 : decode cL_lines 235 = .ok (.iconst 0, 1) := by decide +kernel
theorem dL_lines_236 : decode cL_lines 236 = .ok (.if_icmp .ne 7, 3) := by decide +kernel
theorem dL_lines_239 : decode cL_lines 239 = .ok (.iconst 1, 1) := by decide +kernel
theorem dL_lines_240 : decode cL_lines 240 = .ok (.goto 4, 3) := by decide +kernel
theorem dL_lines_243 : decode cL_lines 243 = .ok (.iconst 0, 1) := by decide +kernel
theorem dL_lines_244 : decode cL_lines 244 = .ok (.istore 8, 2) := by decide +kernel
theorem dL_lines_246 : decode cL_lines 246 = .ok (.iload 8, 2) := by decide +kernel
theorem dL_lines_248 : decode cL_lines 248 = .ok (.ifCond .eq 59, 3) := by decide +kernel
theorem dL_lines_251 : decode cL_lines 251 = .ok (.aload_n 0, 1) := by decide +kernel
theorem dL_lines_252 : decode cL_lines 252 = .ok (.iload 4, 2) := by decide +kernel
theorem dL_lines_254 : decode cL_lines 254 = .ok (.invokestatic 217, 3) := by decide +kernel
theorem dL_lines_257 : decode cL_lines 257 = .ok (.iload 6, 2) := by decide +kernel
theorem dL_lines_259 : decode cL_lines 259 = .ok (.iload 7, 2) := by decide +kernel
theorem dL_lines_261 : decode cL_lines 261 = .ok (.invokestatic 220, 3) := by decide +kernel
theorem dL_lines_264 : decode cL_lines 264 = .ok (.if_icmp .ne 43, 3) := by decide +kernel
theorem dL_lines_267 : decode cL_lines 267 = .ok (.aload_n 0, 1) := by decide +kernel
theorem dL_lines_268 : decode cL_lines 268 = .ok (.iload 4, 2) := by decide +kernel
theorem dL_lines_270 : decode cL_lines 270 = .ok (.invokestatic 223, 3) := by decide +kernel
theorem dL_lines_273 : decode cL_lines 273 = .ok (.iload 6, 2) := by decide +kernel
theorem dL_lines_275 : decode cL_lines 275 = .ok (.iload 7, 2) := by decide +kernel
theorem dL_lines_277 : decode cL_lines 277 = .ok (.invokestatic 226, 3) := by decide +kernel
theorem dL_lines_280 : decode cL_lines 280 = .ok (.if_icmp .ne 27, 3) := by decide +kernel
theorem dL_lines_283 : decode cL_lines 283 = .ok (.aload_n 0, 1) := by decide +kernel
theorem dL_lines_284 : decode cL_lines 284 = .ok (.iload 4, 2) := by decide +kernel
theorem dL_lines_286 : decode cL_lines 286 = .ok (.invokestatic 213, 3) := by decide +kernel
theorem dL_lines_289 : decode cL_lines 289 = .ok (.ifCond .eq 14, 3) := by decide +kernel
theorem dL_lines_292 : decode cL_lines 292 = .ok (.aload_n 0, 1) := by decide +kernel
theorem dL_lines_293 : decode cL_lines 293 = .ok (.iload 4, 2) := by decide +kernel
theorem dL_lines_295 : decode cL_lines 295 = .ok (.invokestatic 208, 3) := by decide +kernel
theorem dL_lines_298 : decode cL_lines 298 = .ok (.bipush 8, 2) := by decide +kernel
theorem dL_lines_300 : decode cL_lines 300 = .ok (.if_icmp .ge 7, 3) := by decide +kernel
theorem dL_lines_303 : decode cL_lines 303 = .ok (.iconst 1, 1) := by decide +kernel
theorem dL_lines_304 : decode cL_lines 304 = .ok (.goto 4, 3) := by decide +kernel
theorem dL_lines_307 : decode cL_lines 307 = .ok (.iconst 0, 1) := by decide +kernel
theorem dL_lines_308 : decode cL_lines 308 = .ok (.istore 8, 2) := by decide +kernel
theorem dL_lines_310 : decode cL_lines 310 = .ok (.iload 5, 2) := by decide +kernel
theorem dL_lines_312 : decode cL_lines 312 = .ok (.ifCond .eq 8, 3) := by decide +kernel
theorem dL_lines_315 : decode cL_lines 315 = .ok (.bipush (-13), 2) := by decide +kernel
theorem dL_lines_317 : decode cL_lines 317 = .ok (.goto 9, 3) := by decide +kernel
theorem dL_lines_320 : decode cL_lines 320 = .ok (.aload_n 0, 1) := by decide +kernel
theorem dL_lines_321 : decode cL_lines 321 = .ok (.iload 4, 2) := by decide +kernel
theorem dL_lines_323 : decode cL_lines 323 = .ok (.invokestatic 229, 3) := by decide +kernel
theorem dL_lines_326 : decode cL_lines 326 = .ok (.istore 9, 2) := by decide +kernel
theorem dL_lines_328 : decode cL_lines 328 = .ok (.bipush (-13), 2) := by decide +kernel
theorem dL_lines_330 : decode cL_lines 330 = .ok (.istore 10, 2) := by decide +kernel
theorem dL_lines_332 : decode cL_lines 332 = .ok (.iload 5, 2) := by decide +kernel
theorem dL_lines_334 : decode cL_lines 334 = .ok (.ifCond .eq 7, 3) := by decide +kernel
theorem dL_lines_337 : decode cL_lines 337 = .ok (.iconst (-1), 1) := by decide +kernel
theorem dL_lines_338 : decode cL_lines 338 = .ok (.goto 9, 3) := by decide +kernel
theorem dL_lines_341 : decode cL_lines 341 = .ok (.aload_n 0, 1) := by decide +kernel
theorem dL_lines_342 : decode cL_lines 342 = .ok (.iload 4, 2) := by decide +kernel
theorem dL_lines_344 : decode cL_lines 344 = .ok (.invokestatic 197, 3) := by decide +kernel
theorem dL_lines_347 : decode cL_lines 347 = .ok (.istore 11, 2) := by decide +kernel
theorem dL_lines_349 : decode cL_lines 349 = .ok (.iload 11, 2) := by decide +kernel
theorem dL_lines_351 : decode cL_lines 351 = .ok (.ifCond .lt 72, 3) := by decide +kernel
theorem dL_lines_354 : decode cL_lines 354 = .ok (.iload 11, 2) := by decide +kernel
theorem dL_lines_356 : decode cL_lines 356 = .ok (.bipush 10, 2) := by decide +kernel
theorem dL_lines_358 : decode cL_lines 358 = .ok (.if_icmp .ge 65, 3) := by decide +kernel
theorem dL_lines_361 : decode cL_lines 361 = .ok (.iload 10, 2) := by decide +kernel
theorem dL_lines_363 : decode cL_lines 363 = .ok (.ifCond .ge 60, 3) := by decide +kernel
theorem dL_lines_366 : decode cL_lines 366 = .ok (.aload_n 0, 1) := by decide +kernel
theorem dL_lines_367 : decode cL_lines 367 = .ok (.aload_n 0, 1) := by decide +kernel
theorem dL_lines_368 : decode cL_lines 368 = .ok (.iload 4, 2) := by decide +kernel
theorem dL_lines_370 : decode cL_lines 370 = .ok (.invokestatic 195, 3) := by decide +kernel
theorem dL_lines_373 : decode cL_lines 373 = .ok (.iload 11, 2) := by decide +kernel
theorem dL_lines_375 : decode cL_lines 375 = .ok (.invokestatic 174, 3) := by decide +kernel
theorem dL_lines_378 : decode cL_lines 378 = .ok (.istore 12, 2) := by decide +kernel
theorem dL_lines_380 : decode cL_lines 380 = .ok (.iload 12, 2) := by decide +kernel
theorem dL_lines_382 : decode cL_lines 382 = .ok (.ifCond .lt 23, 3) := by decide +kernel
theorem dL_lines_385 : decode cL_lines 385 = .ok (.aload_n 0, 1) := by decide +kernel
theorem dL_lines_386 : decode cL_lines 386 = .ok (.iload 12, 2) := by decide +kernel
theorem dL_lines_388 : decode cL_lines 388 = .ok (.invokestatic 232, 3) := by decide +kernel
theorem dL_lines_391 : decode cL_lines 391 = .ok (.aload_n 0, 1) := by decide +kernel
theorem dL_lines_392 : decode cL_lines 392 = .ok (.iload 4, 2) := by decide +kernel
theorem dL_lines_394 : decode cL_lines 394 = .ok (.invokestatic 232, 3) := by decide +kernel
theorem dL_lines_397 : decode cL_lines 397 = .ok (.if_icmp .eq 8, 3) := by decide +kernel
theorem dL_lines_400 : decode cL_lines 400 = .ok (.iload 12, 2) := by decide +kernel
theorem dL_lines_402 : decode cL_lines 402 = .ok (.goto 5, 3) := by decide +kernel
theorem dL_lines_405 : decode cL_lines 405 = .ok (.bipush (-13), 2) := by decide +kernel
theorem dL_lines_407 : decode cL_lines 407 = .ok (.istore 10, 2) := by decide +kernel
theorem dL_lines_409 : decode cL_lines 409 = .ok (.iload 11, 2) := by decide +kernel
theorem dL_lines_411 : decode cL_lines 411 = .ok (.aload_n 0, 1) := by decide +kernel
theorem dL_lines_412 : decode cL_lines 412 = .ok (.iload 4, 2) := by decide +kernel
theorem dL_lines_414 : decode cL_lines 414 = .ok (.invokestatic 234, 3) := by decide +kernel
theorem dL_lines_417 : decode cL_lines 417 = .ok (.iadd, 1) := by decide +kernel
theorem dL_lines_418 : decode cL_lines 418 = .ok (.istore 11, 2) := by decide +kernel
theorem dL_lines_420 : decode cL_lines 420 = .ok (.goto (-71), 3) := by decide +kernel
theorem dL_lines_423 : decode cL_lines 423 = .ok (.iload 8, 2) := by decide +kernel
theorem dL_lines_425 : decode cL_lines 425 = .ok (.ifCond .eq 68, 3) := by decide +kernel
theorem dL_lines_428 : decode cL_lines 428 = .ok (.aload_n 0, 1) := by decide +kernel
theorem dL_lines_429 : decode cL_lines 429 = .ok (.iload 4, 2) := by decide +kernel
theorem dL_lines_431 : decode cL_lines 431 = .ok (.invokestatic 237, 3) := by decide +kernel
theorem dL_lines_434 : decode cL_lines 434 = .ok (.iload 9, 2) := by decide +kernel
theorem dL_lines_436 : decode cL_lines 436 = .ok (.if_icmp .ne 57, 3) := by decide +kernel
theorem dL_lines_439 : decode cL_lines 439 = .ok (.aload_n 0, 1) := by decide +kernel
theorem dL_lines_440 : decode cL_lines 440 = .ok (.iload 4, 2) := by decide +kernel
theorem dL_lines_442 : decode cL_lines 442 = .ok (.invokestatic 240, 3) := by decide +kernel
theorem dL_lines_445 : decode cL_lines 445 = .ok (.iload 9, 2) := by decide +kernel
theorem dL_lines_447 : decode cL_lines 447 = .ok (.if_icmp .ne 46, 3) := by decide +kernel
theorem dL_lines_450 : decode cL_lines 450 = .ok (.aload_n 0, 1) := by decide +kernel
theorem dL_lines_451 : decode cL_lines 451 = .ok (.iload 4, 2) := by decide +kernel
theorem dL_lines_453 : decode cL_lines 453 = .ok (.invokestatic 243, 3) := by decide +kernel
theorem dL_lines_456 : decode cL_lines 456 = .ok (.iload 10, 2) := by decide +kernel
theorem dL_lines_458 : decode cL_lines 458 = .ok (.if_icmp .ne 35, 3) := by decide +kernel
theorem dL_lines_461 : decode cL_lines 461 = .ok (.aload_n 0, 1) := by decide +kernel
theorem dL_lines_462 : decode cL_lines 462 = .ok (.iload 4, 2) := by decide +kernel
theorem dL_lines_464 : decode cL_lines 464 = .ok (.invokestatic 246, 3) := by decide +kernel
theorem dL_lines_467 : decode cL_lines 467 = .ok (.iload 10, 2) := by decide +kernel
theorem dL_lines_469 : decode cL_lines 469 = .ok (.if_icmp .ne 24, 3) := by decide +kernel
theorem dL_lines_472 : decode cL_lines 472 = .ok (.aload_n 0, 1) := by decide +kernel
theorem dL_lines_473 : decode cL_lines 473 = .ok (.iload 4, 2) := by decide +kernel
theorem dL_lines_475 : decode cL_lines 475 = .ok (.invokestatic 197, 3) := by decide +kernel
theorem dL_lines_478 : decode cL_lines 478 = .ok (.bipush (-13), 2) := by decide +kernel
theorem dL_lines_480 : decode cL_lines 480 = .ok (.if_icmp .ne 7, 3) := by decide +kernel
theorem dL_lines_483 : decode cL_lines 483 = .ok (.iconst 1, 1) := by decide +kernel
theorem dL_lines_484 : decode cL_lines 484 = .ok (.goto 4, 3) := by decide +kernel
theorem dL_lines_487 : decode cL_lines 487 = .ok (.iconst 0, 1) := by decide +kernel
theorem dL_lines_488 : decode cL_lines 488 = .ok (.iload 5, 2) := by decide +kernel
theorem dL_lines_490 : decode cL_lines 490 = .ok (.if_icmp .eq 5, 3) := by decide +kernel
theorem dL_lines_493 : decode cL_lines 493 = .ok (.iconst 0, 1) := by decide +kernel
theorem dL_lines_494 : decode cL_lines 494 = .ok (.ireturn, 1) := by decide +kernel
theorem dL_lines_495 : decode cL_lines 495 = .ok (.aload_n 0, 1) := by decide +kernel
theorem dL_lines_496 : decode cL_lines 496 = .ok (.iload 4, 2) := by decide +kernel
theorem dL_lines_498 : decode cL_lines 498 = .ok (.invokestatic 249, 3) := by decide +kernel
theorem dL_lines_501 : decode cL_lines 501 = .ok (.istore 11, 2) := by decide +kernel
theorem dL_lines_503 : decode cL_lines 503 = .ok (.iload 4, 2) := by decide +kernel
theorem dL_lines_505 : decode cL_lines 505 = .ok (.ifCond .ne 7, 3) := by decide +kernel
theorem dL_lines_508 : decode cL_lines 508 = .ok (.iconst (-1), 1) := by decide +kernel
theorem dL_lines_509 : decode cL_lines 509 = .ok (.goto 11, 3) := by decide +kernel
theorem dL_lines_512 : decode cL_lines 512 = .ok (.aload_n 0, 1) := by decide +kernel
theorem dL_lines_513 : decode cL_lines 513 = .ok (.iload 4, 2) := by decide +kernel
theorem dL_lines_515 : decode cL_lines 515 = .ok (.iconst 1, 1) := by decide +kernel
theorem dL_lines_516 : decode cL_lines 516 = .ok (.isub, 1) := by decide +kernel
theorem dL_lines_517 : decode cL_lines 517 = .ok (.invokestatic 249, 3) := by decide +kernel
theorem dL_lines_520 : decode cL_lines 520 = .ok (.istore 12, 2) := by decide +kernel
theorem dL_lines_522 : decode cL_lines 522 = .ok (.iload 4, 2) := by decide +kernel
theorem dL_lines_524 : decode cL_lines 524 = .ok (.ifCond .ne 7, 3) := by decide +kernel
theorem dL_lines_527 : decode cL_lines 527 = .ok (.iconst 1, 1) := by decide +kernel
theorem dL_lines_528 : decode cL_lines 528 = .ok (.goto 16, 3) := by decide +kernel
theorem dL_lines_531 : decode cL_lines 531 = .ok (.aload_n 0, 1) := by decide +kernel
theorem dL_lines_532 : decode cL_lines 532 = .ok (.iload 12, 2) := by decide +kernel
theorem dL_lines_534 : decode cL_lines 534 = .ok (.invokestatic 205, 3) := by decide +kernel
theorem dL_lines_537 : decode cL_lines 537 = .ok (.aload_n 0, 1) := by decide +kernel
theorem dL_lines_538 : decode cL_lines 538 = .ok (.iload 11, 2) := by decide +kernel
theorem dL_lines_540 : decode cL_lines 540 = .ok (.invokestatic 205, 3) := by decide +kernel
theorem dL_lines_543 : decode cL_lines 543 = .ok (.isub, 1) := by decide +kernel
theorem dL_lines_544 : decode cL_lines 544 = .ok (.istore 13, 2) := by decide +kernel
theorem dL_lines_546 : decode cL_lines 546 = .ok (.iload 11, 2) := by decide +kernel
theorem dL_lines_548 : decode cL_lines 548 = .ok (.ifCond .lt 20, 3) := by decide +kernel
theorem dL_lines_551 : decode cL_lines 551 = .ok (.iload 13, 2) := by decide +kernel
theorem dL_lines_553 : decode cL_lines 553 = .ok (.ifCond .lt 15, 3) := by decide +kernel
theorem dL_lines_556 : decode cL_lines 556 = .ok (.iload 13, 2) := by decide +kernel
theorem dL_lines_558 : decode cL_lines 558 = .ok (.ifCond .ne 12, 3) := by decide +kernel
theorem dL_lines_561 : decode cL_lines 561 = .ok (.iload 12, 2) := by decide +kernel
theorem dL_lines_563 : decode cL_lines 563 = .ok (.iload 11, 2) := by decide +kernel
theorem dL_lines_565 : decode cL_lines 565 = .ok (.if_icmp .le 5, 3) := by decide +kernel
theorem dL_lines_568 : decode cL_lines 568 = .ok (.iconst 0, 1) := by decide +kernel
theorem dL_lines_569 : decode cL_lines 569 = .ok (.ireturn, 1) := by decide +kernel
theorem dL_lines_570 : decode cL_lines 570 = .ok (.iinc 4 1, 3) := by decide +kernel
theorem dL_lines_573 : decode cL_lines 573 = .ok (.goto (-482), 3) := by decide +kernel
theorem dL_lines_576 : decode cL_lines 576 = .ok (.iload_n 2, 1) := by decide +kernel
theorem dL_lines_577 : decode cL_lines 577 = .ok (.iload_n 3, 1) := by decide +kernel
theorem dL_lines_578 : decode cL_lines 578 = .ok (.if_icmp .ne 210, 3) := by decide +kernel
theorem dL_lines_581 : decode cL_lines 581 = .ok (.aload_n 0, 1) := by decide +kernel
theorem dL_lines_582 : decode cL_lines 582 = .ok (.iload_n 1, 1) := by decide +kernel
theorem dL_lines_583 : decode cL_lines 583 = .ok (.invokestatic 249, 3) := by decide +kernel
theorem dL_lines_586 : decode cL_lines 586 = .ok (.bipush (-13), 2) := by decide +kernel
theorem dL_lines_588 : decode cL_lines 588 = .ok (.if_icmp .ne 200, 3) := by decide +kernel
theorem dL_lines_591 : decode cL_lines 591 = .ok (.aload_n 0, 1) := by decide +kernel
theorem dL_lines_592 : decode cL_lines 592 = .ok (.iconst (-1), 1) := by decide +kernel
theorem dL_lines_593 : decode cL_lines 593 = .ok (.invokestatic 249, 3) := by decide +kernel
theorem dL_lines_596 : decode cL_lines 596 = .ok (.bipush (-13), 2) := by decide +kernel
theorem dL_lines_598 : decode cL_lines 598 = .ok (.if_icmp .ne 190, 3) := by decide +kernel
theorem dL_lines_601 : decode cL_lines 601 = .ok (.aload_n 0, 1) := by decide +kernel
theorem dL_lines_602 : decode cL_lines 602 = .ok (.iload_n 1, 1) := by decide +kernel
theorem dL_lines_603 : decode cL_lines 603 = .ok (.invokestatic 232, 3) := by decide +kernel
theorem dL_lines_606 : decode cL_lines 606 = .ok (.bipush (-11), 2) := by decide +kernel
theorem dL_lines_608 : decode cL_lines 608 = .ok (.if_icmp .ne 180, 3) := by decide +kernel
theorem dL_lines_611 : decode cL_lines 611 = .ok (.aload_n 0, 1) := by decide +kernel
theorem dL_lines_612 : decode cL_lines 612 = .ok (.iload_n 1, 1) := by decide +kernel
theorem dL_lines_613 : decode cL_lines 613 = .ok (.invokestatic 195, 3) := by decide +kernel
theorem dL_lines_616 : decode cL_lines 616 = .ok (.bipush (-11), 2) := by decide +kernel
theorem dL_lines_618 : decode cL_lines 618 = .ok (.if_icmp .ne 170, 3) := by decide +kernel
theorem dL_lines_621 : decode cL_lines 621 = .ok (.aload_n 0, 1) := by decide +kernel
theorem dL_lines_622 : decode cL_lines 622 = .ok (.iload_n 1, 1) := by decide +kernel
theorem dL_lines_623 : decode cL_lines 623 = .ok (.invokestatic 197, 3) := by decide +kernel
theorem dL_lines_626 : decode cL_lines 626 = .ok (.bipush (-11), 2) := by decide +kernel
theorem dL_lines_628 : decode cL_lines 628 = .ok (.if_icmp .ne 160, 3) := by decide +kernel
theorem dL_lines_631 : decode cL_lines 631 = .ok (.aload_n 0, 1) := by decide +kernel
theorem dL_lines_632 : decode cL_lines 632 = .ok (.iload_n 1, 1) := by decide +kernel
theorem dL_lines_633 : decode cL_lines 633 = .ok (.invokestatic 203, 3) := by decide +kernel
theorem dL_lines_636 : decode cL_lines 636 = .ok (.bipush (-11), 2) := by decide +kernel
theorem dL_lines_638 : decode cL_lines 638 = .ok (.if_icmp .ne 150, 3) := by decide +kernel
theorem dL_lines_641 : decode cL_lines 641 = .ok (.aload_n 0, 1) := by decide +kernel
theorem dL_lines_642 : decode cL_lines 642 = .ok (.iconst (-1), 1) := by decide +kernel
theorem dL_lines_643 : decode cL_lines 643 = .ok (.invokestatic 205, 3) := by decide +kernel
theorem dL_lines_646 : decode cL_lines 646 = .ok (.bipush (-11), 2) := by decide +kernel
theorem dL_lines_648 : decode cL_lines 648 = .ok (.if_icmp .ne 140, 3) := by decide +kernel
theorem dL_lines_651 : decode cL_lines 651 = .ok (.aload_n 0, 1) := by decide +kernel
theorem dL_lines_652 : decode cL_lines 652 = .ok (.iload_n 1, 1) := by decide +kernel
theorem dL_lines_653 : decode cL_lines 653 = .ok (.invokestatic 208, 3) := by decide +kernel
theorem dL_lines_656 : decode cL_lines 656 = .ok (.bipush (-11), 2) := by decide +kernel
theorem dL_lines_658 : decode cL_lines 658 = .ok (.if_icmp .ne 130, 3) := by decide +kernel
theorem dL_lines_661 : decode cL_lines 661 = .ok (.aload_n 0, 1) := by decide +kernel
theorem dL_lines_662 : decode cL_lines 662 = .ok (.iload_n 1, 1) := by decide +kernel
theorem dL_lines_663 : decode cL_lines 663 = .ok (.invokestatic 215, 3) := by decide +kernel
theorem dL_lines_666 : decode cL_lines 666 = .ok (.bipush (-11), 2) := by decide +kernel
theorem dL_lines_668 : decode cL_lines 668 = .ok (.if_icmp .ne 120, 3) := by decide +kernel
theorem dL_lines_671 : decode cL_lines 671 = .ok (.aload_n 0, 1) := by decide +kernel
theorem dL_lines_672 : decode cL_lines 672 = .ok (.iload_n 1, 1) := by decide +kernel
theorem dL_lines_673 : decode cL_lines 673 = .ok (.invokestatic 211, 3) := by decide +kernel
theorem dL_lines_676 : decode cL_lines 676 = .ok (.bipush (-11), 2) := by decide +kernel
theorem dL_lines_678 : decode cL_lines 678 = .ok (.if_icmp .ne 110, 3) := by decide +kernel
theorem dL_lines_681 : decode cL_lines 681 = .ok (.aload_n 0, 1) := by decide +kernel
theorem dL_lines_682 : decode cL_lines 682 = .ok (.iload_n 1, 1) := by decide +kernel
theorem dL_lines_683 : decode cL_lines 683 = .ok (.invokestatic 213, 3) := by decide +kernel
theorem dL_lines_686 : decode cL_lines 686 = .ok (.bipush (-11), 2) := by decide +kernel
theorem dL_lines_688 : decode cL_lines 688 = .ok (.if_icmp .ne 100, 3) := by decide +kernel
theorem dL_lines_691 : decode cL_lines 691 = .ok (.aload_n 0, 1) := by decide +kernel
theorem dL_lines_692 : decode cL_lines 692 = .ok (.iload_n 1, 1) := by decide +kernel
theorem dL_lines_693 : decode cL_lines 693 = .ok (.invokestatic 252, 3) := by decide +kernel
theorem dL_lines_696 : decode cL_lines 696 = .ok (.bipush (-11), 2) := by decide +kernel
theorem dL_lines_698 : decode cL_lines 698 = .ok (.if_icmp .ne 90, 3) := by decide +kernel
theorem dL_lines_701 : decode cL_lines 701 = .ok (.aload_n 0, 1) := by decide +kernel
theorem dL_lines_702 : decode cL_lines 702 = .ok (.iconst 3, 1) := by decide +kernel
theorem dL_lines_703 : decode cL_lines 703 = .ok (.iconst 0, 1) := by decide +kernel
theorem dL_lines_704 : decode cL_lines 704 = .ok (.invokestatic 174, 3) := by decide +kernel
theorem dL_lines_707 : decode cL_lines 707 = .ok (.bipush (-11), 2) := by decide +kernel
theorem dL_lines_709 : decode cL_lines 709 = .ok (.if_icmp .ne 79, 3) := by decide +kernel
theorem dL_lines_712 : decode cL_lines 712 = .ok (.aload_n 0, 1) := by decide +kernel
theorem dL_lines_713 : decode cL_lines 713 = .ok (.iconst 0, 1) := by decide +kernel
theorem dL_lines_714 : decode cL_lines 714 = .ok (.bipush 10, 2) := by decide +kernel
theorem dL_lines_716 : decode cL_lines 716 = .ok (.invokestatic 174, 3) := by decide +kernel
theorem dL_lines_719 : decode cL_lines 719 = .ok (.bipush (-11), 2) := by decide +kernel
theorem dL_lines_721 : decode cL_lines 721 = .ok (.if_icmp .ne 67, 3) := by decide +kernel
theorem dL_lines_724 : decode cL_lines 724 = .ok (.aload_n 0, 1) := by decide +kernel
theorem dL_lines_725 : decode cL_lines 725 = .ok (.iload_n 1, 1) := by decide +kernel
theorem dL_lines_726 : decode cL_lines 726 = .ok (.invokestatic 217, 3) := by decide +kernel
theorem dL_lines_729 : decode cL_lines 729 = .ok (.bipush (-11), 2) := by decide +kernel
theorem dL_lines_731 : decode cL_lines 731 = .ok (.if_icmp .ne 57, 3) := by decide +kernel
theorem dL_lines_734 : decode cL_lines 734 = .ok (.aload_n 0, 1) := by decide +kernel
theorem dL_lines_735 : decode cL_lines 735 = .ok (.iload_n 1, 1) := by decide +kernel
theorem dL_lines_736 : decode cL_lines 736 = .ok (.invokestatic 223, 3) := by decide +kernel
theorem dL_lines_739 : decode cL_lines 739 = .ok (.bipush (-11), 2) := by decide +kernel
theorem dL_lines_741 : decode cL_lines 741 = .ok (.if_icmp .ne 47, 3) := by decide +kernel
theorem dL_lines_744 : decode cL_lines 744 = .ok (.aload_n 0, 1) := by decide +kernel
theorem dL_lines_745 : decode cL_lines 745 = .ok (.iload_n 1, 1) := by decide +kernel
theorem dL_lines_746 : decode cL_lines 746 = .ok (.invokestatic 237, 3) := by decide +kernel
theorem dL_lines_749 : decode cL_lines 749 = .ok (.bipush (-11), 2) := by decide +kernel
theorem dL_lines_751 : decode cL_lines 751 = .ok (.if_icmp .ne 37, 3) := by decide +kernel
theorem dL_lines_754 : decode cL_lines 754 = .ok (.aload_n 0, 1) := by decide +kernel
theorem dL_lines_755 : decode cL_lines 755 = .ok (.iconst (-1), 1) := by decide +kernel
theorem dL_lines_756 : decode cL_lines 756 = .ok (.invokestatic 240, 3) := by decide +kernel
theorem dL_lines_759 : decode cL_lines 759 = .ok (.bipush (-11), 2) := by decide +kernel
theorem dL_lines_761 : decode cL_lines 761 = .ok (.if_icmp .ne 27, 3) := by decide +kernel
theorem dL_lines_764 : decode cL_lines 764 = .ok (.aload_n 0, 1) := by decide +kernel
theorem dL_lines_765 : decode cL_lines 765 = .ok (.iload_n 1, 1) := by decide +kernel
theorem dL_lines_766 : decode cL_lines 766 = .ok (.invokestatic 243, 3) := by decide +kernel
theorem dL_lines_769 : decode cL_lines 769 = .ok (.bipush (-11), 2) := by decide +kernel
theorem dL_lines_771 : decode cL_lines 771 = .ok (.if_icmp .ne 17, 3) := by decide +kernel
theorem dL_lines_774 : decode cL_lines 774 = .ok (.aload_n 0, 1) := by decide +kernel
theorem dL_lines_775 : decode cL_lines 775 = .ok (.iload_n 1, 1) := by decide +kernel
theorem dL_lines_776 : decode cL_lines 776 = .ok (.invokestatic 246, 3) := by decide +kernel
theorem dL_lines_779 : decode cL_lines 779 = .ok (.bipush (-11), 2) := by decide +kernel
theorem dL_lines_781 : decode cL_lines 781 = .ok (.if_icmp .ne 7, 3) := by decide +kernel
theorem dL_lines_784 : decode cL_lines 784 = .ok (.iconst 1, 1) := by decide +kernel
theorem dL_lines_785 : decode cL_lines 785 = .ok (.goto 4, 3) := by decide +kernel
theorem dL_lines_788 : decode cL_lines 788 = .ok (.iconst 0, 1) := by decide +kernel
theorem dL_lines_789 : decode cL_lines 789 = .ok (.ireturn, 1) := by decide +kernel
theorem dL_sides_0 : decode cL_sides 0 = .ok (.aload_n 0, 1) := by decide +kernel
theorem dL_sides_1 : decode cL_sides 1 = .ok (.invokevirtual 160, 3) := by decide +kernel
theorem dL_sides_4 : decode cL_sides 4 = .ok (.istore_n 1, 1) := by decide +kernel
theorem dL_sides_5 : decode cL_sides 5 = .ok (.iconst 0, 1) := by decide +kernel
theorem dL_sides_6 : decode cL_sides 6 = .ok (.istore_n 2, 1) := by decide +kernel
theorem dL_sides_7 : decode cL_sides 7 = .ok (.iconst 0, 1) := by decide +kernel
theorem dL_sides_8 : decode cL_sides 8 = .ok (.istore_n 3, 1) := by decide +kernel
theorem dL_sides_9 : decode cL_sides 9 = .ok (.iconst 0, 1) := by decide +kernel
theorem dL_sides_10 : decode cL_sides 10 = .ok (.istore 4, 2) := by decide +kernel
theorem dL_sides_12 : decode cL_sides 12 = .ok (.iconst 2, 1) := by decide +kernel
theorem dL_sides_13 : decode cL_sides 13 = .ok (.newarray .int, 2) := by decide +kernel
theorem dL_sides_15 : decode cL_sides 15 = .ok (.astore 5, 2) := by decide +kernel
theorem dL_sides_17 : decode cL_sides 17 = .ok (.iconst 0, 1) := by decide +kernel
theorem dL_sides_18 : decode cL_sides 18 = .ok (.istore 6, 2) := by decide +kernel
theorem dL_sides_20 : decode cL_sides 20 = .ok (.iload 6, 2) := by decide +kernel
theorem dL_sides_22 : decode cL_sides 22 = .ok (.iconst 2, 1) := by decide +kernel
theorem dL_sides_23 : decode cL_sides 23 = .ok (.if_icmp .ge 299, 3) := by decide +kernel
theorem dL_sides_26 : decode cL_sides 26 = .ok (.iconst 0, 1) := by decide +kernel
theorem dL_sides_27 : decode cL_sides 27 = .ok (.istore 7, 2) := by decide +kernel
theorem dL_sides_29 : decode cL_sides 29 = .ok (.iconst 0, 1) := by decide +kernel
theorem dL_sides_30 : decode cL_sides 30 = .ok (.istore 8, 2) := by decide +kernel
theorem dL_sides_32 : decode cL_sides 32 = .ok (.iload 8, 2) := by decide +kernel
theorem dL_sides_34 : decode cL_sides 34 = .ok (.iload_n 1, 1) := by decide +kernel
theorem dL_sides_35 : decode cL_sides 35 = .ok (.if_icmp .ge 107, 3) := by decide +kernel
theorem dL_sides_38 : decode cL_sides 38 = .ok (.aload_n 0, 1) := by decide +kernel
theorem dL_sides_39 : decode cL_sides 39 = .ok (.iload 8, 2) := by decide +kernel
theorem dL_sides_41 : decode cL_sides 41 = .ok (.invokevirtual 30, 3) := by decide +kernel
theorem dL_sides_44 : decode cL_sides 44 = .ok (.iload 6, 2) := by decide +kernel
theorem dL_sides_46 : decode cL_sides 46 = .ok (.if_icmp .ne 90, 3) := by decide +kernel
theorem dL_sides_49 : decode cL_sides 49 = .ok (.aload_n 0, 1) := by decide +kernel
theorem dL_sides_50 : decode cL_sides 50 = .ok (.iload 8, 2) := by decide +kernel
theorem dL_sides_52 : decode cL_sides 52 = .ok (.invokestatic 199, 3) := by decide +kernel
theorem dL_sides_55 : decode cL_sides 55 = .ok (.istore 9, 2) := by decide +kernel
theorem dL_sides_57 : decode cL_sides 57 = .ok (.aload 5, 2) := by decide +kernel
theorem dL_sides_59 : decode cL_sides 59 = .ok (.iload 6, 2) := by decide +kernel
theorem dL_sides_61 : decode cL_sides 61 = .ok (.dup2, 1) := by decide +kernel
theorem dL_sides_62 : decode cL_sides 62 = .ok (.iaload, 1) := by decide +kernel
theorem dL_sides_63 : decode cL_sides 63 = .ok (.aload_n 0, 1) := by decide +kernel
theorem dL_sides_64 : decode cL_sides 64 = .ok (.iload 8, 2) := by decide +kernel
theorem dL_sides_66 : decode cL_sides 66 = .ok (.invokevirtual 45, 3) := by decide +kernel
theorem dL_sides_69 : decode cL_sides 69 = .ok (.iadd, 1) := by decide +kernel
theorem dL_sides_70 : decode cL_sides 70 = .ok (.iastore, 1) := by decide +kernel
theorem dL_sides_71 : decode cL_sides 71 = .ok (.iload 7, 2) := by decide +kernel
theorem dL_sides_73 : decode cL_sides 73 = .ok (.iload 9, 2) := by decide +kernel
theorem dL_sides_75 : decode cL_sides 75 = .ok (.ifCond .eq 7, 3) := by decide +kernel
theorem dL_sides_78 : decode cL_sides 78 = .ok (.iconst 1, 1) := by decide +kernel
theorem dL_sides_79 : decode cL_sides 79 = .ok (.goto 4, 3) := by decide +kernel
theorem dL_sides_82 : decode cL_sides 82 = .ok (.iconst 0, 1) := by decide +kernel
theorem dL_sides_83 : decode cL_sides 83 = .ok (.iadd, 1) := by decide +kernel
theorem dL_sides_84 : decode cL_sides 84 = .ok (.istore 7, 2) := by decide +kernel
theorem dL_sides_86 : decode cL_sides 86 = .ok (.iload_n 3, 1) := by decide +kernel
theorem dL_sides_87 : decode cL_sides 87 = .ok (.iload 9, 2) := by decide +kernel
theorem dL_sides_89 : decode cL_sides 89 = .ok (.ifCond .eq 7, 3) := by decide +kernel
theorem dL_sides_92 : decode cL_sides 92 = .ok (.iconst 0, 1) := by decide +kernel
theorem dL_sides_93 : decode cL_sides 93 = .ok (.goto 4, 3) := by decide +kernel
theorem dL_sides_96 : decode cL_sides 96 = .ok (.iconst 1, 1) := by decide +kernel
theorem dL_sides_97 : decode cL_sides 97 = .ok (.iadd, 1) := by decide +kernel
theorem dL_sides_98 : decode cL_sides 98 = .ok (.istore_n 3, 1) := by decide +kernel
theorem dL_sides_99 : decode cL_sides 99 = .ok (.iload 4, 2) := by decide +kernel
theorem dL_sides_101 : decode cL_sides 101 = .ok (.iload 9, 2) := by decide +kernel
theorem dL_sides_103 : decode cL_sides 103 = .ok (.ifCond .eq 7, 3) := by decide +kernel
theorem dL_sides_106 : decode cL_sides 106 = .ok (.iconst 0, 1) := by decide +kernel
theorem dL_sides_107 : decode cL_sides 107 = .ok (.goto 9, 3) := by decide +kernel
theorem dL_sides_110 : decode cL_sides 110 = .ok (.aload_n 0, 1) := by decide +kernel
theorem dL_sides_111 : decode cL_sides 111 = .ok (.iload 8, 2) := by decide +kernel
theorem dL_sides_113 : decode cL_sides 113 = .ok (.invokevirtual 48, 3) := by decide +kernel
theorem dL_sides_116 : decode cL_sides 116 = .ok (.iadd, 1) := by decide +kernel
theorem dL_sides_117 : decode cL_sides 117 = .ok (.istore 4, 2) := by decide +kernel
theorem dL_sides_119 : decode cL_sides 119 = .ok (.iload_n 2, 1) := by decide +kernel
theorem dL_sides_120 : decode cL_sides 120 = .ok (.aload_n 0, 1) := by decide +kernel
theorem dL_sides_121 : decode cL_sides 121 = .ok (.iload 8, 2) := by decide +kernel
theorem dL_sides_123 : decode cL_sides 123 = .ok (.invokevirtual 54, 3) := by decide +kernel
theorem dL_sides_126 : decode cL_sides 126 = .ok (.ifCond .eq 7, 3) := by decide +kernel
theorem dL_sides_129 : decode cL_sides 129 = .ok (.iconst 1, 1) := by decide +kernel
theorem dL_sides_130 : decode cL_sides 130 = .ok (.goto 4, 3) := by decide +kernel
theorem dL_sides_133 : decode cL_sides 133 = .ok (.iconst 0, 1) := by decide +kernel
theorem dL_sides_134 : decode cL_sides 134 = .ok (.iadd, 1) := by decide +kernel
theorem dL_sides_135 : decode cL_sides 135 = .ok (.istore_n 2, 1) := by decide +kernel
theorem dL_sides_136 : decode cL_sides 136 = .ok (.iinc 8 1, 3) := by decide +kernel
theorem dL_sides_139 : decode cL_sides 139 = .ok (.goto (-107), 3) := by decide +kernel
theorem dL_sides_142 : decode cL_sides 142 = .ok (.iconst 0, 1) := by decide +kernel
theorem dL_sides_143 : decode cL_sides 143 = .ok (.istore 8, 2) := by decide +kernel
theorem dL_sides_145 : decode cL_sides 145 = .ok (.iload 8, 2) := by decide +kernel
theorem dL_sides_147 : decode cL_sides 147 = .ok (.iconst 3, 1) := by decide +kernel
theorem dL_sides_148 : decode cL_sides 148 = .ok (.if_icmp .ge 96, 3) := by decide +kernel
theorem dL_sides_151 : decode cL_sides 151 = .ok (.bipush (-13), 2) := by decide +kernel
theorem dL_sides_153 : decode cL_sides 153 = .ok (.istore 9, 2) := by decide +kernel
theorem dL_sides_155 : decode cL_sides 155 = .ok (.iconst 0, 1) := by decide +kernel
theorem dL_sides_156 : decode cL_sides 156 = .ok (.istore 10, 2) := by decide +kernel
theorem dL_sides_158 : decode cL_sides 158 = .ok (.iload 10, 2) := by decide +kernel
theorem dL_sides_160 : decode cL_sides 160 = .ok (.bipush 10, 2) := by decide +kernel
theorem dL_sides_162 : decode cL_sides 162 = .ok (.if_icmp .ge 61, 3) := by decide +kernel
theorem dL_sides_165 : decode cL_sides 165 = .ok (.iload 6, 2) := by decide +kernel
theorem dL_sides_167 : decode cL_sides 167 = .ok (.ifCond .ne 8, 3) := by decide +kernel
theorem dL_sides_170 : decode cL_sides 170 = .ok (.iload 10, 2) := by decide +kernel
theorem dL_sides_172 : decode cL_sides 172 = .ok (.goto 8, 3) := by decide +kernel
theorem dL_sides_175 : decode cL_sides 175 = .ok (.bipush 9, 2) := by decide +kernel
theorem dL_sides_177 : decode cL_sides 177 = .ok (.iload 10, 2) := by decide +kernel
theorem dL_sides_179 : decode cL_sides 179 = .ok (.isub, 1) := by decide +kernel
theorem dL_sides_180 : decode cL_sides 180 = .ok (.istore 11, 2) := by decide +kernel
theorem dL_sides_182 : decode cL_sides 182 = .ok (.aload_n 0, 1) := by decide +kernel
theorem dL_sides_183 : decode cL_sides 183 = .ok (.iload 8, 2) := by decide +kernel
theorem dL_sides_185 : decode cL_sides 185 = .ok (.iload 11, 2) := by decide +kernel
theorem dL_sides_187 : decode cL_sides 187 = .ok (.invokestatic 174, 3) := by decide +kernel
theorem dL_sides_190 : decode cL_sides 190 = .ok (.istore 12, 2) := by decide +kernel
theorem dL_sides_192 : decode cL_sides 192 = .ok (.iload 12, 2) := by decide +kernel
theorem dL_sides_194 : decode cL_sides 194 = .ok (.ifCond .lt 19, 3) := by decide +kernel
theorem dL_sides_197 : decode cL_sides 197 = .ok (.aload_n 0, 1) := by decide +kernel
theorem dL_sides_198 : decode cL_sides 198 = .ok (.iload 12, 2) := by decide +kernel
theorem dL_sides_200 : decode cL_sides 200 = .ok (.invokevirtual 30, 3) := by decide +kernel
theorem dL_sides_203 : decode cL_sides 203 = .ok (.iload 6, 2) := by decide +kernel
theorem dL_sides_205 : decode cL_sides 205 = .ok (.if_icmp .ne 8, 3) := by decide +kernel
theorem dL_sides_208 : decode cL_sides 208 = .ok (.iload 11, 2) := by decide +kernel
theorem dL_sides_210 : decode cL_sides 210 = .ok (.goto 5, 3) := by decide +kernel
theorem dL_sides_213 : decode cL_sides 213 = .ok (.iload 9, 2) := by decide +kernel
theorem dL_sides_215 : decode cL_sides 215 = .ok (.istore 9, 2) := by decide +kernel
theorem dL_sides_217 : decode cL_sides 217 = .ok (.iinc 10 1, 3) := by decide +kernel
theorem dL_sides_220 : decode cL_sides 220 = .ok (.goto (-62), 3) := by decide +kernel
theorem dL_sides_223 : decode cL_sides 223 = .ok (.aload_n 0, 1) := by decide +kernel
theorem dL_sides_224 : decode cL_sides 224 = .ok (.iload 6, 2) := by decide +kernel
theorem dL_sides_226 : decode cL_sides 226 = .ok (.iload 8, 2) := by decide +kernel
theorem dL_sides_228 : decode cL_sides 228 = .ok (.invokestatic 255, 3) := by decide +kernel
theorem dL_sides_231 : decode cL_sides 231 = .ok (.iload 9, 2) := by decide +kernel
theorem dL_sides_233 : decode cL_sides 233 = .ok (.if_icmp .eq 5, 3) := by decide +kernel
theorem dL_sides_236 : decode cL_sides 236 = .ok (.iconst 0, 1) := by decide +kernel
theorem dL_sides_237 : decode cL_sides 237 = .ok (.ireturn, 1) := by decide +kernel
theorem dL_sides_238 : decode cL_sides 238 = .ok (.iinc 8 1, 3) := by decide +kernel
theorem dL_sides_241 : decode cL_sides 241 = .ok (.goto (-96), 3) := by decide +kernel
theorem dL_sides_244 : decode cL_sides 244 = .ok (.aload_n 0, 1) := by decide +kernel
theorem dL_sides_245 : decode cL_sides 245 = .ok (.iload 6, 2) := by decide +kernel
theorem dL_sides_247 : decode cL_sides 247 = .ok (.invokestatic 258, 3) := by decide +kernel
theorem dL_sides_250 : decode cL_sides 250 = .ok (.aload 5, 2) := by decide +kernel
theorem dL_sides_252 : decode cL_sides 252 = .ok (.iload 6, 2) := by decide +kernel
theorem dL_sides_254 : decode cL_sides 254 = .ok (.iaload, 1) := by decide +kernel
theorem dL_sides_255 : decode cL_sides 255 = .ok (.if_icmp .ne 59, 3) := by decide +kernel
theorem dL_sides_258 : decode cL_sides 258 = .ok (.aload_n 0, 1) := by decide +kernel
theorem dL_sides_259 : decode cL_sides 259 = .ok (.iload 6, 2) := by decide +kernel
theorem dL_sides_261 : decode cL_sides 261 = .ok (.invokestatic 261, 3) := by decide +kernel
theorem dL_sides_264 : decode cL_sides 264 = .ok (.aload 5, 2) := by decide +kernel
theorem dL_sides_266 : decode cL_sides 266 = .ok (.iload 6, 2) := by decide +kernel
theorem dL_sides_268 : decode cL_sides 268 = .ok (.iaload, 1) := by decide +kernel
theorem dL_sides_269 : decode cL_sides 269 = .ok (.if_icmp .ne 45, 3) := by decide +kernel
theorem dL_sides_272 : decode cL_sides 272 = .ok (.aload_n 0, 1) := by decide +kernel
theorem dL_sides_273 : decode cL_sides 273 = .ok (.iload 6, 2) := by decide +kernel
theorem dL_sides_275 : decode cL_sides 275 = .ok (.invokestatic 264, 3) := by decide +kernel
theorem dL_sides_278 : decode cL_sides 278 = .ok (.iload 7, 2) := by decide +kernel
theorem dL_sides_280 : decode cL_sides 280 = .ok (.if_icmp .ne 34, 3) := by decide +kernel
theorem dL_sides_283 : decode cL_sides 283 = .ok (.aload_n 0, 1) := by decide +kernel
theorem dL_sides_284 : decode cL_sides 284 = .ok (.iload 6, 2) := by decide +kernel
theorem dL_sides_286 : decode cL_sides 286 = .ok (.invokestatic 267, 3) := by decide +kernel
theorem dL_sides_289 : decode cL_sides 289 = .ok (.ifCond .lt 25, 3) := by decide +kernel
theorem dL_sides_292 : decode cL_sides 292 = .ok (.aload_n 0, 1) := by decide +kernel
theorem dL_sides_293 : decode cL_sides 293 = .ok (.iload 6, 2) := by decide +kernel
theorem dL_sides_295 : decode cL_sides 295 = .ok (.invokestatic 267, 3) := by decide +kernel
theorem dL_sides_298 : decode cL_sides 298 = .ok (.iconst 3, 1) := by decide +kernel
theorem dL_sides_299 : decode cL_sides 299 = .ok (.if_icmp .gt 15, 3) := by decide +kernel
theorem dL_sides_302 : decode cL_sides 302 = .ok (.aload_n 0, 1) := by decide +kernel
theorem dL_sides_303 : decode cL_sides 303 = .ok (.iload 6, 2) := by decide +kernel
theorem dL_sides_305 : decode cL_sides 305 = .ok (.iconst 3, 1) := by decide +kernel
theorem dL_sides_306 : decode cL_sides 306 = .ok (.invokestatic 255, 3) := by decide +kernel
theorem dL_sides_309 : decode cL_sides 309 = .ok (.bipush (-12), 2) := by decide +kernel
theorem dL_sides_311 : decode cL_sides 311 = .ok (.if_icmp .eq 5, 3) := by decide +kernel
theorem dL_sides_314 : decode cL_sides 314 = .ok (.iconst 0, 1) := by decide +kernel
theorem dL_sides_315 : decode cL_sides 315 = .ok (.ireturn, 1) := by decide +kernel
theorem dL_sides_316 : decode cL_sides 316 = .ok (.iinc 6 1, 3) := by decide +kernel
theorem dL_sides_319 : decode cL_sides 319 = .ok (.goto (-299), 3) := by decide +kernel
theorem dL_sides_322 : decode cL_sides 322 = .ok (.iload_n 3, 1) := by decide +kernel
theorem dL_sides_323 : decode cL_sides 323 = .ok (.ifCond .eq 17, 3) := by decide +kernel
theorem dL_sides_326 : decode cL_sides 326 = .ok (.aload_n 0, 1) := by decide +kernel
theorem dL_sides_327 : decode cL_sides 327 = .ok (.invokevirtual 270, 3) := by decide +kernel
theorem dL_sides_330 : decode cL_sides 330 = .ok (.iload 4, 2) := by decide +kernel
theorem dL_sides_332 : decode cL_sides 332 = .ok (.i2d, 1) := by decide +kernel
theorem dL_sides_333 : decode cL_sides 333 = .ok (.iload_n 3, 1) := by decide +kernel
theorem dL_sides_334 : decode cL_sides 334 = .ok (.i2d, 1) := by decide +kernel
theorem dL_sides_335 : decode cL_sides 335 = .ok (.ddiv, 1) := by decide +kernel
theorem dL_sides_336 : decode cL_sides 336 = .ok (.dcmp .l, 1) := by decide +kernel
theorem dL_sides_337 : decode cL_sides 337 = .ok (.ifCond .ne 7, 3) := by decide +kernel
theorem dL_sides_340 : decode cL_sides 340 = .ok (.iconst 1, 1) := by decide +kernel
theorem dL_sides_341 : decode cL_sides 341 = .ok (.goto 4, 3) := by decide +kernel
theorem dL_sides_344 : decode cL_sides 344 = .ok (.iconst 0, 1) := by decide +kernel
theorem dL_sides_345 : decode cL_sides 345 = .ok (.istore 6, 2) := by decide +kernel
theorem dL_sides_347 : decode cL_sides 347 = .ok (.iload 6, 2) := by decide +kernel
theorem dL_sides_349 : decode cL_sides 349 = .ok (.ifCond .eq 117, 3) := by decide +kernel
theorem dL_sides_352 : decode cL_sides 352 = .ok (.aload_n 0, 1) := by decide +kernel
theorem dL_sides_353 : decode cL_sides 353 = .ok (.invokevirtual 274, 3) := by decide +kernel
theorem dL_sides_356 : decode cL_sides 356 = .ok (.iload_n 2, 1) := by decide +kernel
theorem dL_sides_357 : decode cL_sides 357 = .ok (.i2f, 1) := by decide +kernel
theorem dL_sides_358 : decode cL_sides 358 = .ok (.iload_n 1, 1) := by decide +kernel
theorem dL_sides_359 : decode cL_sides 359 = .ok (.i2f, 1) := by decide +kernel
theorem dL_sides_360 : decode cL_sides 360 = .ok (.fdiv, 1) := by decide +kernel
theorem dL_sides_361 : decode cL_sides 361 = .ok (.fcmp .l, 1) := by decide +kernel
theorem dL_sides_362 : decode cL_sides 362 = .ok (.ifCond .ne 104, 3) := by decide +kernel
theorem dL_sides_365 : decode cL_sides 365 = .ok (.aload_n 0, 1) := by decide +kernel
theorem dL_sides_366 : decode cL_sides 366 = .ok (.invokestatic 278, 3) := by decide +kernel
theorem dL_sides_369 : decode cL_sides 369 = .ok (.aload 5, 2) := by decide +kernel
theorem dL_sides_371 : decode cL_sides 371 = .ok (.iconst 0, 1) := by decide +kernel
theorem dL_sides_372 : decode cL_sides 372 = .ok (.iaload, 1) := by decide +kernel
theorem dL_sides_373 : decode cL_sides 373 = .ok (.aload 5, 2) := by decide +kernel
theorem dL_sides_375 : decode cL_sides 375 = .ok (.iconst 1, 1) := by decide +kernel
theorem dL_sides_376 : decode cL_sides 376 = .ok (.iaload, 1) := by decide +kernel
theorem dL_sides_377 : decode cL_sides 377 = .ok (.if_icmp .ne 8, 3) := by decide +kernel
theorem dL_sides_380 : decode cL_sides 380 = .ok (.bipush (-13), 2) := by decide +kernel
theorem dL_sides_382 : decode cL_sides 382 = .ok (.goto 19, 3) := by decide +kernel
theorem dL_sides_385 : decode cL_sides 385 = .ok (.aload 5, 2) := by decide +kernel
theorem dL_sides_387 : decode cL_sides 387 = .ok (.iconst 0, 1) := by decide +kernel
theorem dL_sides_388 : decode cL_sides 388 = .ok (.iaload, 1) := by decide +kernel
theorem dL_sides_389 : decode cL_sides 389 = .ok (.aload 5, 2) := by decide +kernel
theorem dL_sides_391 : decode cL_sides 391 = .ok (.iconst 1, 1) := by decide +kernel
theorem dL_sides_392 : decode cL_sides 392 = .ok (.iaload, 1) := by decide +kernel
theorem dL_sides_393 : decode cL_sides 393 = .ok (.if_icmp .le 7, 3) := by decide +kernel
theorem dL_sides_396 : decode cL_sides 396 = .ok (.iconst 0, 1) := by decide +kernel
theorem dL_sides_397 : decode cL_sides 397 = .ok (.goto 4, 3) := by decide +kernel
theorem dL_sides_400 : decode cL_sides 400 = .ok (.iconst 1, 1) := by decide +kernel
theorem dL_sides_401 : decode cL_sides 401 = .ok (.if_icmp .ne 65, 3) := by decide +kernel
theorem dL_sides_404 : decode cL_sides 404 = .ok (.aload_n 0, 1) := by decide +kernel
theorem dL_sides_405 : decode cL_sides 405 = .ok (.invokevirtual 280, 3) := by decide +kernel
theorem dL_sides_408 : decode cL_sides 408 = .ok (.ifCond .eq 58, 3) := by decide +kernel
theorem dL_sides_411 : decode cL_sides 411 = .ok (.aload_n 0, 1) := by decide +kernel
theorem dL_sides_412 : decode cL_sides 412 = .ok (.iconst 2, 1) := by decide +kernel
theorem dL_sides_413 : decode cL_sides 413 = .ok (.invokestatic 258, 3) := by decide +kernel
theorem dL_sides_416 : decode cL_sides 416 = .ok (.bipush (-12), 2) := by decide +kernel
theorem dL_sides_418 : decode cL_sides 418 = .ok (.if_icmp .ne 48, 3) := by decide +kernel
theorem dL_sides_421 : decode cL_sides 421 = .ok (.aload_n 0, 1) := by decide +kernel
theorem dL_sides_422 : decode cL_sides 422 = .ok (.iconst (-1), 1) := by decide +kernel
theorem dL_sides_423 : decode cL_sides 423 = .ok (.invokestatic 261, 3) := by decide +kernel
theorem dL_sides_426 : decode cL_sides 426 = .ok (.bipush (-12), 2) := by decide +kernel
theorem dL_sides_428 : decode cL_sides 428 = .ok (.if_icmp .ne 38, 3) := by decide +kernel
theorem dL_sides_431 : decode cL_sides 431 = .ok (.aload_n 0, 1) := by decide +kernel
theorem dL_sides_432 : decode cL_sides 432 = .ok (.iconst 2, 1) := by decide +kernel
theorem dL_sides_433 : decode cL_sides 433 = .ok (.invokestatic 264, 3) := by decide +kernel
theorem dL_sides_436 : decode cL_sides 436 = .ok (.bipush (-12), 2) := by decide +kernel
theorem dL_sides_438 : decode cL_sides 438 = .ok (.if_icmp .ne 28, 3) := by decide +kernel
theorem dL_sides_441 : decode cL_sides 441 = .ok (.aload_n 0, 1) := by decide +kernel
theorem dL_sides_442 : decode cL_sides 442 = .ok (.iconst 2, 1) := by decide +kernel
theorem dL_sides_443 : decode cL_sides 443 = .ok (.invokestatic 267, 3) := by decide +kernel
theorem dL_sides_446 : decode cL_sides 446 = .ok (.bipush (-12), 2) := by decide +kernel
theorem dL_sides_448 : decode cL_sides 448 = .ok (.if_icmp .ne 18, 3) := by decide +kernel
theorem dL_sides_451 : decode cL_sides 451 = .ok (.aload_n 0, 1) := by decide +kernel
theorem dL_sides_452 : decode cL_sides 452 = .ok (.iconst 2, 1) := by decide +kernel
theorem dL_sides_453 : decode cL_sides 453 = .ok (.iconst 0, 1) := by decide +kernel
theorem dL_sides_454 : decode cL_sides 454 = .ok (.invokestatic 255, 3) := by decide +kernel
theorem dL_sides_457 : decode cL_sides 457 = .ok (.bipush (-12), 2) := by decide +kernel
theorem dL_sides_459 : decode cL_sides 459 = .ok (.if_icmp .ne 7, 3) := by decide +kernel
theorem dL_sides_462 : decode cL_sides 462 = .ok (.iconst 1, 1) := by decide +kernel
theorem dL_sides_463 : decode cL_sides 463 = .ok (.goto 4, 3) := by decide +kernel
theorem dL_sides_466 : decode cL_sides 466 = .ok (.iconst 0, 1) := by decide +kernel
theorem dL_sides_467 : decode cL_sides 467 = .ok (.ireturn, 1) := by decide +kernel
theorem dL_spells_0 : decode cL_spells 0 = .ok (.iload_n 1, 1) := by decide +kernel
theorem dL_spells_1 : decode cL_spells 1 = .ok (.aload_n 2, 1) := by decide +kernel
theorem dL_spells_2 : decode cL_spells 2 = .ok (.invokevirtual 133, 3) := by decide +kernel
theorem dL_spells_5 : decode cL_spells 5 = .ok (.if_icmp .ne 7, 3) := by decide +kernel
theorem dL_spells_8 : decode cL_spells 8 = .ok (.iconst 1, 1) := by decide +kernel
theorem dL_spells_9 : decode cL_spells 9 = .ok (.goto 4, 3) := by decide +kernel
theorem dL_spells_12 : decode cL_spells 12 = .ok (.iconst 0, 1) := by decide +kernel
theorem dL_spells_13 : decode cL_spells 13 = .ok (.istore_n 3, 1) := by decide +kernel
theorem dL_spells_14 : decode cL_spells 14 = .ok (.iconst 0, 1) := by decide +kernel
theorem dL_spells_15 : decode cL_spells 15 = .ok (.istore 4, 2) := by decide +kernel
theorem dL_spells_17 : decode cL_spells 17 = .ok (.iload 4, 2) := by decide +kernel
theorem dL_spells_19 : decode cL_spells 19 = .ok (.aload_n 2, 1) := by decide +kernel
theorem dL_spells_20 : decode cL_spells 20 = .ok (.invokevirtual 133, 3) := by decide +kernel
theorem dL_spells_23 : decode cL_spells 23 = .ok (.if_icmp .ge 34, 3) := by decide +kernel
theorem dL_spells_26 : decode cL_spells 26 = .ok (.iload_n 3, 1) := by decide +kernel
theorem dL_spells_27 : decode cL_spells 27 = .ok (.ifCond .eq 30, 3) := by decide +kernel
theorem dL_spells_30 : decode cL_spells 30 = .ok (.aload_n 0, 1) := by decide +kernel
theorem dL_spells_31 : decode cL_spells 31 = .ok (.iload 4, 2) := by decide +kernel
theorem dL_spells_33 : decode cL_spells 33 = .ok (.invokestatic 284, 3) := by decide +kernel
theorem dL_spells_36 : decode cL_spells 36 = .ok (.aload_n 2, 1) := by decide +kernel
theorem dL_spells_37 : decode cL_spells 37 = .ok (.iload 4, 2) := by decide +kernel
theorem dL_spells_39 : decode cL_spells 39 = .ok (.invokevirtual 138, 3) := by decide +kernel
theorem dL_spells_42 : decode cL_spells 42 = .ok (.if_icmp .ne 7, 3) := by decide +kernel
theorem dL_spells_45 : decode cL_spells 45 = .ok (.iconst 1, 1) := by decide +kernel
theorem dL_spells_46 : decode cL_spells 46 = .ok (.goto 4, 3) := by decide +kernel
theorem dL_spells_49 : decode cL_spells 49 = .ok (.iconst 0, 1) := by decide +kernel
theorem dL_spells_50 : decode cL_spells 50 = .ok (.istore_n 3, 1) := by decide +kernel
theorem dL_spells_51 : decode cL_spells 51 = .ok (.iinc 4 1, 3) := by decide +kernel
theorem dL_spells_54 : decode cL_spells 54 = .ok (.goto (-37), 3) := by decide +kernel
theorem dL_spells_57 : decode cL_spells 57 = .ok (.iload_n 3, 1) := by decide +kernel
theorem dL_spells_58 : decode cL_spells 58 = .ok (.ifCond .eq 17, 3) := by decide +kernel
theorem dL_spells_61 : decode cL_spells 61 = .ok (.aload_n 0, 1) := by decide +kernel
theorem dL_spells_62 : decode cL_spells 62 = .ok (.iload_n 1, 1) := by decide +kernel
theorem dL_spells_63 : decode cL_spells 63 = .ok (.invokestatic 284, 3) := by decide +kernel
theorem dL_spells_66 : decode cL_spells 66 = .ok (.bipush (-11), 2) := by decide +kernel
theorem dL_spells_68 : decode cL_spells 68 = .ok (.if_icmp .ne 7, 3) := by decide +kernel
theorem dL_spells_71 : decode cL_spells 71 = .ok (.iconst 1, 1) := by decide +kernel
theorem dL_spells_72 : decode cL_spells 72 = .ok (.goto 4, 3) := by decide +kernel
theorem dL_spells_75 : decode cL_spells 75 = .ok (.iconst 0, 1) := by decide +kernel
theorem dL_spells_76 : decode cL_spells 76 = .ok (.ireturn, 1) := by decide +kernel
theorem dL_texts_0 : decode cL_texts 0 = .ok (.iconst 0, 1) := by decide +kernel
theorem dL_texts_1 : decode cL_texts 1 = .ok (.istore_n 1, 1) := by decide +kernel
theorem dL_texts_2 : decode cL_texts 2 = .ok (.iload_n 1, 1) := by decide +kernel
theorem dL_texts_3 : decode cL_texts 3 = .ok (.iconst 3, 1) := by decide +kernel
theorem dL_texts_4 : decode cL_texts 4 = .ok (.if_icmp .ge 163, 3) := by decide +kernel
theorem dL_texts_7 : decode cL_texts 7 = .ok (.ldc_w 286, 3) := by decide +kernel
theorem dL_texts_10 : decode cL_texts 10 = .ok (.astore_n 2, 1) := by decide +kernel
theorem dL_texts_11 : decode cL_texts 11 = .ok (.iconst 0, 1) := by decide +kernel
theorem dL_texts_12 : decode cL_texts 12 = .ok (.istore_n 3, 1) := by decide +kernel
theorem dL_texts_13 : decode cL_texts 13 = .ok (.iload_n 3, 1) := by decide +kernel
theorem dL_texts_14 : decode cL_texts 14 = .ok (.bipush 10, 2) := by decide +kernel
theorem dL_texts_16 : decode cL_texts 16 = .ok (.if_icmp .ge 130, 3) := by decide +kernel
theorem dL_texts_19 : decode cL_texts 19 = .ok (.aload_n 0, 1) := by decide +kernel
theorem dL_texts_20 : decode cL_texts 20 = .ok (.iload_n 1, 1) := by decide +kernel
theorem dL_texts_21 : decode cL_texts 21 = .ok (.iload_n 3, 1) := by decide +kernel
theorem dL_texts_22 : decode cL_texts 22 = .ok (.invokestatic 174, 3) := by decide +kernel
theorem dL_texts_25 : decode cL_texts 25 = .ok (.istore 4, 2) := by decide +kernel
theorem dL_texts_27 : decode cL_texts 27 = .ok (.iload 4, 2) := by decide +kernel
theorem dL_texts_29 : decode cL_texts 29 = .ok (.ifCond .ge 7, 3) := by decide +kernel
theorem dL_texts_32 : decode cL_texts 32 = .ok (.iconst 0, 1) := by decide +kernel
theorem dL_texts_33 : decode cL_texts 33 = .ok (.goto 14, 3) := by decide +kernel
theorem dL_texts_36 : decode cL_texts 36 = .ok (.ldc 155, 2) := by decide +kernel
theorem dL_texts_38 : decode cL_texts 38 = .ok (.aload_n 0, 1) := by decide +kernel
theorem dL_texts_39 : decode cL_texts 39 = .ok (.iload 4, 2) := by decide +kernel
theorem dL_texts_41 : decode cL_texts 41 = .ok (.invokevirtual 41, 3) := by decide +kernel
theorem dL_texts_44 : decode cL_texts 44 = .ok (.invokevirtual 288, 3) := by decide +kernel
theorem dL_texts_47 : decode cL_texts 47 = .ok (.istore 5, 2) := by decide +kernel
theorem dL_texts_49 : decode cL_texts 49 = .ok (.new 291, 3) := by decide +kernel
theorem dL_texts_52 : decode cL_texts 52 = .ok (.dup, 1) := by decide +kernel
theorem dL_texts_53 : decode cL_texts 53 = .ok (.invokespecial 293, 3) := by decide +kernel
theorem dL_texts_56 : decode cL_texts 56 = .ok (.aload_n 2, 1) := by decide +kernel
theorem dL_texts_57 : decode cL_texts 57 = .ok (.invokevirtual 294, 3) := by decide +kernel
theorem dL_texts_60 : decode cL_texts 60 = .ok (.iload 4, 2) := by decide +kernel
theorem dL_texts_62 : decode cL_texts 62 = .ok (.ifCond .ge 8, 3) := by decide +kernel
theorem dL_texts_65 : decode cL_texts 65 = .ok (.bipush 46, 2) := by decide +kernel
theorem dL_texts_67 : decode cL_texts 67 = .ok (.goto 25, 3) := by decide +kernel
theorem dL_texts_70 : decode cL_texts 70 = .ok (.aload_n 0, 1) := by decide +kernel
theorem dL_texts_71 : decode cL_texts 71 = .ok (.iload 4, 2) := by decide +kernel
theorem dL_texts_73 : decode cL_texts 73 = .ok (.invokevirtual 30, 3) := by decide +kernel
theorem dL_texts_76 : decode cL_texts 76 = .ok (.ifCond .ne 8, 3) := by decide +kernel
theorem dL_texts_79 : decode cL_texts 79 = .ok (.ldc 155, 2) := by decide +kernel
theorem dL_texts_81 : decode cL_texts 81 = .ok (.goto 6, 3) := by decide +kernel
theorem dL_texts_84 : decode cL_texts 84 = .ok (.ldc_w 298, 3) := by decide +kernel
theorem dL_texts_87 : decode cL_texts 87 = .ok (.iload 5, 2) := by decide +kernel
theorem dL_texts_89 : decode cL_texts 89 = .ok (.invokevirtual 138, 3) := by decide +kernel
theorem dL_texts_92 : decode cL_texts 92 = .ok (.invokevirtual 300, 3) := by decide +kernel
theorem dL_texts_95 : decode cL_texts 95 = .ok (.invokevirtual 303, 3) := by decide +kernel
theorem dL_texts_98 : decode cL_texts 98 = .ok (.astore_n 2, 1) := by decide +kernel
theorem dL_texts_99 : decode cL_texts 99 = .ok (.new 291, 3) := by decide +kernel
theorem dL_texts_102 : decode cL_texts 102 = .ok (.dup, 1) := by decide +kernel
theorem dL_texts_103 : decode cL_texts 103 = .ok (.invokespecial 293, 3) := by decide +kernel
theorem dL_texts_106 : decode cL_texts 106 = .ok (.aload_n 2, 1) := by decide +kernel
theorem dL_texts_107 : decode cL_texts 107 = .ok (.invokevirtual 294, 3) := by decide +kernel
theorem dL_texts_110 : decode cL_texts 110 = .ok (.iload 4, 2) := by decide +kernel
theorem dL_texts_112 : decode cL_texts 112 = .ok (.ifCond .lt 18, 3) := by decide +kernel
theorem dL_texts_115 : decode cL_texts 115 = .ok (.aload_n 0, 1) := by decide +kernel
theorem dL_texts_116 : decode cL_texts 116 = .ok (.iload 4, 2) := by decide +kernel
theorem dL_texts_118 : decode cL_texts 118 = .ok (.invokevirtual 58, 3) := by decide +kernel
theorem dL_texts_121 : decode cL_texts 121 = .ok (.ifCond .eq 9, 3) := by decide +kernel
theorem dL_texts_124 : decode cL_texts 124 = .ok (.ldc_w 307, 3) := by decide +kernel
theorem dL_texts_127 : decode cL_texts 127 = .ok (.goto 6, 3) := by decide +kernel
theorem dL_texts_130 : decode cL_texts 130 = .ok (.ldc_w 286, 3) := by decide +kernel
theorem dL_texts_133 : decode cL_texts 133 = .ok (.invokevirtual 294, 3) := by decide +kernel
theorem dL_texts_136 : decode cL_texts 136 = .ok (.invokevirtual 303, 3) := by decide +kernel
theorem dL_texts_139 : decode cL_texts 139 = .ok (.astore_n 2, 1) := by decide +kernel
theorem dL_texts_140 : decode cL_texts 140 = .ok (.iinc 3 1, 3) := by decide +kernel
theorem dL_texts_143 : decode cL_texts 143 = .ok (.goto (-130), 3) := by decide +kernel
theorem dL_texts_146 : decode cL_texts 146 = .ok (.aload_n 0, 1) := by decide +kernel
theorem dL_texts_147 : decode cL_texts 147 = .ok (.aload_n 0, 1) := by decide +kernel
theorem dL_texts_148 : decode cL_texts 148 = .ok (.iload_n 1, 1) := by decide +kernel
theorem dL_texts_149 : decode cL_texts 149 = .ok (.invokestatic 309, 3) := by decide +kernel
theorem dL_texts_152 : decode cL_texts 152 = .ok (.aload_n 2, 1) := by decide +kernel
theorem dL_texts_153 : decode cL_texts 153 = .ok (.invokestatic 311, 3) := by decide +kernel
theorem dL_texts_156 : decode cL_texts 156 = .ok (.ifCond .ne 5, 3) := by decide +kernel
theorem dL_texts_159 : decode cL_texts 159 = .ok (.iconst 0, 1) := by decide +kernel
theorem dL_texts_160 : decode cL_texts 160 = .ok (.ireturn, 1) := by decide +kernel
theorem dL_texts_161 : decode cL_texts 161 = .ok (.iinc 1 1, 3) := by decide +kernel
theorem dL_texts_164 : decode cL_texts 164 = .ok (.goto (-162), 3) := by decide +kernel
theorem dL_texts_167 : decode cL_texts 167 = .ok (.aload_n 0, 1) := by decide +kernel
theorem dL_texts_168 : decode cL_texts 168 = .ok (.iconst 3, 1) := by decide +kernel
theorem dL_texts_169 : decode cL_texts 169 = .ok (.invokestatic 309, 3) := by decide +kernel
theorem dL_texts_172 : decode cL_texts 172 = .ok (.bipush (-11), 2) := by decide +kernel
theorem dL_texts_174 : decode cL_texts 174 = .ok (.if_icmp .ne 17, 3) := by decide +kernel
theorem dL_texts_177 : decode cL_texts 177 = .ok (.aload_n 0, 1) := by decide +kernel
theorem dL_texts_178 : decode cL_texts 178 = .ok (.iconst (-1), 1) := by decide +kernel
theorem dL_texts_179 : decode cL_texts 179 = .ok (.invokestatic 309, 3) := by decide +kernel
theorem dL_texts_182 : decode cL_texts 182 = .ok (.bipush (-11), 2) := by decide +kernel
theorem dL_texts_184 : decode cL_texts 184 = .ok (.if_icmp .ne 7, 3) := by decide +kernel
theorem dL_texts_187 : decode cL_texts 187 = .ok (.iconst 1, 1) := by decide +kernel
theorem dL_texts_188 : decode cL_texts 188 = .ok (.goto 4, 3) := by decide +kernel
theorem dL_texts_191 : decode cL_texts 191 = .ok (.iconst 0, 1) := by decide +kernel
theorem dL_texts_192 : decode cL_texts 192 = .ok (.ireturn, 1) := by decide +kernel
theorem dL_sum_0 : decode cL_sum 0 = .ok (.ldc2_w 315, 3) := by decide +kernel
theorem dL_sum_3 : decode cL_sum 3 = .ok (.aload_n 0, 1) := by decide +kernel
theorem dL_sum_4 : decode cL_sum 4 = .ok (.invokevirtual 317, 3) := by decide +kernel
theorem dL_sum_7 : decode cL_sum 7 = .ok (.i2l, 1) := by decide +kernel
theorem dL_sum_8 : decode cL_sum 8 = .ok (.ladd, 1) := by decide +kernel
theorem dL_sum_9 : decode cL_sum 9 = .ok (.lstore_n 1, 1) := by decide +kernel
theorem dL_sum_10 : decode cL_sum 10 = .ok (.ldc2_w 320, 3) := by decide +kernel
theorem dL_sum_13 : decode cL_sum 13 = .ok (.lload_n 1, 1) := by decide +kernel
theorem dL_sum_14 : decode cL_sum 14 = .ok (.lmul, 1) := by decide +kernel
theorem dL_sum_15 : decode cL_sum 15 = .ok (.aload_n 0, 1) := by decide +kernel
theorem dL_sum_16 : decode cL_sum 16 = .ok (.invokevirtual 322, 3) := by decide +kernel
theorem dL_sum_19 : decode cL_sum 19 = .ok (.i2l, 1) := by decide +kernel
theorem dL_sum_20 : decode cL_sum 20 = .ok (.ladd, 1) := by decide +kernel
theorem dL_sum_21 : decode cL_sum 21 = .ok (.lstore_n 1, 1) := by decide +kernel
theorem dL_sum_22 : decode cL_sum 22 = .ok (.ldc2_w 320, 3) := by decide +kernel
theorem dL_sum_25 : decode cL_sum 25 = .ok (.lload_n 1, 1) := by decide +kernel
theorem dL_sum_26 : decode cL_sum 26 = .ok (.lmul, 1) := by decide +kernel
theorem dL_sum_27 : decode cL_sum 27 = .ok (.bipush 10, 2) := by decide +kernel
theorem dL_sum_29 : decode cL_sum 29 = .ok (.aload_n 0, 1) := by decide +kernel
theorem dL_sum_30 : decode cL_sum 30 = .ok (.iconst 0, 1) := by decide +kernel
theorem dL_sum_31 : decode cL_sum 31 = .ok (.invokevirtual 90, 3) := by decide +kernel
theorem dL_sum_34 : decode cL_sum 34 = .ok (.imul, 1) := by decide +kernel
theorem dL_sum_35 : decode cL_sum 35 = .ok (.i2l, 1) := by decide +kernel
theorem dL_sum_36 : decode cL_sum 36 = .ok (.ladd, 1) := by decide +kernel
theorem dL_sum_37 : decode cL_sum 37 = .ok (.aload_n 0, 1) := by decide +kernel
theorem dL_sum_38 : decode cL_sum 38 = .ok (.iconst 1, 1) := by decide +kernel
theorem dL_sum_39 : decode cL_sum 39 = .ok (.invokevirtual 90, 3) := by decide +kernel
theorem dL_sum_42 : decode cL_sum 42 = .ok (.i2l, 1) := by decide +kernel
theorem dL_sum_43 : decode cL_sum 43 = .ok (.ladd, 1) := by decide +kernel
theorem dL_sum_44 : decode cL_sum 44 = .ok (.lstore_n 1, 1) := by decide +kernel
theorem dL_sum_45 : decode cL_sum 45 = .ok (.iconst 0, 1) := by decide +kernel
theorem dL_sum_46 : decode cL_sum 46 = .ok (.istore_n 3, 1) := by decide +kernel
theorem dL_sum_47 : decode cL_sum 47 = .ok (.iload_n 3, 1) := by decide +kernel
theorem dL_sum_48 : decode cL_sum 48 = .ok (.aload_n 0, 1) := by decide +kernel
theorem dL_sum_49 : decode cL_sum 49 = .ok (.invokevirtual 160, 3) := by decide +kernel
theorem dL_sum_52 : decode cL_sum 52 = .ok (.if_icmp .ge 101, 3) := by decide +kernel
theorem dL_sum_55 : decode cL_sum 55 = .ok (.ldc2_w 325, 3) := by decide +kernel
theorem dL_sum_58 : decode cL_sum 58 = .ok (.lload_n 1, 1) := by decide +kernel
theorem dL_sum_59 : decode cL_sum 59 = .ok (.lmul, 1) := by decide +kernel
theorem dL_sum_60 : decode cL_sum 60 = .ok (.bipush 100, 2) := by decide +kernel
theorem dL_sum_62 : decode cL_sum 62 = .ok (.aload_n 0, 1) := by decide +kernel
theorem dL_sum_63 : decode cL_sum 63 = .ok (.iload_n 3, 1) := by decide +kernel
theorem dL_sum_64 : decode cL_sum 64 = .ok (.invokestatic 195, 3) := by decide +kernel
theorem dL_sum_67 : decode cL_sum 67 = .ok (.imul, 1) := by decide +kernel
theorem dL_sum_68 : decode cL_sum 68 = .ok (.i2l, 1) := by decide +kernel
theorem dL_sum_69 : decode cL_sum 69 = .ok (.ladd, 1) := by decide +kernel
theorem dL_sum_70 : decode cL_sum 70 = .ok (.aload_n 0, 1) := by decide +kernel
theorem dL_sum_71 : decode cL_sum 71 = .ok (.iload_n 3, 1) := by decide +kernel
theorem dL_sum_72 : decode cL_sum 72 = .ok (.invokestatic 197, 3) := by decide +kernel
theorem dL_sum_75 : decode cL_sum 75 = .ok (.i2l, 1) := by decide +kernel
theorem dL_sum_76 : decode cL_sum 76 = .ok (.ladd, 1) := by decide +kernel
theorem dL_sum_77 : decode cL_sum 77 = .ok (.lstore_n 1, 1) := by decide +kernel
theorem dL_sum_78 : decode cL_sum 78 = .ok (.ldc2_w 327, 3) := by decide +kernel
theorem dL_sum_81 : decode cL_sum 81 = .ok (.lload_n 1, 1) := by decide +kernel
theorem dL_sum_82 : decode cL_sum 82 = .ok (.lmul, 1) := by decide +kernel
theorem dL_sum_83 : decode cL_sum 83 = .ok (.bipush 100, 2) := by decide +kernel
theorem dL_sum_85 : decode cL_sum 85 = .ok (.aload_n 0, 1) := by decide +kernel
theorem dL_sum_86 : decode cL_sum 86 = .ok (.iload_n 3, 1) := by decide +kernel
theorem dL_sum_87 : decode cL_sum 87 = .ok (.invokevirtual 45, 3) := by decide +kernel
theorem dL_sum_90 : decode cL_sum 90 = .ok (.imul, 1) := by decide +kernel
theorem dL_sum_91 : decode cL_sum 91 = .ok (.i2l, 1) := by decide +kernel
theorem dL_sum_92 : decode cL_sum 92 = .ok (.ladd, 1) := by decide +kernel
theorem dL_sum_93 : decode cL_sum 93 = .ok (.aload_n 0, 1) := by decide +kernel
theorem dL_sum_94 : decode cL_sum 94 = .ok (.iload_n 3, 1) := by decide +kernel
theorem dL_sum_95 : decode cL_sum 95 = .ok (.invokevirtual 48, 3) := by decide +kernel
theorem dL_sum_98 : decode cL_sum 98 = .ok (.i2l, 1) := by decide +kernel
theorem dL_sum_99 : decode cL_sum 99 = .ok (.ladd, 1) := by decide +kernel
theorem dL_sum_100 : decode cL_sum 100 = .ok (.lstore_n 1, 1) := by decide +kernel
theorem dL_sum_101 : decode cL_sum 101 = .ok (.ldc2_w 329, 3) := by decide +kernel
theorem dL_sum_104 : decode cL_sum 104 = .ok (.lload_n 1, 1) := by decide +kernel
theorem dL_sum_105 : decode cL_sum 105 = .ok (.lmul, 1) := by decide +kernel
theorem dL_sum_106 : decode cL_sum 106 = .ok (.sipush 200, 3) := by decide +kernel
theorem dL_sum_109 : decode cL_sum 109 = .ok (.aload_n 0, 1) := by decide +kernel
theorem dL_sum_110 : decode cL_sum 110 = .ok (.iload_n 3, 1) := by decide +kernel
theorem dL_sum_111 : decode cL_sum 111 = .ok (.invokestatic 215, 3) := by decide +kernel
theorem dL_sum_114 : decode cL_sum 114 = .ok (.imul, 1) := by decide +kernel
theorem dL_sum_115 : decode cL_sum 115 = .ok (.i2l, 1) := by decide +kernel
theorem dL_sum_116 : decode cL_sum 116 = .ok (.ladd, 1) := by decide +kernel
theorem dL_sum_117 : decode cL_sum 117 = .ok (.aload_n 0, 1) := by decide +kernel
theorem dL_sum_118 : decode cL_sum 118 = .ok (.iload_n 3, 1) := by decide +kernel
theorem dL_sum_119 : decode cL_sum 119 = .ok (.invokevirtual 61, 3) := by decide +kernel
theorem dL_sum_122 : decode cL_sum 122 = .ok (.i2l, 1) := by decide +kernel
theorem dL_sum_123 : decode cL_sum 123 = .ok (.ladd, 1) := by decide +kernel
theorem dL_sum_124 : decode cL_sum 124 = .ok (.lstore_n 1, 1) := by decide +kernel
theorem dL_sum_125 : decode cL_sum 125 = .ok (.ldc2_w 331, 3) := by decide +kernel
theorem dL_sum_128 : decode cL_sum 128 = .ok (.lload_n 1, 1) := by decide +kernel
theorem dL_sum_129 : decode cL_sum 129 = .ok (.lmul, 1) := by decide +kernel
theorem dL_sum_130 : decode cL_sum 130 = .ok (.iconst 2, 1) := by decide +kernel
theorem dL_sum_131 : decode cL_sum 131 = .ok (.aload_n 0, 1) := by decide +kernel
theorem dL_sum_132 : decode cL_sum 132 = .ok (.iload_n 3, 1) := by decide +kernel
theorem dL_sum_133 : decode cL_sum 133 = .ok (.invokevirtual 41, 3) := by decide +kernel
theorem dL_sum_136 : decode cL_sum 136 = .ok (.imul, 1) := by decide +kernel
theorem dL_sum_137 : decode cL_sum 137 = .ok (.i2l, 1) := by decide +kernel
theorem dL_sum_138 : decode cL_sum 138 = .ok (.ladd, 1) := by decide +kernel
theorem dL_sum_139 : decode cL_sum 139 = .ok (.aload_n 0, 1) := by decide +kernel
theorem dL_sum_140 : decode cL_sum 140 = .ok (.iload_n 3, 1) := by decide +kernel
theorem dL_sum_141 : decode cL_sum 141 = .ok (.invokevirtual 30, 3) := by decide +kernel
theorem dL_sum_144 : decode cL_sum 144 = .ok (.i2l, 1) := by decide +kernel
theorem dL_sum_145 : decode cL_sum 145 = .ok (.ladd, 1) := by decide +kernel
theorem dL_sum_146 : decode cL_sum 146 = .ok (.lstore_n 1, 1) := by decide +kernel
theorem dL_sum_147 : decode cL_sum 147 = .ok (.iinc 3 1, 3) := by decide +kernel
theorem dL_sum_150 : decode cL_sum 150 = .ok (.goto (-103), 3) := by decide +kernel
theorem dL_sum_153 : decode cL_sum 153 = .ok (.lload_n 1, 1) := by decide +kernel
theorem dL_sum_154 : decode cL_sum 154 = .ok (.lreturn, 1) := by decide +kernel
theorem dL_undone_0 : decode cL_undone 0 = .ok (.bipush 9, 2) := by decide +kernel
theorem dL_undone_2 : decode cL_undone 2 = .ok (.newarray .long, 2) := by decide +kernel
theorem dL_undone_4 : decode cL_undone 4 = .ok (.astore_n 2, 1) := by decide +kernel
theorem dL_undone_5 : decode cL_undone 5 = .ok (.iconst 0, 1) := by decide +kernel
theorem dL_undone_6 : decode cL_undone 6 = .ok (.istore_n 3, 1) := by decide +kernel
theorem dL_undone_7 : decode cL_undone 7 = .ok (.iconst 0, 1) := by decide +kernel
theorem dL_undone_8 : decode cL_undone 8 = .ok (.istore 4, 2) := by decide +kernel
theorem dL_undone_10 : decode cL_undone 10 = .ok (.iload 4, 2) := by decide +kernel
theorem dL_undone_12 : decode cL_undone 12 = .ok (.bipush 7, 2) := by decide +kernel
theorem dL_undone_14 : decode cL_undone 14 = .ok (.if_icmp .ge 243, 3) := by decide +kernel
theorem dL_undone_17 : decode cL_undone 17 = .ok (.aload_n 0, 1) := by decide +kernel
theorem dL_undone_18 : decode cL_undone 18 = .ok (.bipush 30, 2) := by decide +kernel
theorem dL_undone_20 : decode cL_undone 20 = .ok (.iload 4, 2) := by decide +kernel
theorem dL_undone_22 : decode cL_undone 22 = .ok (.iadd, 1) := by decide +kernel
theorem dL_undone_23 : decode cL_undone 23 = .ok (.invokestatic 151, 3) := by decide +kernel
theorem dL_undone_26 : decode cL_undone 26 = .ok (.iconst 1, 1) := by decide +kernel
theorem dL_undone_27 : decode cL_undone 27 = .ok (.iushr, 1) := by decide +kernel
theorem dL_undone_28 : decode cL_undone 28 = .ok (.istore 5, 2) := by decide +kernel
theorem dL_undone_30 : decode cL_undone 30 = .ok (.iload 5, 2) := by decide +kernel
theorem dL_undone_32 : decode cL_undone 32 = .ok (.iconst 4, 1) := by decide +kernel
theorem dL_undone_33 : decode cL_undone 33 = .ok (.iushr, 1) := by decide +kernel
theorem dL_undone_34 : decode cL_undone 34 = .ok (.istore 6, 2) := by decide +kernel
theorem dL_undone_36 : decode cL_undone 36 = .ok (.aload_n 2, 1) := by decide +kernel
theorem dL_undone_37 : decode cL_undone 37 = .ok (.iload_n 3, 1) := by decide +kernel
theorem dL_undone_38 : decode cL_undone 38 = .ok (.aload_n 1, 1) := by decide +kernel
theorem dL_undone_39 : decode cL_undone 39 = .ok (.invokestatic 333, 3) := by decide +kernel
theorem dL_undone_42 : decode cL_undone 42 = .ok (.lastore, 1) := by decide +kernel
theorem dL_undone_43 : decode cL_undone 43 = .ok (.iload 5, 2) := by decide +kernel
theorem dL_undone_45 : decode cL_undone 45 = .ok (.bipush 6, 2) := by decide +kernel
theorem dL_undone_47 : decode cL_undone 47 = .ok (.irem, 1) := by decide +kernel
theorem dL_undone_48 : decode cL_undone 48 = .ok (.tableswitch 166 0 3 #[32, 71, 97, 111], 32) := by decide +kernel
theorem dL_undone_80 : decode cL_undone 80 = .ok (.aload_n 1, 1) := by decide +kernel
theorem dL_undone_81 : decode cL_undone 81 = .ok (.iload 6, 2) := by decide +kernel
theorem dL_undone_83 : decode cL_undone 83 = .ok (.iconst 3, 1) := by decide +kernel
theorem dL_undone_84 : decode cL_undone 84 = .ok (.irem, 1) := by decide +kernel
theorem dL_undone_85 : decode cL_undone 85 = .ok (.iload 6, 2) := by decide +kernel
theorem dL_undone_87 : decode cL_undone 87 = .ok (.iconst 2, 1) := by decide +kernel
theorem dL_undone_88 : decode cL_undone 88 = .ok (.iushr, 1) := by decide +kernel
theorem dL_undone_89 : decode cL_undone 89 = .ok (.iconst 4, 1) := by decide +kernel
theorem dL_undone_90 : decode cL_undone 90 = .ok (.irem, 1) := by decide +kernel
theorem dL_undone_91 : decode cL_undone 91 = .ok (.ldc_w 337, 3) := by decide +kernel
theorem dL_undone_94 : decode cL_undone 94 = .ok (.iload 6, 2) := by decide +kernel
theorem dL_undone_96 : decode cL_undone 96 = .ok (.iconst 4, 1) := by decide +kernel
theorem dL_undone_97 : decode cL_undone 97 = .ok (.iushr, 1) := by decide +kernel
theorem dL_undone_98 : decode cL_undone 98 = .ok (.iconst 5, 1) := by decide +kernel
theorem dL_undone_99 : decode cL_undone 99 = .ok (.irem, 1) := by decide +kernel
theorem dL_undone_100 : decode cL_undone 100 = .ok (.invokevirtual 138, 3) := by decide +kernel
theorem dL_undone_103 : decode cL_undone 103 = .ok (.iload 6, 2) := by decide +kernel
theorem dL_undone_105 : decode cL_undone 105 = .ok (.bipush 7, 2) := by decide +kernel
theorem dL_undone_107 : decode cL_undone 107 = .ok (.iushr, 1) := by decide +kernel
theorem dL_undone_108 : decode cL_undone 108 = .ok (.bipush 101, 2) := by decide +kernel
theorem dL_undone_110 : decode cL_undone 110 = .ok (.irem, 1) := by decide +kernel
theorem dL_undone_111 : decode cL_undone 111 = .ok (.invokestatic 157, 3) := by decide +kernel
theorem dL_undone_114 : decode cL_undone 114 = .ok (.istore 7, 2) := by decide +kernel
theorem dL_undone_116 : decode cL_undone 116 = .ok (.goto 104, 3) := by decide +kernel
theorem dL_undone_119 : decode cL_undone 119 = .ok (.aload_n 1, 1) := by decide +kernel
theorem dL_undone_120 : decode cL_undone 120 = .ok (.iload 6, 2) := by decide +kernel
theorem dL_undone_122 : decode cL_undone 122 = .ok (.bipush 13, 2) := by decide +kernel
theorem dL_undone_124 : decode cL_undone 124 = .ok (.irem, 1) := by decide +kernel
theorem dL_undone_125 : decode cL_undone 125 = .ok (.ldc_w 339, 3) := by decide +kernel
theorem dL_undone_128 : decode cL_undone 128 = .ok (.iload 6, 2) := by decide +kernel
theorem dL_undone_130 : decode cL_undone 130 = .ok (.iconst 4, 1) := by decide +kernel
theorem dL_undone_131 : decode cL_undone 131 = .ok (.iushr, 1) := by decide +kernel
theorem dL_undone_132 : decode cL_undone 132 = .ok (.iconst 4, 1) := by decide +kernel
theorem dL_undone_133 : decode cL_undone 133 = .ok (.irem, 1) := by decide +kernel
theorem dL_undone_134 : decode cL_undone 134 = .ok (.invokevirtual 138, 3) := by decide +kernel
theorem dL_undone_137 : decode cL_undone 137 = .ok (.invokestatic 165, 3) := by decide +kernel
theorem dL_undone_140 : decode cL_undone 140 = .ok (.istore 7, 2) := by decide +kernel
theorem dL_undone_142 : decode cL_undone 142 = .ok (.goto 78, 3) := by decide +kernel
theorem dL_undone_145 : decode cL_undone 145 = .ok (.aload_n 1, 1) := by decide +kernel
theorem dL_undone_146 : decode cL_undone 146 = .ok (.iload 6, 2) := by decide +kernel
theorem dL_undone_148 : decode cL_undone 148 = .ok (.bipush 13, 2) := by decide +kernel
theorem dL_undone_150 : decode cL_undone 150 = .ok (.irem, 1) := by decide +kernel
theorem dL_undone_151 : decode cL_undone 151 = .ok (.invokestatic 168, 3) := by decide +kernel
theorem dL_undone_154 : decode cL_undone 154 = .ok (.istore 7, 2) := by decide +kernel
theorem dL_undone_156 : decode cL_undone 156 = .ok (.goto 64, 3) := by decide +kernel
theorem dL_undone_159 : decode cL_undone 159 = .ok (.aload_n 1, 1) := by decide +kernel
theorem dL_undone_160 : decode cL_undone 160 = .ok (.new 291, 3) := by decide +kernel
theorem dL_undone_163 : decode cL_undone 163 = .ok (.dup, 1) := by decide +kernel
theorem dL_undone_164 : decode cL_undone 164 = .ok (.invokespecial 293, 3) := by decide +kernel
theorem dL_undone_167 : decode cL_undone 167 = .ok (.ldc_w 341, 3) := by decide +kernel
theorem dL_undone_170 : decode cL_undone 170 = .ok (.invokevirtual 294, 3) := by decide +kernel
theorem dL_undone_173 : decode cL_undone 173 = .ok (.iload 6, 2) := by decide +kernel
theorem dL_undone_175 : decode cL_undone 175 = .ok (.bipush 12, 2) := by decide +kernel
theorem dL_undone_177 : decode cL_undone 177 = .ok (.irem, 1) := by decide +kernel
theorem dL_undone_178 : decode cL_undone 178 = .ok (.invokevirtual 343, 3) := by decide +kernel
theorem dL_undone_181 : decode cL_undone 181 = .ok (.ldc_w 346, 3) := by decide +kernel
theorem dL_undone_184 : decode cL_undone 184 = .ok (.invokevirtual 294, 3) := by decide +kernel
theorem dL_undone_187 : decode cL_undone 187 = .ok (.iload 6, 2) := by decide +kernel
theorem dL_undone_189 : decode cL_undone 189 = .ok (.iconst 4, 1) := by decide +kernel
theorem dL_undone_190 : decode cL_undone 190 = .ok (.iushr, 1) := by decide +kernel
theorem dL_undone_191 : decode cL_undone 191 = .ok (.bipush 12, 2) := by decide +kernel
theorem dL_undone_193 : decode cL_undone 193 = .ok (.irem, 1) := by decide +kernel
theorem dL_undone_194 : decode cL_undone 194 = .ok (.invokevirtual 343, 3) := by decide +kernel
theorem dL_undone_197 : decode cL_undone 197 = .ok (.ldc_w 348, 3) := by decide +kernel
theorem dL_undone_200 : decode cL_undone 200 = .ok (.invokevirtual 294, 3) := by decide +kernel
theorem dL_undone_203 : decode cL_undone 203 = .ok (.invokevirtual 303, 3) := by decide +kernel
theorem dL_undone_206 : decode cL_undone 206 = .ok (.invokestatic 350, 3) := by decide +kernel
theorem dL_undone_209 : decode cL_undone 209 = .ok (.istore 7, 2) := by decide +kernel
theorem dL_undone_211 : decode cL_undone 211 = .ok (.goto 9, 3) := by decide +kernel
theorem dL_undone_214 : decode cL_undone 214 = .ok (.aload_n 1, 1) := by decide +kernel
theorem dL_undone_215 : decode cL_undone 215 = .ok (.invokevirtual 171, 3) := by decide +kernel
theorem dL_undone_218 : decode cL_undone 218 = .ok (.istore 7, 2) := by decide +kernel
theorem dL_undone_220 : decode cL_undone 220 = .ok (.iload 7, 2) := by decide +kernel
theorem dL_undone_222 : decode cL_undone 222 = .ok (.ifCond .ge 16, 3) := by decide +kernel
theorem dL_undone_225 : decode cL_undone 225 = .ok (.aload_n 1, 1) := by decide +kernel
theorem dL_undone_226 : decode cL_undone 226 = .ok (.invokestatic 333, 3) := by decide +kernel
theorem dL_undone_229 : decode cL_undone 229 = .ok (.aload_n 2, 1) := by decide +kernel
theorem dL_undone_230 : decode cL_undone 230 = .ok (.iload_n 3, 1) := by decide +kernel
theorem dL_undone_231 : decode cL_undone 231 = .ok (.laload, 1) := by decide +kernel
theorem dL_undone_232 : decode cL_undone 232 = .ok (.lcmp, 1) := by decide +kernel
theorem dL_undone_233 : decode cL_undone 233 = .ok (.ifCond .eq 5, 3) := by decide +kernel
theorem dL_undone_236 : decode cL_undone 236 = .ok (.iconst 0, 1) := by decide +kernel
theorem dL_undone_237 : decode cL_undone 237 = .ok (.ireturn, 1) := by decide +kernel
theorem dL_undone_238 : decode cL_undone 238 = .ok (.iload_n 3, 1) := by decide +kernel
theorem dL_undone_239 : decode cL_undone 239 = .ok (.iload 7, 2) := by decide +kernel
theorem dL_undone_241 : decode cL_undone 241 = .ok (.ifCond .ge 7, 3) := by decide +kernel
theorem dL_undone_244 : decode cL_undone 244 = .ok (.iconst 0, 1) := by decide +kernel
theorem dL_undone_245 : decode cL_undone 245 = .ok (.goto 4, 3) := by decide +kernel
theorem dL_undone_248 : decode cL_undone 248 = .ok (.iconst 1, 1) := by decide +kernel
theorem dL_undone_249 : decode cL_undone 249 = .ok (.iadd, 1) := by decide +kernel
theorem dL_undone_250 : decode cL_undone 250 = .ok (.istore_n 3, 1) := by decide +kernel
theorem dL_undone_251 : decode cL_undone 251 = .ok (.iinc 4 1, 3) := by decide +kernel
theorem dL_undone_254 : decode cL_undone 254 = .ok (.goto (-244), 3) := by decide +kernel
theorem dL_undone_257 : decode cL_undone 257 = .ok (.iload_n 3, 1) := by decide +kernel
theorem dL_undone_258 : decode cL_undone 258 = .ok (.iconst 1, 1) := by decide +kernel
theorem dL_undone_259 : decode cL_undone 259 = .ok (.isub, 1) := by decide +kernel
theorem dL_undone_260 : decode cL_undone 260 = .ok (.istore 4, 2) := by decide +kernel
theorem dL_undone_262 : decode cL_undone 262 = .ok (.iload 4, 2) := by decide +kernel
theorem dL_undone_264 : decode cL_undone 264 = .ok (.ifCond .lt 30, 3) := by decide +kernel
theorem dL_undone_267 : decode cL_undone 267 = .ok (.aload_n 1, 1) := by decide +kernel
theorem dL_undone_268 : decode cL_undone 268 = .ok (.invokestatic 353, 3) := by decide +kernel
theorem dL_undone_271 : decode cL_undone 271 = .ok (.ifCond .lt 15, 3) := by decide +kernel
theorem dL_undone_274 : decode cL_undone 274 = .ok (.aload_n 1, 1) := by decide +kernel
theorem dL_undone_275 : decode cL_undone 275 = .ok (.invokestatic 333, 3) := by decide +kernel
theorem dL_undone_278 : decode cL_undone 278 = .ok (.aload_n 2, 1) := by decide +kernel
theorem dL_undone_279 : decode cL_undone 279 = .ok (.iload 4, 2) := by decide +kernel
theorem dL_undone_281 : decode cL_undone 281 = .ok (.laload, 1) := by decide +kernel
theorem dL_undone_282 : decode cL_undone 282 = .ok (.lcmp, 1) := by decide +kernel
theorem dL_undone_283 : decode cL_undone 283 = .ok (.ifCond .eq 5, 3) := by decide +kernel
theorem dL_undone_286 : decode cL_undone 286 = .ok (.iconst 0, 1) := by decide +kernel
theorem dL_undone_287 : decode cL_undone 287 = .ok (.ireturn, 1) := by decide +kernel
theorem dL_undone_288 : decode cL_undone 288 = .ok (.iinc 4 (-1), 3) := by decide +kernel
theorem dL_undone_291 : decode cL_undone 291 = .ok (.goto (-29), 3) := by decide +kernel
theorem dL_undone_294 : decode cL_undone 294 = .ok (.iconst 1, 1) := by decide +kernel
theorem dL_undone_295 : decode cL_undone 295 = .ok (.ireturn, 1) := by decide +kernel
abbrev vwCl : List vw_C := [(RJ0, TJ0, 4), (RJ4, TJ4, 4), (RJx00060, TJx00060, 6), (RX0, TX0, 8), (RX1, TX1, 7), (RX2, TX2, 3), (RX3, TX3, 10), (RX4, TX4, 10)]
