/-! ===== BEGIN printed: names, fields, word lists, decode rows ===== -/
def RX0 : String := "ClockworkChess$Board"
def TX0 : u_T := fun k => match k with
  | 0 => ("ClockworkChess$Board", "sides", "[I", true)
  | 1 => ("ClockworkChess$Board", "kinds", "[I", true)
  | 2 => ("ClockworkChess$Board", "springs", "[I", true)
  | _ => ("ClockworkChess$Board", "towers", "[I", true)
def tyX0 : Nat → FieldType := fun k => match k with
  | 0 => .array .int
  | 1 => .array .int
  | 2 => .array .int
  | _ => .array .int
theorem nmX0 : ∀ a, a < 4 → ∀ b, b < 4 → a ≠ b → (TX0 a).2.1 ≠ (TX0 b).2.1 := by decide +kernel
theorem tyX0_ok : ∀ k, k < 4 → parseFieldDescriptor (TX0 k).2.2.1 = some (tyX0 k) := by decide +kernel
abbrev cX0_init : ByteArray := prog_2_method_1_code
def yX0_init : MethodName := ⟨RX0, "<init>", "()V"⟩
abbrev cX0_copyFrom : ByteArray := prog_2_method_2_code
def yX0_copyFrom : MethodName := ⟨RX0, "copyFrom", "(LClockworkChess$Board;)V"⟩
abbrev cX0_arrange : ByteArray := prog_2_method_3_code
def yX0_arrange : MethodName := ⟨RX0, "arrange", "(I)V"⟩
abbrev cX0_place : ByteArray := prog_2_method_4_code
def yX0_place : MethodName := ⟨RX0, "place", "(IIII)V"⟩
abbrev cX0_empty : ByteArray := prog_2_method_5_code
def yX0_empty : MethodName := ⟨RX0, "empty", "(I)V"⟩
abbrev cX0_changeSpring : ByteArray := prog_2_method_6_code
def yX0_changeSpring : MethodName := ⟨RX0, "changeSpring", "(II)V"⟩
abbrev cX0_markTower : ByteArray := prog_2_method_7_code
def yX0_markTower : MethodName := ⟨RX0, "markTower", "(IZ)V"⟩
abbrev cX0_sideOn : ByteArray := prog_2_method_8_code
def yX0_sideOn : MethodName := ⟨RX0, "sideOn", "(I)I"⟩
abbrev cX0_hasPiece : ByteArray := prog_2_method_9_code
def yX0_hasPiece : MethodName := ⟨RX0, "hasPiece", "(I)Z"⟩
abbrev cX0_kindOn : ByteArray := prog_2_method_10_code
def yX0_kindOn : MethodName := ⟨RX0, "kindOn", "(I)I"⟩
abbrev cX0_springOn : ByteArray := prog_2_method_11_code
def yX0_springOn : MethodName := ⟨RX0, "springOn", "(I)I"⟩
abbrev cX0_isTower : ByteArray := prog_2_method_12_code
def yX0_isTower : MethodName := ⟨RX0, "isTower", "(I)Z"⟩
abbrev cX0_springsOf : ByteArray := prog_2_method_13_code
def yX0_springsOf : MethodName := ⟨RX0, "springsOf", "(I)I"⟩
abbrev cX0_springsInAll : ByteArray := prog_2_method_14_code
def yX0_springsInAll : MethodName := ⟨RX0, "springsInAll", "()I"⟩
abbrev cX0_piecesInAll : ByteArray := prog_2_method_15_code
def yX0_piecesInAll : MethodName := ⟨RX0, "piecesInAll", "()I"⟩
abbrev cX0_towersInAll : ByteArray := prog_2_method_16_code
def yX0_towersInAll : MethodName := ⟨RX0, "towersInAll", "()I"⟩
abbrev cX0_movesOf : ByteArray := prog_2_method_17_code
def yX0_movesOf : MethodName := ⟨RX0, "movesOf", "(I)I"⟩
abbrev cX0_movesFrom : ByteArray := prog_2_method_18_code
def yX0_movesFrom : MethodName := ⟨RX0, "movesFrom", "(I)I"⟩
abbrev cX0_canMove : ByteArray := prog_2_method_19_code
def yX0_canMove : MethodName := ⟨RX0, "canMove", "(II)Z"⟩
abbrev cX0_price : ByteArray := prog_2_method_20_code
def yX0_price : MethodName := ⟨RX0, "price", "(II)I"⟩
abbrev cX0_priceAlong : ByteArray := prog_2_method_21_code
def yX0_priceAlong : MethodName := ⟨RX0, "priceAlong", "(III)I"⟩
def RX1 : String := "ClockworkChess$Game"
def TX1 : u_T := fun k => match k with
  | 0 => ("ClockworkChess$Game", "board", "LClockworkChess$Board;", true)
  | 1 => ("ClockworkChess$Game", "limit", "I", false)
  | 2 => ("ClockworkChess$Game", "bonus", "I", false)
  | 3 => ("ClockworkChess$Game", "winding", "I", false)
  | 4 => ("ClockworkChess$Game", "mover", "I", false)
  | 5 => ("ClockworkChess$Game", "ending", "I", false)
  | 6 => ("ClockworkChess$Game", "winner", "I", false)
  | 7 => ("ClockworkChess$Game", "turnsMade", "I", false)
  | 8 => ("ClockworkChess$Game", "justPassed", "Z", false)
  | 9 => ("ClockworkChess$Game", "atBeginning", "I", false)
  | 10 => ("ClockworkChess$Game", "wound", "I", false)
  | 11 => ("ClockworkChess$Game", "gainedByBonus", "I", false)
  | 12 => ("ClockworkChess$Game", "spent", "I", false)
  | 13 => ("ClockworkChess$Game", "lost", "I", false)
  | _ => ("ClockworkChess$Game", "putOn", "I", false)
def tyX1 : Nat → FieldType := fun k => match k with
  | 0 => .object "ClockworkChess$Board"
  | 1 => .int
  | 2 => .int
  | 3 => .int
  | 4 => .int
  | 5 => .int
  | 6 => .int
  | 7 => .int
  | 8 => .boolean
  | 9 => .int
  | 10 => .int
  | 11 => .int
  | 12 => .int
  | 13 => .int
  | _ => .int
theorem nmX1 : ∀ a, a < 15 → ∀ b, b < 15 → a ≠ b → (TX1 a).2.1 ≠ (TX1 b).2.1 := by decide +kernel
theorem tyX1_ok : ∀ k, k < 15 → parseFieldDescriptor (TX1 k).2.2.1 = some (tyX1 k) := by decide +kernel
abbrev cX1_init : ByteArray := prog_3_method_1_code
def yX1_init : MethodName := ⟨RX1, "<init>", "()V"⟩
abbrev cX1_copyFrom : ByteArray := prog_3_method_2_code
def yX1_copyFrom : MethodName := ⟨RX1, "copyFrom", "(LClockworkChess$Game;)V"⟩
abbrev cX1_begin : ByteArray := prog_3_method_3_code
def yX1_begin : MethodName := ⟨RX1, "begin", "()V"⟩
abbrev cX1_isOver : ByteArray := prog_3_method_4_code
def yX1_isOver : MethodName := ⟨RX1, "isOver", "()Z"⟩
abbrev cX1_setting : ByteArray := prog_3_method_5_code
def yX1_setting : MethodName := ⟨RX1, "setting", "(I)I"⟩
abbrev cX1_changeSetting : ByteArray := prog_3_method_6_code
def yX1_changeSetting : MethodName := ⟨RX1, "changeSetting", "(II)V"⟩
abbrev cX1_cutSprings : ByteArray := prog_3_method_7_code
def yX1_cutSprings : MethodName := ⟨RX1, "cutSprings", "()V"⟩
abbrev cX1_account : ByteArray := prog_3_method_8_code
def yX1_account : MethodName := ⟨RX1, "account", "(I)I"⟩
abbrev cX1_putInstead : ByteArray := prog_3_method_9_code
def yX1_putInstead : MethodName := ⟨RX1, "putInstead", "(IIII)V"⟩
abbrev cX1_reasonAgainst : ByteArray := prog_3_method_10_code
def yX1_reasonAgainst : MethodName := ⟨RX1, "reasonAgainst", "(II)I"⟩
abbrev cX1_reasonAgainstPass : ByteArray := prog_3_method_11_code
def yX1_reasonAgainstPass : MethodName := ⟨RX1, "reasonAgainstPass", "()I"⟩
abbrev cX1_makeMove : ByteArray := prog_3_method_12_code
def yX1_makeMove : MethodName := ⟨RX1, "makeMove", "(II)I"⟩
abbrev cX1_carryOut : ByteArray := prog_3_method_13_code
def yX1_carryOut : MethodName := ⟨RX1, "carryOut", "(II)I"⟩
abbrev cX1_springBehindTaking : ByteArray := prog_3_method_14_code
def yX1_springBehindTaking : MethodName := ⟨RX1, "springBehindTaking", "(II)I"⟩
abbrev cX1_makePass : ByteArray := prog_3_method_15_code
def yX1_makePass : MethodName := ⟨RX1, "makePass", "()V"⟩
abbrev cX1_beginTurn : ByteArray := prog_3_method_16_code
def yX1_beginTurn : MethodName := ⟨RX1, "beginTurn", "(I)V"⟩
def RX2 : String := "ClockworkChess"
def TX2 : u_T := fun k => match k with
  | 0 => ("ClockworkChess", "game", "LClockworkChess$Game;", true)
  | 1 => ("ClockworkChess", "trial", "LClockworkChess$Game;", true)
  | 2 => ("ClockworkChess", "states", "[LClockworkChess$Game;", true)
  | 3 => ("ClockworkChess", "stateCount", "I", false)
  | 4 => ("ClockworkChess", "text", "[C", true)
  | 5 => ("ClockworkChess", "textLength", "I", false)
  | 6 => ("ClockworkChess", "springLeft", "[I", false)
  | _ => ("ClockworkChess", "springLeftNext", "[I", false)
def tyX2 : Nat → FieldType := fun k => match k with
  | 0 => .object "ClockworkChess$Game"
  | 1 => .object "ClockworkChess$Game"
  | 2 => .array (.object "ClockworkChess$Game")
  | 3 => .int
  | 4 => .array .char
  | 5 => .int
  | 6 => .array .int
  | _ => .array .int
theorem nmX2 : ∀ a, a < 8 → ∀ b, b < 8 → a ≠ b → (TX2 a).2.1 ≠ (TX2 b).2.1 := by decide +kernel
theorem tyX2_ok : ∀ k, k < 8 → parseFieldDescriptor (TX2 k).2.2.1 = some (tyX2 k) := by decide +kernel
abbrev cX2_init : ByteArray := prog_1_method_1_code
def yX2_init : MethodName := ⟨RX2, "<init>", "()V"⟩
abbrev cX2_setUp : ByteArray := prog_1_method_2_code
def yX2_setUp : MethodName := ⟨RX2, "setUp", "()I"⟩
abbrev cX2_set : ByteArray := prog_1_method_3_code
def yX2_set : MethodName := ⟨RX2, "set", "(II)I"⟩
abbrev cX2_put : ByteArray := prog_1_method_4_code
def yX2_put : MethodName := ⟨RX2, "put", "(IIII)I"⟩
abbrev cX2_tower : ByteArray := prog_1_method_5_code
def yX2_tower : MethodName := ⟨RX2, "tower", "(I)I"⟩
abbrev cX2_cell : ByteArray := prog_1_method_6_code
def yX2_cell : MethodName := ⟨RX2, "cell", "(II)I"⟩
abbrev cX2_count : ByteArray := prog_1_method_7_code
def yX2_count : MethodName := ⟨RX2, "count", "(I)I"⟩
abbrev cX2_undo : ByteArray := prog_1_method_8_code
def yX2_undo : MethodName := ⟨RX2, "undo", "()I"⟩
abbrev cX2_move : ByteArray := prog_1_method_9_code
def yX2_move : MethodName := ⟨RX2, "move", "(II)I"⟩
abbrev cX2_pass : ByteArray := prog_1_method_10_code
def yX2_pass : MethodName := ⟨RX2, "pass", "()I"⟩
abbrev cX2_refusal : ByteArray := prog_1_method_11_code
def yX2_refusal : MethodName := ⟨RX2, "refusal", "(II)I"⟩
abbrev cX2_cost : ByteArray := prog_1_method_12_code
def yX2_cost : MethodName := ⟨RX2, "cost", "(II)I"⟩
abbrev cX2_moves : ByteArray := prog_1_method_13_code
def yX2_moves : MethodName := ⟨RX2, "moves", "(I)I"⟩
abbrev cX2_listed : ByteArray := prog_1_method_14_code
def yX2_listed : MethodName := ⟨RX2, "listed", "(II)I"⟩
abbrev cX2_struck : ByteArray := prog_1_method_15_code
def yX2_struck : MethodName := ⟨RX2, "struck", "(II)I"⟩
abbrev cX2_reach : ByteArray := prog_1_method_16_code
def yX2_reach : MethodName := ⟨RX2, "reach", "(II)I"⟩
abbrev cX2_replies : ByteArray := prog_1_method_17_code
def yX2_replies : MethodName := ⟨RX2, "replies", "()I"⟩
abbrev cX2_best : ByteArray := prog_1_method_18_code
def yX2_best : MethodName := ⟨RX2, "best", "()I"⟩
abbrev cX2_type : ByteArray := prog_1_method_19_code
def yX2_type : MethodName := ⟨RX2, "type", "(I)I"⟩
abbrev cX2_clearText : ByteArray := prog_1_method_20_code
def yX2_clearText : MethodName := ⟨RX2, "clearText", "()I"⟩
abbrev cX2_fault : ByteArray := prog_1_method_21_code
def yX2_fault : MethodName := ⟨RX2, "fault", "(I)I"⟩
abbrev cX2_play : ByteArray := prog_1_method_22_code
def yX2_play : MethodName := ⟨RX2, "play", "()I"⟩
abbrev cX2_isCell : ByteArray := prog_1_method_23_code
def yX2_isCell : MethodName := ⟨RX2, "isCell", "(I)Z"⟩
abbrev cX2_isSide : ByteArray := prog_1_method_24_code
def yX2_isSide : MethodName := ⟨RX2, "isSide", "(I)Z"⟩
abbrev cX2_isAccount : ByteArray := prog_1_method_25_code
def yX2_isAccount : MethodName := ⟨RX2, "isAccount", "(I)Z"⟩
abbrev cX2_isSetting : ByteArray := prog_1_method_26_code
def yX2_isSetting : MethodName := ⟨RX2, "isSetting", "(II)Z"⟩
abbrev cX2_record : ByteArray := prog_1_method_27_code
def yX2_record : MethodName := ⟨RX2, "record", "()V"⟩
abbrev cX2_stateAt : ByteArray := prog_1_method_28_code
def yX2_stateAt : MethodName := ⟨RX2, "stateAt", "(I)LClockworkChess$Game;"⟩
abbrev cX2_makeReachWider : ByteArray := prog_1_method_29_code
def yX2_makeReachWider : MethodName := ⟨RX2, "makeReachWider", "(II)V"⟩
abbrev cX2_leaveFrom : ByteArray := prog_1_method_30_code
def yX2_leaveFrom : MethodName := ⟨RX2, "leaveFrom", "(I)V"⟩
abbrev cX2_cellsReached : ByteArray := prog_1_method_31_code
def yX2_cellsReached : MethodName := ⟨RX2, "cellsReached", "()I"⟩
abbrev cX2_gamesBehind : ByteArray := prog_1_method_32_code
def yX2_gamesBehind : MethodName := ⟨RX2, "gamesBehind", "(II)I"⟩
abbrev cX2_worthOf : ByteArray := prog_1_method_33_code
def yX2_worthOf : MethodName := ⟨RX2, "worthOf", "(II)I"⟩
abbrev cX2_tryText : ByteArray := prog_1_method_34_code
def yX2_tryText : MethodName := ⟨RX2, "tryText", "()I"⟩
abbrev cX2_signsOfForm : ByteArray := prog_1_method_35_code
def yX2_signsOfForm : MethodName := ⟨RX2, "signsOfForm", "(I)I"⟩
abbrev cX2_cellAt : ByteArray := prog_1_method_36_code
def yX2_cellAt : MethodName := ⟨RX2, "cellAt", "(I)I"⟩
abbrev cX2_signAt : ByteArray := prog_1_method_37_code
def yX2_signAt : MethodName := ⟨RX2, "signAt", "(I)C"⟩
abbrev cX2_movesInText : ByteArray := prog_1_method_38_code
def yX2_movesInText : MethodName := ⟨RX2, "movesInText", "()I"⟩
def RX3 : String := "ClockworkChessModel"
def TX3 : u_T := fun k => match k with
  | 0 => ("ClockworkChessModel", "st", "[I", true)
  | 1 => ("ClockworkChessModel", "past", "[I", true)
  | 2 => ("ClockworkChessModel", "aside", "[I", true)
  | 3 => ("ClockworkChessModel", "pasts", "I", false)
  | 4 => ("ClockworkChessModel", "text", "[I", true)
  | 5 => ("ClockworkChessModel", "length", "I", false)
  | 6 => ("ClockworkChessModel", "most", "[I", true)
  | 7 => ("ClockworkChessModel", "then", "[I", true)
  | 8 => ("ClockworkChessModel", "spot", "I", false)
  | 9 => ("ClockworkChessModel", "itsFrom", "I", false)
  | 10 => ("ClockworkChessModel", "itsTo", "I", false)
  | 11 => ("ClockworkChessModel", "from", "I", false)
  | _ => ("ClockworkChessModel", "many", "I", false)
def tyX3 : Nat → FieldType := fun k => match k with
  | 0 => .array .int
  | 1 => .array .int
  | 2 => .array .int
  | 3 => .int
  | 4 => .array .int
  | 5 => .int
  | 6 => .array .int
  | 7 => .array .int
  | 8 => .int
  | 9 => .int
  | 10 => .int
  | 11 => .int
  | _ => .int
theorem nmX3 : ∀ a, a < 13 → ∀ b, b < 13 → a ≠ b → (TX3 a).2.1 ≠ (TX3 b).2.1 := by decide +kernel
theorem tyX3_ok : ∀ k, k < 13 → parseFieldDescriptor (TX3 k).2.2.1 = some (tyX3 k) := by decide +kernel
abbrev cX3_init : ByteArray := prog_5_method_1_code
def yX3_init : MethodName := ⟨RX3, "<init>", "()V"⟩
abbrev cX3_in : ByteArray := prog_5_method_3_code
def yX3_in : MethodName := ⟨RX3, "in", "(III)Z"⟩
abbrev cX3_size : ByteArray := prog_5_method_4_code
def yX3_size : MethodName := ⟨RX3, "size", "(I)I"⟩
abbrev cX3_lesser : ByteArray := prog_5_method_5_code
def yX3_lesser : MethodName := ⟨RX3, "lesser", "(II)I"⟩
abbrev cX3_isCell : ByteArray := prog_5_method_6_code
def yX3_isCell : MethodName := ⟨RX3, "isCell", "(I)Z"⟩
abbrev cX3_isSide : ByteArray := prog_5_method_7_code
def yX3_isSide : MethodName := ⟨RX3, "isSide", "(I)Z"⟩
abbrev cX3_records : ByteArray := prog_5_method_8_code
def yX3_records : MethodName := ⟨RX3, "records", "()V"⟩
abbrev cX3_undo : ByteArray := prog_5_method_9_code
def yX3_undo : MethodName := ⟨RX3, "undo", "()I"⟩
abbrev cX3_laysAside : ByteArray := prog_5_method_10_code
def yX3_laysAside : MethodName := ⟨RX3, "laysAside", "()V"⟩
abbrev cX3_bringsBack : ByteArray := prog_5_method_11_code
def yX3_bringsBack : MethodName := ⟨RX3, "bringsBack", "()V"⟩
abbrev cX3_lays : ByteArray := prog_5_method_12_code
def yX3_lays : MethodName := ⟨RX3, "lays", "(IIII)V"⟩
abbrev cX3_springs : ByteArray := prog_5_method_13_code
def yX3_springs : MethodName := ⟨RX3, "springs", "(I)I"⟩
abbrev cX3_allSprings : ByteArray := prog_5_method_14_code
def yX3_allSprings : MethodName := ⟨RX3, "allSprings", "()I"⟩
abbrev cX3_begins : ByteArray := prog_5_method_15_code
def yX3_begins : MethodName := ⟨RX3, "begins", "()V"⟩
abbrev cX3_setUp : ByteArray := prog_5_method_16_code
def yX3_setUp : MethodName := ⟨RX3, "setUp", "()I"⟩
abbrev cX3_canBe : ByteArray := prog_5_method_17_code
def yX3_canBe : MethodName := ⟨RX3, "canBe", "(II)Z"⟩
abbrev cX3_set : ByteArray := prog_5_method_18_code
def yX3_set : MethodName := ⟨RX3, "set", "(II)I"⟩
abbrev cX3_put : ByteArray := prog_5_method_19_code
def yX3_put : MethodName := ⟨RX3, "put", "(IIII)I"⟩
abbrev cX3_towers : ByteArray := prog_5_method_20_code
def yX3_towers : MethodName := ⟨RX3, "towers", "()I"⟩
abbrev cX3_tower : ByteArray := prog_5_method_21_code
def yX3_tower : MethodName := ⟨RX3, "tower", "(I)I"⟩
abbrev cX3_cell : ByteArray := prog_5_method_22_code
def yX3_cell : MethodName := ⟨RX3, "cell", "(II)I"⟩
abbrev cX3_pieces : ByteArray := prog_5_method_23_code
def yX3_pieces : MethodName := ⟨RX3, "pieces", "()I"⟩
abbrev cX3_count : ByteArray := prog_5_method_24_code
def yX3_count : MethodName := ⟨RX3, "count", "(I)I"⟩
abbrev cX3_sign : ByteArray := prog_5_method_25_code
def yX3_sign : MethodName := ⟨RX3, "sign", "(I)I"⟩
abbrev cX3_isFree : ByteArray := prog_5_method_26_code
def yX3_isFree : MethodName := ⟨RX3, "isFree", "(II)Z"⟩
abbrev cX3_costBy : ByteArray := prog_5_method_27_code
def yX3_costBy : MethodName := ⟨RX3, "costBy", "(IIII)I"⟩
abbrev cX3_costOf : ByteArray := prog_5_method_28_code
def yX3_costOf : MethodName := ⟨RX3, "costOf", "(II)I"⟩
abbrev cX3_canGo : ByteArray := prog_5_method_29_code
def yX3_canGo : MethodName := ⟨RX3, "canGo", "(II)Z"⟩
abbrev cX3_movesFrom : ByteArray := prog_5_method_30_code
def yX3_movesFrom : MethodName := ⟨RX3, "movesFrom", "(I)I"⟩
abbrev cX3_movesOf : ByteArray := prog_5_method_31_code
def yX3_movesOf : MethodName := ⟨RX3, "movesOf", "(I)I"⟩
abbrev cX3_moveAt : ByteArray := prog_5_method_32_code
def yX3_moveAt : MethodName := ⟨RX3, "moveAt", "(II)I"⟩
abbrev cX3_goes : ByteArray := prog_5_method_33_code
def yX3_goes : MethodName := ⟨RX3, "goes", "(II)V"⟩
abbrev cX3_turns : ByteArray := prog_5_method_34_code
def yX3_turns : MethodName := ⟨RX3, "turns", "()V"⟩
abbrev cX3_makes : ByteArray := prog_5_method_35_code
def yX3_makes : MethodName := ⟨RX3, "makes", "(II)V"⟩
abbrev cX3_passes : ByteArray := prog_5_method_36_code
def yX3_passes : MethodName := ⟨RX3, "passes", "()V"⟩
abbrev cX3_refuses : ByteArray := prog_5_method_37_code
def yX3_refuses : MethodName := ⟨RX3, "refuses", "(II)I"⟩
abbrev cX3_refusesPass : ByteArray := prog_5_method_38_code
def yX3_refusesPass : MethodName := ⟨RX3, "refusesPass", "()I"⟩
abbrev cX3_move : ByteArray := prog_5_method_39_code
def yX3_move : MethodName := ⟨RX3, "move", "(II)I"⟩
abbrev cX3_pass : ByteArray := prog_5_method_40_code
def yX3_pass : MethodName := ⟨RX3, "pass", "()I"⟩
abbrev cX3_refusal : ByteArray := prog_5_method_41_code
def yX3_refusal : MethodName := ⟨RX3, "refusal", "(II)I"⟩
abbrev cX3_cost : ByteArray := prog_5_method_42_code
def yX3_cost : MethodName := ⟨RX3, "cost", "(II)I"⟩
abbrev cX3_moves : ByteArray := prog_5_method_43_code
def yX3_moves : MethodName := ⟨RX3, "moves", "(I)I"⟩
abbrev cX3_listed : ByteArray := prog_5_method_44_code
def yX3_listed : MethodName := ⟨RX3, "listed", "(II)I"⟩
abbrev cX3_struck : ByteArray := prog_5_method_45_code
def yX3_struck : MethodName := ⟨RX3, "struck", "(II)I"⟩
abbrev cX3_goesOn : ByteArray := prog_5_method_46_code
def yX3_goesOn : MethodName := ⟨RX3, "goesOn", "(II)V"⟩
abbrev cX3_reach : ByteArray := prog_5_method_47_code
def yX3_reach : MethodName := ⟨RX3, "reach", "(II)I"⟩
abbrev cX3_repliesTo : ByteArray := prog_5_method_48_code
def yX3_repliesTo : MethodName := ⟨RX3, "repliesTo", "(I)I"⟩
abbrev cX3_replies : ByteArray := prog_5_method_49_code
def yX3_replies : MethodName := ⟨RX3, "replies", "()I"⟩
abbrev cX3_goodFor : ByteArray := prog_5_method_50_code
def yX3_goodFor : MethodName := ⟨RX3, "goodFor", "(I)I"⟩
abbrev cX3_best : ByteArray := prog_5_method_51_code
def yX3_best : MethodName := ⟨RX3, "best", "()I"⟩
abbrev cX3_type : ByteArray := prog_5_method_52_code
def yX3_type : MethodName := ⟨RX3, "type", "(I)I"⟩
abbrev cX3_clearText : ByteArray := prog_5_method_53_code
def yX3_clearText : MethodName := ⟨RX3, "clearText", "()I"⟩
abbrev cX3_takes : ByteArray := prog_5_method_54_code
def yX3_takes : MethodName := ⟨RX3, "takes", "(I)Z"⟩
abbrev cX3_takesCell : ByteArray := prog_5_method_55_code
def yX3_takesCell : MethodName := ⟨RX3, "takesCell", "()I"⟩
abbrev cX3_isFormed : ByteArray := prog_5_method_56_code
def yX3_isFormed : MethodName := ⟨RX3, "isFormed", "()Z"⟩
abbrev cX3_does : ByteArray := prog_5_method_57_code
def yX3_does : MethodName := ⟨RX3, "does", "()I"⟩
abbrev cX3_reasonOfText : ByteArray := prog_5_method_58_code
def yX3_reasonOfText : MethodName := ⟨RX3, "reasonOfText", "()I"⟩
abbrev cX3_fault : ByteArray := prog_5_method_59_code
def yX3_fault : MethodName := ⟨RX3, "fault", "(I)I"⟩
abbrev cX3_play : ByteArray := prog_5_method_60_code
def yX3_play : MethodName := ⟨RX3, "play", "()I"⟩
def RJ6 : String := "java/lang/Integer"
def TJ6 : u_T := fun k => match k with
  | _ => ("", "", "", false)
def tyJ6 : Nat → FieldType := fun k => match k with
  | _ => .int
theorem nmJ6 : ∀ a, a < 0 → ∀ b, b < 0 → a ≠ b → (TJ6 a).2.1 ≠ (TJ6 b).2.1 := by decide +kernel
theorem tyJ6_ok : ∀ k, k < 0 → parseFieldDescriptor (TJ6 k).2.2.1 = some (tyJ6 k) := by decide +kernel
abbrev cJ6_compare_7cf53 : ByteArray := prog_6_method_40_code
def yJ6_compare_7cf53 : MethodName := ⟨RJ6, "compare", "(II)I"⟩
def RJ9 : String := "java/lang/Math"
def TJ9 : u_T := fun k => match k with
  | _ => ("", "", "", false)
def tyJ9 : Nat → FieldType := fun k => match k with
  | _ => .int
theorem nmJ9 : ∀ a, a < 0 → ∀ b, b < 0 → a ≠ b → (TJ9 a).2.1 ≠ (TJ9 b).2.1 := by decide +kernel
theorem tyJ9_ok : ∀ k, k < 0 → parseFieldDescriptor (TJ9 k).2.2.1 = some (tyJ9 k) := by decide +kernel
abbrev cJ9_abs_0f7a4 : ByteArray := prog_7_method_59_code
def yJ9_abs_0f7a4 : MethodName := ⟨RJ9, "abs", "(I)I"⟩
abbrev cJ9_max_7cf53 : ByteArray := prog_7_method_65_code
def yJ9_max_7cf53 : MethodName := ⟨RJ9, "max", "(II)I"⟩
abbrev cJ9_min_7cf53 : ByteArray := prog_7_method_69_code
def yJ9_min_7cf53 : MethodName := ⟨RJ9, "min", "(II)I"⟩
def RJ10 : String := "java/lang/System"
def TJ10 : u_T := fun k => match k with
  | _ => ("", "", "", false)
def tyJ10 : Nat → FieldType := fun k => match k with
  | _ => .int
theorem nmJ10 : ∀ a, a < 0 → ∀ b, b < 0 → a ≠ b → (TJ10 a).2.1 ≠ (TJ10 b).2.1 := by decide +kernel
theorem tyJ10_ok : ∀ k, k < 0 → parseFieldDescriptor (TJ10 k).2.2.1 = some (tyJ10 k) := by decide +kernel
def RL : String := "ClockworkChessLaw"
abbrev cL_law : ByteArray := code
def yL_law : MethodName := ⟨RL, "law", "([I)Z"⟩
theorem dX0_init_0 : decode cX0_init 0 = .ok (.aload_n 0, 1) := by decide +kernel
theorem dX0_init_1 : decode cX0_init 1 = .ok (.invokespecial 3, 3) := by decide +kernel
theorem dX0_init_4 : decode cX0_init 4 = .ok (.aload_n 0, 1) := by decide +kernel
theorem dX0_init_5 : decode cX0_init 5 = .ok (.bipush 36, 2) := by decide +kernel
theorem dX0_init_7 : decode cX0_init 7 = .ok (.newarray .int, 2) := by decide +kernel
theorem dX0_init_9 : decode cX0_init 9 = .ok (.putfield 9, 3) := by decide +kernel
theorem dX0_init_12 : decode cX0_init 12 = .ok (.aload_n 0, 1) := by decide +kernel
theorem dX0_init_13 : decode cX0_init 13 = .ok (.bipush 36, 2) := by decide +kernel
theorem dX0_init_15 : decode cX0_init 15 = .ok (.newarray .int, 2) := by decide +kernel
theorem dX0_init_17 : decode cX0_init 17 = .ok (.putfield 15, 3) := by decide +kernel
theorem dX0_init_20 : decode cX0_init 20 = .ok (.aload_n 0, 1) := by decide +kernel
theorem dX0_init_21 : decode cX0_init 21 = .ok (.bipush 36, 2) := by decide +kernel
theorem dX0_init_23 : decode cX0_init 23 = .ok (.newarray .int, 2) := by decide +kernel
theorem dX0_init_25 : decode cX0_init 25 = .ok (.putfield 18, 3) := by decide +kernel
theorem dX0_init_28 : decode cX0_init 28 = .ok (.aload_n 0, 1) := by decide +kernel
theorem dX0_init_29 : decode cX0_init 29 = .ok (.bipush 36, 2) := by decide +kernel
theorem dX0_init_31 : decode cX0_init 31 = .ok (.newarray .int, 2) := by decide +kernel
theorem dX0_init_33 : decode cX0_init 33 = .ok (.putfield 21, 3) := by decide +kernel
theorem dX0_init_36 : decode cX0_init 36 = .ok (.return_, 1) := by decide +kernel
theorem dX0_copyFrom_0 : decode cX0_copyFrom 0 = .ok (.aload_n 1, 1) := by decide +kernel
theorem dX0_copyFrom_1 : decode cX0_copyFrom 1 = .ok (.getfield 9, 3) := by decide +kernel
theorem dX0_copyFrom_4 : decode cX0_copyFrom 4 = .ok (.iconst 0, 1) := by decide +kernel
theorem dX0_copyFrom_5 : decode cX0_copyFrom 5 = .ok (.aload_n 0, 1) := by decide +kernel
theorem dX0_copyFrom_6 : decode cX0_copyFrom 6 = .ok (.getfield 9, 3) := by decide +kernel
theorem dX0_copyFrom_9 : decode cX0_copyFrom 9 = .ok (.iconst 0, 1) := by decide +kernel
theorem dX0_copyFrom_10 : decode cX0_copyFrom 10 = .ok (.bipush 36, 2) := by decide +kernel
theorem dX0_copyFrom_12 : decode cX0_copyFrom 12 = .ok (.invokestatic 24, 3) := by decide +kernel
theorem dX0_copyFrom_15 : decode cX0_copyFrom 15 = .ok (.aload_n 1, 1) := by decide +kernel
theorem dX0_copyFrom_16 : decode cX0_copyFrom 16 = .ok (.getfield 15, 3) := by decide +kernel
theorem dX0_copyFrom_19 : decode cX0_copyFrom 19 = .ok (.iconst 0, 1) := by decide +kernel
theorem dX0_copyFrom_20 : decode cX0_copyFrom 20 = .ok (.aload_n 0, 1) := by decide +kernel
theorem dX0_copyFrom_21 : decode cX0_copyFrom 21 = .ok (.getfield 15, 3) := by decide +kernel
theorem dX0_copyFrom_24 : decode cX0_copyFrom 24 = .ok (.iconst 0, 1) := by decide +kernel
theorem dX0_copyFrom_25 : decode cX0_copyFrom 25 = .ok (.bipush 36, 2) := by decide +kernel
theorem dX0_copyFrom_27 : decode cX0_copyFrom 27 = .ok (.invokestatic 24, 3) := by decide +kernel
theorem dX0_copyFrom_30 : decode cX0_copyFrom 30 = .ok (.aload_n 1, 1) := by decide +kernel
theorem dX0_copyFrom_31 : decode cX0_copyFrom 31 = .ok (.getfield 18, 3) := by decide +kernel
theorem dX0_copyFrom_34 : decode cX0_copyFrom 34 = .ok (.iconst 0, 1) := by decide +kernel
theorem dX0_copyFrom_35 : decode cX0_copyFrom 35 = .ok (.aload_n 0, 1) := by decide +kernel
theorem dX0_copyFrom_36 : decode cX0_copyFrom 36 = .ok (.getfield 18, 3) := by decide +kernel
theorem dX0_copyFrom_39 : decode cX0_copyFrom 39 = .ok (.iconst 0, 1) := by decide +kernel
theorem dX0_copyFrom_40 : decode cX0_copyFrom 40 = .ok (.bipush 36, 2) := by decide +kernel
theorem dX0_copyFrom_42 : decode cX0_copyFrom 42 = .ok (.invokestatic 24, 3) := by decide +kernel
theorem dX0_copyFrom_45 : decode cX0_copyFrom 45 = .ok (.aload_n 1, 1) := by decide +kernel
theorem dX0_copyFrom_46 : decode cX0_copyFrom 46 = .ok (.getfield 21, 3) := by decide +kernel
theorem dX0_copyFrom_49 : decode cX0_copyFrom 49 = .ok (.iconst 0, 1) := by decide +kernel
theorem dX0_copyFrom_50 : decode cX0_copyFrom 50 = .ok (.aload_n 0, 1) := by decide +kernel
theorem dX0_copyFrom_51 : decode cX0_copyFrom 51 = .ok (.getfield 21, 3) := by decide +kernel
theorem dX0_copyFrom_54 : decode cX0_copyFrom 54 = .ok (.iconst 0, 1) := by decide +kernel
theorem dX0_copyFrom_55 : decode cX0_copyFrom 55 = .ok (.bipush 36, 2) := by decide +kernel
theorem dX0_copyFrom_57 : decode cX0_copyFrom 57 = .ok (.invokestatic 24, 3) := by decide +kernel
theorem dX0_copyFrom_60 : decode cX0_copyFrom 60 = .ok (.return_, 1) := by decide +kernel
theorem dX0_arrange_0 : decode cX0_arrange 0 = .ok (.iconst 0, 1) := by decide +kernel
theorem dX0_arrange_1 : decode cX0_arrange 1 = .ok (.istore_n 2, 1) := by decide +kernel
theorem dX0_arrange_2 : decode cX0_arrange 2 = .ok (.iload_n 2, 1) := by decide +kernel
theorem dX0_arrange_3 : decode cX0_arrange 3 = .ok (.bipush 36, 2) := by decide +kernel
theorem dX0_arrange_5 : decode cX0_arrange 5 = .ok (.if_icmp .ge 20, 3) := by decide +kernel
theorem dX0_arrange_8 : decode cX0_arrange 8 = .ok (.aload_n 0, 1) := by decide +kernel
theorem dX0_arrange_9 : decode cX0_arrange 9 = .ok (.iload_n 2, 1) := by decide +kernel
theorem dX0_arrange_10 : decode cX0_arrange 10 = .ok (.invokevirtual 30, 3) := by decide +kernel
theorem dX0_arrange_13 : decode cX0_arrange 13 = .ok (.aload_n 0, 1) := by decide +kernel
theorem dX0_arrange_14 : decode cX0_arrange 14 = .ok (.iload_n 2, 1) := by decide +kernel
theorem dX0_arrange_15 : decode cX0_arrange 15 = .ok (.iconst 0, 1) := by decide +kernel
theorem dX0_arrange_16 : decode cX0_arrange 16 = .ok (.invokevirtual 34, 3) := by decide +kernel
theorem dX0_arrange_19 : decode cX0_arrange 19 = .ok (.iinc 2 1, 3) := by decide +kernel
theorem dX0_arrange_22 : decode cX0_arrange 22 = .ok (.goto (-20), 3) := by decide +kernel
theorem dX0_arrange_25 : decode cX0_arrange 25 = .ok (.iconst 0, 1) := by decide +kernel
theorem dX0_arrange_26 : decode cX0_arrange 26 = .ok (.istore_n 2, 1) := by decide +kernel
theorem dX0_arrange_27 : decode cX0_arrange 27 = .ok (.iload_n 2, 1) := by decide +kernel
theorem dX0_arrange_28 : decode cX0_arrange 28 = .ok (.getstatic 38, 3) := by decide +kernel
theorem dX0_arrange_31 : decode cX0_arrange 31 = .ok (.arraylength, 1) := by decide +kernel
theorem dX0_arrange_32 : decode cX0_arrange 32 = .ok (.if_icmp .ge 58, 3) := by decide +kernel
theorem dX0_arrange_35 : decode cX0_arrange 35 = .ok (.aload_n 0, 1) := by decide +kernel
theorem dX0_arrange_36 : decode cX0_arrange 36 = .ok (.iload_n 2, 1) := by decide +kernel
theorem dX0_arrange_37 : decode cX0_arrange 37 = .ok (.iconst 0, 1) := by decide +kernel
theorem dX0_arrange_38 : decode cX0_arrange 38 = .ok (.getstatic 38, 3) := by decide +kernel
theorem dX0_arrange_41 : decode cX0_arrange 41 = .ok (.iload_n 2, 1) := by decide +kernel
theorem dX0_arrange_42 : decode cX0_arrange 42 = .ok (.iaload, 1) := by decide +kernel
theorem dX0_arrange_43 : decode cX0_arrange 43 = .ok (.iload_n 1, 1) := by decide +kernel
theorem dX0_arrange_44 : decode cX0_arrange 44 = .ok (.invokevirtual 41, 3) := by decide +kernel
theorem dX0_arrange_47 : decode cX0_arrange 47 = .ok (.aload_n 0, 1) := by decide +kernel
theorem dX0_arrange_48 : decode cX0_arrange 48 = .ok (.bipush 6, 2) := by decide +kernel
theorem dX0_arrange_50 : decode cX0_arrange 50 = .ok (.iload_n 2, 1) := by decide +kernel
theorem dX0_arrange_51 : decode cX0_arrange 51 = .ok (.iadd, 1) := by decide +kernel
theorem dX0_arrange_52 : decode cX0_arrange 52 = .ok (.iconst 0, 1) := by decide +kernel
theorem dX0_arrange_53 : decode cX0_arrange 53 = .ok (.iconst 4, 1) := by decide +kernel
theorem dX0_arrange_54 : decode cX0_arrange 54 = .ok (.iload_n 1, 1) := by decide +kernel
theorem dX0_arrange_55 : decode cX0_arrange 55 = .ok (.invokevirtual 41, 3) := by decide +kernel
theorem dX0_arrange_58 : decode cX0_arrange 58 = .ok (.aload_n 0, 1) := by decide +kernel
theorem dX0_arrange_59 : decode cX0_arrange 59 = .ok (.bipush 24, 2) := by decide +kernel
theorem dX0_arrange_61 : decode cX0_arrange 61 = .ok (.iload_n 2, 1) := by decide +kernel
theorem dX0_arrange_62 : decode cX0_arrange 62 = .ok (.iadd, 1) := by decide +kernel
theorem dX0_arrange_63 : decode cX0_arrange 63 = .ok (.iconst 1, 1) := by decide +kernel
theorem dX0_arrange_64 : decode cX0_arrange 64 = .ok (.iconst 4, 1) := by decide +kernel
theorem dX0_arrange_65 : decode cX0_arrange 65 = .ok (.iload_n 1, 1) := by decide +kernel
theorem dX0_arrange_66 : decode cX0_arrange 66 = .ok (.invokevirtual 41, 3) := by decide +kernel
theorem dX0_arrange_69 : decode cX0_arrange 69 = .ok (.aload_n 0, 1) := by decide +kernel
theorem dX0_arrange_70 : decode cX0_arrange 70 = .ok (.bipush 30, 2) := by decide +kernel
theorem dX0_arrange_72 : decode cX0_arrange 72 = .ok (.iload_n 2, 1) := by decide +kernel
theorem dX0_arrange_73 : decode cX0_arrange 73 = .ok (.iadd, 1) := by decide +kernel
theorem dX0_arrange_74 : decode cX0_arrange 74 = .ok (.iconst 1, 1) := by decide +kernel
theorem dX0_arrange_75 : decode cX0_arrange 75 = .ok (.getstatic 38, 3) := by decide +kernel
theorem dX0_arrange_78 : decode cX0_arrange 78 = .ok (.iload_n 2, 1) := by decide +kernel
theorem dX0_arrange_79 : decode cX0_arrange 79 = .ok (.iaload, 1) := by decide +kernel
theorem dX0_arrange_80 : decode cX0_arrange 80 = .ok (.iload_n 1, 1) := by decide +kernel
theorem dX0_arrange_81 : decode cX0_arrange 81 = .ok (.invokevirtual 41, 3) := by decide +kernel
theorem dX0_arrange_84 : decode cX0_arrange 84 = .ok (.iinc 2 1, 3) := by decide +kernel
theorem dX0_arrange_87 : decode cX0_arrange 87 = .ok (.goto (-60), 3) := by decide +kernel
theorem dX0_arrange_90 : decode cX0_arrange 90 = .ok (.iconst 0, 1) := by decide +kernel
theorem dX0_arrange_91 : decode cX0_arrange 91 = .ok (.istore_n 2, 1) := by decide +kernel
theorem dX0_arrange_92 : decode cX0_arrange 92 = .ok (.iload_n 2, 1) := by decide +kernel
theorem dX0_arrange_93 : decode cX0_arrange 93 = .ok (.getstatic 45, 3) := by decide +kernel
theorem dX0_arrange_96 : decode cX0_arrange 96 = .ok (.arraylength, 1) := by decide +kernel
theorem dX0_arrange_97 : decode cX0_arrange 97 = .ok (.if_icmp .ge 19, 3) := by decide +kernel
theorem dX0_arrange_100 : decode cX0_arrange 100 = .ok (.aload_n 0, 1) := by decide +kernel
theorem dX0_arrange_101 : decode cX0_arrange 101 = .ok (.getstatic 45, 3) := by decide +kernel
theorem dX0_arrange_104 : decode cX0_arrange 104 = .ok (.iload_n 2, 1) := by decide +kernel
theorem dX0_arrange_105 : decode cX0_arrange 105 = .ok (.iaload, 1) := by decide +kernel
theorem dX0_arrange_106 : decode cX0_arrange 106 = .ok (.iconst 1, 1) := by decide +kernel
theorem dX0_arrange_107 : decode cX0_arrange 107 = .ok (.invokevirtual 34, 3) := by decide +kernel
theorem dX0_arrange_110 : decode cX0_arrange 110 = .ok (.iinc 2 1, 3) := by decide +kernel
theorem dX0_arrange_113 : decode cX0_arrange 113 = .ok (.goto (-21), 3) := by decide +kernel
theorem dX0_arrange_116 : decode cX0_arrange 116 = .ok (.return_, 1) := by decide +kernel
theorem dX0_place_0 : decode cX0_place 0 = .ok (.iload_n 1, 1) := by decide +kernel
theorem dX0_place_1 : decode cX0_place 1 = .ok (.invokestatic 48, 3) := by decide +kernel
theorem dX0_place_4 : decode cX0_place 4 = .ok (.ifCond .eq 25, 3) := by decide +kernel
theorem dX0_place_7 : decode cX0_place 7 = .ok (.aload_n 0, 1) := by decide +kernel
theorem dX0_place_8 : decode cX0_place 8 = .ok (.getfield 9, 3) := by decide +kernel
theorem dX0_place_11 : decode cX0_place 11 = .ok (.iload_n 1, 1) := by decide +kernel
theorem dX0_place_12 : decode cX0_place 12 = .ok (.iload_n 2, 1) := by decide +kernel
theorem dX0_place_13 : decode cX0_place 13 = .ok (.iastore, 1) := by decide +kernel
theorem dX0_place_14 : decode cX0_place 14 = .ok (.aload_n 0, 1) := by decide +kernel
theorem dX0_place_15 : decode cX0_place 15 = .ok (.getfield 15, 3) := by decide +kernel
theorem dX0_place_18 : decode cX0_place 18 = .ok (.iload_n 1, 1) := by decide +kernel
theorem dX0_place_19 : decode cX0_place 19 = .ok (.iload_n 3, 1) := by decide +kernel
theorem dX0_place_20 : decode cX0_place 20 = .ok (.iastore, 1) := by decide +kernel
theorem dX0_place_21 : decode cX0_place 21 = .ok (.aload_n 0, 1) := by decide +kernel
theorem dX0_place_22 : decode cX0_place 22 = .ok (.getfield 18, 3) := by decide +kernel
theorem dX0_place_25 : decode cX0_place 25 = .ok (.iload_n 1, 1) := by decide +kernel
theorem dX0_place_26 : decode cX0_place 26 = .ok (.iload 4, 2) := by decide +kernel
theorem dX0_place_28 : decode cX0_place 28 = .ok (.iastore, 1) := by decide +kernel
theorem dX0_place_29 : decode cX0_place 29 = .ok (.return_, 1) := by decide +kernel
theorem dX0_empty_0 : decode cX0_empty 0 = .ok (.aload_n 0, 1) := by decide +kernel
theorem dX0_empty_1 : decode cX0_empty 1 = .ok (.iload_n 1, 1) := by decide +kernel
theorem dX0_empty_2 : decode cX0_empty 2 = .ok (.iconst (-1), 1) := by decide +kernel
theorem dX0_empty_3 : decode cX0_empty 3 = .ok (.iconst 0, 1) := by decide +kernel
theorem dX0_empty_4 : decode cX0_empty 4 = .ok (.iconst 0, 1) := by decide +kernel
theorem dX0_empty_5 : decode cX0_empty 5 = .ok (.invokevirtual 41, 3) := by decide +kernel
theorem dX0_empty_8 : decode cX0_empty 8 = .ok (.return_, 1) := by decide +kernel
theorem dX0_changeSpring_0 : decode cX0_changeSpring 0 = .ok (.iload_n 1, 1) := by decide +kernel
theorem dX0_changeSpring_1 : decode cX0_changeSpring 1 = .ok (.invokestatic 48, 3) := by decide +kernel
theorem dX0_changeSpring_4 : decode cX0_changeSpring 4 = .ok (.ifCond .eq 10, 3) := by decide +kernel
theorem dX0_changeSpring_7 : decode cX0_changeSpring 7 = .ok (.aload_n 0, 1) := by decide +kernel
theorem dX0_changeSpring_8 : decode cX0_changeSpring 8 = .ok (.getfield 18, 3) := by decide +kernel
theorem dX0_changeSpring_11 : decode cX0_changeSpring 11 = .ok (.iload_n 1, 1) := by decide +kernel
theorem dX0_changeSpring_12 : decode cX0_changeSpring 12 = .ok (.iload_n 2, 1) := by decide +kernel
theorem dX0_changeSpring_13 : decode cX0_changeSpring 13 = .ok (.iastore, 1) := by decide +kernel
theorem dX0_changeSpring_14 : decode cX0_changeSpring 14 = .ok (.return_, 1) := by decide +kernel
theorem dX0_markTower_0 : decode cX0_markTower 0 = .ok (.iload_n 1, 1) := by decide +kernel
theorem dX0_markTower_1 : decode cX0_markTower 1 = .ok (.invokestatic 48, 3) := by decide +kernel
theorem dX0_markTower_4 : decode cX0_markTower 4 = .ok (.ifCond .eq 18, 3) := by decide +kernel
theorem dX0_markTower_7 : decode cX0_markTower 7 = .ok (.aload_n 0, 1) := by decide +kernel
theorem dX0_markTower_8 : decode cX0_markTower 8 = .ok (.getfield 21, 3) := by decide +kernel
theorem dX0_markTower_11 : decode cX0_markTower 11 = .ok (.iload_n 1, 1) := by decide +kernel
theorem dX0_markTower_12 : decode cX0_markTower 12 = .ok (.iload_n 2, 1) := by decide +kernel
theorem dX0_markTower_13 : decode cX0_markTower 13 = .ok (.ifCond .eq 7, 3) := by decide +kernel
theorem dX0_markTower_16 : decode cX0_markTower 16 = .ok (.iconst 1, 1) := by decide +kernel
theorem dX0_markTower_17 : decode cX0_markTower 17 = .ok (.goto 4, 3) := by decide +kernel
theorem dX0_markTower_20 : decode cX0_markTower 20 = .ok (.iconst 0, 1) := by decide +kernel
theorem dX0_markTower_21 : decode cX0_markTower 21 = .ok (.iastore, 1) := by decide +kernel
theorem dX0_markTower_22 : decode cX0_markTower 22 = .ok (.return_, 1) := by decide +kernel
theorem dX0_sideOn_0 : decode cX0_sideOn 0 = .ok (.iload_n 1, 1) := by decide +kernel
theorem dX0_sideOn_1 : decode cX0_sideOn 1 = .ok (.invokestatic 48, 3) := by decide +kernel
theorem dX0_sideOn_4 : decode cX0_sideOn 4 = .ok (.ifCond .eq 12, 3) := by decide +kernel
theorem dX0_sideOn_7 : decode cX0_sideOn 7 = .ok (.aload_n 0, 1) := by decide +kernel
theorem dX0_sideOn_8 : decode cX0_sideOn 8 = .ok (.getfield 9, 3) := by decide +kernel
theorem dX0_sideOn_11 : decode cX0_sideOn 11 = .ok (.iload_n 1, 1) := by decide +kernel
theorem dX0_sideOn_12 : decode cX0_sideOn 12 = .ok (.iaload, 1) := by decide +kernel
theorem dX0_sideOn_13 : decode cX0_sideOn 13 = .ok (.goto 4, 3) := by decide +kernel
theorem dX0_sideOn_16 : decode cX0_sideOn 16 = .ok (.iconst (-1), 1) := by decide +kernel
theorem dX0_sideOn_17 : decode cX0_sideOn 17 = .ok (.ireturn, 1) := by decide +kernel
theorem dX0_hasPiece_0 : decode cX0_hasPiece 0 = .ok (.aload_n 0, 1) := by decide +kernel
theorem dX0_hasPiece_1 : decode cX0_hasPiece 1 = .ok (.iload_n 1, 1) := by decide +kernel
theorem dX0_hasPiece_2 : decode cX0_hasPiece 2 = .ok (.invokevirtual 52, 3) := by decide +kernel
theorem dX0_hasPiece_5 : decode cX0_hasPiece 5 = .ok (.iconst (-1), 1) := by decide +kernel
theorem dX0_hasPiece_6 : decode cX0_hasPiece 6 = .ok (.if_icmp .eq 7, 3) := by decide +kernel
theorem dX0_hasPiece_9 : decode cX0_hasPiece 9 = .ok (.iconst 1, 1) := by decide +kernel
theorem dX0_hasPiece_10 : decode cX0_hasPiece 10 = .ok (.goto 4, 3) := by decide +kernel
theorem dX0_hasPiece_13 : decode cX0_hasPiece 13 = .ok (.iconst 0, 1) := by decide +kernel
theorem dX0_hasPiece_14 : decode cX0_hasPiece 14 = .ok (.ireturn, 1) := by decide +kernel
theorem dX0_kindOn_0 : decode cX0_kindOn 0 = .ok (.iload_n 1, 1) := by decide +kernel
theorem dX0_kindOn_1 : decode cX0_kindOn 1 = .ok (.invokestatic 48, 3) := by decide +kernel
theorem dX0_kindOn_4 : decode cX0_kindOn 4 = .ok (.ifCond .eq 12, 3) := by decide +kernel
theorem dX0_kindOn_7 : decode cX0_kindOn 7 = .ok (.aload_n 0, 1) := by decide +kernel
theorem dX0_kindOn_8 : decode cX0_kindOn 8 = .ok (.getfield 15, 3) := by decide +kernel
theorem dX0_kindOn_11 : decode cX0_kindOn 11 = .ok (.iload_n 1, 1) := by decide +kernel
theorem dX0_kindOn_12 : decode cX0_kindOn 12 = .ok (.iaload, 1) := by decide +kernel
theorem dX0_kindOn_13 : decode cX0_kindOn 13 = .ok (.goto 4, 3) := by decide +kernel
theorem dX0_kindOn_16 : decode cX0_kindOn 16 = .ok (.iconst 0, 1) := by decide +kernel
theorem dX0_kindOn_17 : decode cX0_kindOn 17 = .ok (.ireturn, 1) := by decide +kernel
theorem dX0_springOn_0 : decode cX0_springOn 0 = .ok (.iload_n 1, 1) := by decide +kernel
theorem dX0_springOn_1 : decode cX0_springOn 1 = .ok (.invokestatic 48, 3) := by decide +kernel
theorem dX0_springOn_4 : decode cX0_springOn 4 = .ok (.ifCond .eq 12, 3) := by decide +kernel
theorem dX0_springOn_7 : decode cX0_springOn 7 = .ok (.aload_n 0, 1) := by decide +kernel
theorem dX0_springOn_8 : decode cX0_springOn 8 = .ok (.getfield 18, 3) := by decide +kernel
theorem dX0_springOn_11 : decode cX0_springOn 11 = .ok (.iload_n 1, 1) := by decide +kernel
theorem dX0_springOn_12 : decode cX0_springOn 12 = .ok (.iaload, 1) := by decide +kernel
theorem dX0_springOn_13 : decode cX0_springOn 13 = .ok (.goto 4, 3) := by decide +kernel
theorem dX0_springOn_16 : decode cX0_springOn 16 = .ok (.iconst 0, 1) := by decide +kernel
theorem dX0_springOn_17 : decode cX0_springOn 17 = .ok (.ireturn, 1) := by decide +kernel
theorem dX0_isTower_0 : decode cX0_isTower 0 = .ok (.iload_n 1, 1) := by decide +kernel
theorem dX0_isTower_1 : decode cX0_isTower 1 = .ok (.invokestatic 48, 3) := by decide +kernel
theorem dX0_isTower_4 : decode cX0_isTower 4 = .ok (.ifCond .eq 17, 3) := by decide +kernel
theorem dX0_isTower_7 : decode cX0_isTower 7 = .ok (.aload_n 0, 1) := by decide +kernel
theorem dX0_isTower_8 : decode cX0_isTower 8 = .ok (.getfield 21, 3) := by decide +kernel
theorem dX0_isTower_11 : decode cX0_isTower 11 = .ok (.iload_n 1, 1) := by decide +kernel
theorem dX0_isTower_12 : decode cX0_isTower 12 = .ok (.iaload, 1) := by decide +kernel
theorem dX0_isTower_13 : decode cX0_isTower 13 = .ok (.iconst 1, 1) := by decide +kernel
theorem dX0_isTower_14 : decode cX0_isTower 14 = .ok (.if_icmp .ne 7, 3) := by decide +kernel
theorem dX0_isTower_17 : decode cX0_isTower 17 = .ok (.iconst 1, 1) := by decide +kernel
theorem dX0_isTower_18 : decode cX0_isTower 18 = .ok (.goto 4, 3) := by decide +kernel
theorem dX0_isTower_21 : decode cX0_isTower 21 = .ok (.iconst 0, 1) := by decide +kernel
theorem dX0_isTower_22 : decode cX0_isTower 22 = .ok (.ireturn, 1) := by decide +kernel
theorem dX0_springsOf_0 : decode cX0_springsOf 0 = .ok (.iconst 0, 1) := by decide +kernel
theorem dX0_springsOf_1 : decode cX0_springsOf 1 = .ok (.istore_n 2, 1) := by decide +kernel
theorem dX0_springsOf_2 : decode cX0_springsOf 2 = .ok (.iconst 0, 1) := by decide +kernel
theorem dX0_springsOf_3 : decode cX0_springsOf 3 = .ok (.istore_n 3, 1) := by decide +kernel
theorem dX0_springsOf_4 : decode cX0_springsOf 4 = .ok (.iload_n 3, 1) := by decide +kernel
theorem dX0_springsOf_5 : decode cX0_springsOf 5 = .ok (.bipush 36, 2) := by decide +kernel
theorem dX0_springsOf_7 : decode cX0_springsOf 7 = .ok (.if_icmp .ge 28, 3) := by decide +kernel
theorem dX0_springsOf_10 : decode cX0_springsOf 10 = .ok (.aload_n 0, 1) := by decide +kernel
theorem dX0_springsOf_11 : decode cX0_springsOf 11 = .ok (.getfield 9, 3) := by decide +kernel
theorem dX0_springsOf_14 : decode cX0_springsOf 14 = .ok (.iload_n 3, 1) := by decide +kernel
theorem dX0_springsOf_15 : decode cX0_springsOf 15 = .ok (.iaload, 1) := by decide +kernel
theorem dX0_springsOf_16 : decode cX0_springsOf 16 = .ok (.iload_n 1, 1) := by decide +kernel
theorem dX0_springsOf_17 : decode cX0_springsOf 17 = .ok (.if_icmp .ne 12, 3) := by decide +kernel
theorem dX0_springsOf_20 : decode cX0_springsOf 20 = .ok (.iload_n 2, 1) := by decide +kernel
theorem dX0_springsOf_21 : decode cX0_springsOf 21 = .ok (.aload_n 0, 1) := by decide +kernel
theorem dX0_springsOf_22 : decode cX0_springsOf 22 = .ok (.getfield 18, 3) := by decide +kernel
theorem dX0_springsOf_25 : decode cX0_springsOf 25 = .ok (.iload_n 3, 1) := by decide +kernel
theorem dX0_springsOf_26 : decode cX0_springsOf 26 = .ok (.iaload, 1) := by decide +kernel
theorem dX0_springsOf_27 : decode cX0_springsOf 27 = .ok (.iadd, 1) := by decide +kernel
theorem dX0_springsOf_28 : decode cX0_springsOf 28 = .ok (.istore_n 2, 1) := by decide +kernel
theorem dX0_springsOf_29 : decode cX0_springsOf 29 = .ok (.iinc 3 1, 3) := by decide +kernel
theorem dX0_springsOf_32 : decode cX0_springsOf 32 = .ok (.goto (-28), 3) := by decide +kernel
theorem dX0_springsOf_35 : decode cX0_springsOf 35 = .ok (.iload_n 2, 1) := by decide +kernel
theorem dX0_springsOf_36 : decode cX0_springsOf 36 = .ok (.ireturn, 1) := by decide +kernel
theorem dX0_springsInAll_0 : decode cX0_springsInAll 0 = .ok (.aload_n 0, 1) := by decide +kernel
theorem dX0_springsInAll_1 : decode cX0_springsInAll 1 = .ok (.iconst 0, 1) := by decide +kernel
theorem dX0_springsInAll_2 : decode cX0_springsInAll 2 = .ok (.invokevirtual 56, 3) := by decide +kernel
theorem dX0_springsInAll_5 : decode cX0_springsInAll 5 = .ok (.aload_n 0, 1) := by decide +kernel
theorem dX0_springsInAll_6 : decode cX0_springsInAll 6 = .ok (.iconst 1, 1) := by decide +kernel
theorem dX0_springsInAll_7 : decode cX0_springsInAll 7 = .ok (.invokevirtual 56, 3) := by decide +kernel
theorem dX0_springsInAll_10 : decode cX0_springsInAll 10 = .ok (.iadd, 1) := by decide +kernel
theorem dX0_springsInAll_11 : decode cX0_springsInAll 11 = .ok (.ireturn, 1) := by decide +kernel
theorem dX0_piecesInAll_0 : decode cX0_piecesInAll 0 = .ok (.iconst 0, 1) := by decide +kernel
theorem dX0_piecesInAll_1 : decode cX0_piecesInAll 1 = .ok (.istore_n 1, 1) := by decide +kernel
theorem dX0_piecesInAll_2 : decode cX0_piecesInAll 2 = .ok (.iconst 0, 1) := by decide +kernel
theorem dX0_piecesInAll_3 : decode cX0_piecesInAll 3 = .ok (.istore_n 2, 1) := by decide +kernel
theorem dX0_piecesInAll_4 : decode cX0_piecesInAll 4 = .ok (.iload_n 2, 1) := by decide +kernel
theorem dX0_piecesInAll_5 : decode cX0_piecesInAll 5 = .ok (.bipush 36, 2) := by decide +kernel
theorem dX0_piecesInAll_7 : decode cX0_piecesInAll 7 = .ok (.if_icmp .ge 22, 3) := by decide +kernel
theorem dX0_piecesInAll_10 : decode cX0_piecesInAll 10 = .ok (.aload_n 0, 1) := by decide +kernel
theorem dX0_piecesInAll_11 : decode cX0_piecesInAll 11 = .ok (.getfield 9, 3) := by decide +kernel
theorem dX0_piecesInAll_14 : decode cX0_piecesInAll 14 = .ok (.iload_n 2, 1) := by decide +kernel
theorem dX0_piecesInAll_15 : decode cX0_piecesInAll 15 = .ok (.iaload, 1) := by decide +kernel
theorem dX0_piecesInAll_16 : decode cX0_piecesInAll 16 = .ok (.iconst (-1), 1) := by decide +kernel
theorem dX0_piecesInAll_17 : decode cX0_piecesInAll 17 = .ok (.if_icmp .eq 6, 3) := by decide +kernel
theorem dX0_piecesInAll_20 : decode cX0_piecesInAll 20 = .ok (.iinc 1 1, 3) := by decide +kernel
theorem dX0_piecesInAll_23 : decode cX0_piecesInAll 23 = .ok (.iinc 2 1, 3) := by decide +kernel
theorem dX0_piecesInAll_26 : decode cX0_piecesInAll 26 = .ok (.goto (-22), 3) := by decide +kernel
theorem dX0_piecesInAll_29 : decode cX0_piecesInAll 29 = .ok (.iload_n 1, 1) := by decide +kernel
theorem dX0_piecesInAll_30 : decode cX0_piecesInAll 30 = .ok (.ireturn, 1) := by decide +kernel
theorem dX0_towersInAll_0 : decode cX0_towersInAll 0 = .ok (.iconst 0, 1) := by decide +kernel
theorem dX0_towersInAll_1 : decode cX0_towersInAll 1 = .ok (.istore_n 1, 1) := by decide +kernel
theorem dX0_towersInAll_2 : decode cX0_towersInAll 2 = .ok (.iconst 0, 1) := by decide +kernel
theorem dX0_towersInAll_3 : decode cX0_towersInAll 3 = .ok (.istore_n 2, 1) := by decide +kernel
theorem dX0_towersInAll_4 : decode cX0_towersInAll 4 = .ok (.iload_n 2, 1) := by decide +kernel
theorem dX0_towersInAll_5 : decode cX0_towersInAll 5 = .ok (.bipush 36, 2) := by decide +kernel
theorem dX0_towersInAll_7 : decode cX0_towersInAll 7 = .ok (.if_icmp .ge 18, 3) := by decide +kernel
theorem dX0_towersInAll_10 : decode cX0_towersInAll 10 = .ok (.iload_n 1, 1) := by decide +kernel
theorem dX0_towersInAll_11 : decode cX0_towersInAll 11 = .ok (.aload_n 0, 1) := by decide +kernel
theorem dX0_towersInAll_12 : decode cX0_towersInAll 12 = .ok (.getfield 21, 3) := by decide +kernel
theorem dX0_towersInAll_15 : decode cX0_towersInAll 15 = .ok (.iload_n 2, 1) := by decide +kernel
theorem dX0_towersInAll_16 : decode cX0_towersInAll 16 = .ok (.iaload, 1) := by decide +kernel
theorem dX0_towersInAll_17 : decode cX0_towersInAll 17 = .ok (.iadd, 1) := by decide +kernel
theorem dX0_towersInAll_18 : decode cX0_towersInAll 18 = .ok (.istore_n 1, 1) := by decide +kernel
theorem dX0_towersInAll_19 : decode cX0_towersInAll 19 = .ok (.iinc 2 1, 3) := by decide +kernel
theorem dX0_towersInAll_22 : decode cX0_towersInAll 22 = .ok (.goto (-18), 3) := by decide +kernel
theorem dX0_towersInAll_25 : decode cX0_towersInAll 25 = .ok (.iload_n 1, 1) := by decide +kernel
theorem dX0_towersInAll_26 : decode cX0_towersInAll 26 = .ok (.ireturn, 1) := by decide +kernel
theorem dX0_movesOf_0 : decode cX0_movesOf 0 = .ok (.iconst 0, 1) := by decide +kernel
theorem dX0_movesOf_1 : decode cX0_movesOf 1 = .ok (.istore_n 2, 1) := by decide +kernel
theorem dX0_movesOf_2 : decode cX0_movesOf 2 = .ok (.iconst 0, 1) := by decide +kernel
theorem dX0_movesOf_3 : decode cX0_movesOf 3 = .ok (.istore_n 3, 1) := by decide +kernel
theorem dX0_movesOf_4 : decode cX0_movesOf 4 = .ok (.iload_n 3, 1) := by decide +kernel
theorem dX0_movesOf_5 : decode cX0_movesOf 5 = .ok (.bipush 36, 2) := by decide +kernel
theorem dX0_movesOf_7 : decode cX0_movesOf 7 = .ok (.if_icmp .ge 48, 3) := by decide +kernel
theorem dX0_movesOf_10 : decode cX0_movesOf 10 = .ok (.iconst 0, 1) := by decide +kernel
theorem dX0_movesOf_11 : decode cX0_movesOf 11 = .ok (.istore 4, 2) := by decide +kernel
theorem dX0_movesOf_13 : decode cX0_movesOf 13 = .ok (.aload_n 0, 1) := by decide +kernel
theorem dX0_movesOf_14 : decode cX0_movesOf 14 = .ok (.getfield 9, 3) := by decide +kernel
theorem dX0_movesOf_17 : decode cX0_movesOf 17 = .ok (.iload_n 3, 1) := by decide +kernel
theorem dX0_movesOf_18 : decode cX0_movesOf 18 = .ok (.iaload, 1) := by decide +kernel
theorem dX0_movesOf_19 : decode cX0_movesOf 19 = .ok (.iload_n 1, 1) := by decide +kernel
theorem dX0_movesOf_20 : decode cX0_movesOf 20 = .ok (.if_icmp .ne 29, 3) := by decide +kernel
theorem dX0_movesOf_23 : decode cX0_movesOf 23 = .ok (.iload 4, 2) := by decide +kernel
theorem dX0_movesOf_25 : decode cX0_movesOf 25 = .ok (.bipush 36, 2) := by decide +kernel
theorem dX0_movesOf_27 : decode cX0_movesOf 27 = .ok (.if_icmp .ge 22, 3) := by decide +kernel
theorem dX0_movesOf_30 : decode cX0_movesOf 30 = .ok (.aload_n 0, 1) := by decide +kernel
theorem dX0_movesOf_31 : decode cX0_movesOf 31 = .ok (.iload_n 3, 1) := by decide +kernel
theorem dX0_movesOf_32 : decode cX0_movesOf 32 = .ok (.iload 4, 2) := by decide +kernel
theorem dX0_movesOf_34 : decode cX0_movesOf 34 = .ok (.invokevirtual 59, 3) := by decide +kernel
theorem dX0_movesOf_37 : decode cX0_movesOf 37 = .ok (.ifCond .eq 6, 3) := by decide +kernel
theorem dX0_movesOf_40 : decode cX0_movesOf 40 = .ok (.iinc 2 1, 3) := by decide +kernel
theorem dX0_movesOf_43 : decode cX0_movesOf 43 = .ok (.iinc 4 1, 3) := by decide +kernel
theorem dX0_movesOf_46 : decode cX0_movesOf 46 = .ok (.goto (-33), 3) := by decide +kernel
theorem dX0_movesOf_49 : decode cX0_movesOf 49 = .ok (.iinc 3 1, 3) := by decide +kernel
theorem dX0_movesOf_52 : decode cX0_movesOf 52 = .ok (.goto (-48), 3) := by decide +kernel
theorem dX0_movesOf_55 : decode cX0_movesOf 55 = .ok (.iload_n 2, 1) := by decide +kernel
theorem dX0_movesOf_56 : decode cX0_movesOf 56 = .ok (.ireturn, 1) := by decide +kernel
theorem dX0_movesFrom_0 : decode cX0_movesFrom 0 = .ok (.iconst 0, 1) := by decide +kernel
theorem dX0_movesFrom_1 : decode cX0_movesFrom 1 = .ok (.istore_n 2, 1) := by decide +kernel
theorem dX0_movesFrom_2 : decode cX0_movesFrom 2 = .ok (.iconst 0, 1) := by decide +kernel
theorem dX0_movesFrom_3 : decode cX0_movesFrom 3 = .ok (.istore_n 3, 1) := by decide +kernel
theorem dX0_movesFrom_4 : decode cX0_movesFrom 4 = .ok (.iload_n 3, 1) := by decide +kernel
theorem dX0_movesFrom_5 : decode cX0_movesFrom 5 = .ok (.bipush 36, 2) := by decide +kernel
theorem dX0_movesFrom_7 : decode cX0_movesFrom 7 = .ok (.if_icmp .ge 21, 3) := by decide +kernel
theorem dX0_movesFrom_10 : decode cX0_movesFrom 10 = .ok (.aload_n 0, 1) := by decide +kernel
theorem dX0_movesFrom_11 : decode cX0_movesFrom 11 = .ok (.iload_n 1, 1) := by decide +kernel
theorem dX0_movesFrom_12 : decode cX0_movesFrom 12 = .ok (.iload_n 3, 1) := by decide +kernel
theorem dX0_movesFrom_13 : decode cX0_movesFrom 13 = .ok (.invokevirtual 59, 3) := by decide +kernel
theorem dX0_movesFrom_16 : decode cX0_movesFrom 16 = .ok (.ifCond .eq 6, 3) := by decide +kernel
theorem dX0_movesFrom_19 : decode cX0_movesFrom 19 = .ok (.iinc 2 1, 3) := by decide +kernel
theorem dX0_movesFrom_22 : decode cX0_movesFrom 22 = .ok (.iinc 3 1, 3) := by decide +kernel
theorem dX0_movesFrom_25 : decode cX0_movesFrom 25 = .ok (.goto (-21), 3) := by decide +kernel
theorem dX0_movesFrom_28 : decode cX0_movesFrom 28 = .ok (.iload_n 2, 1) := by decide +kernel
theorem dX0_movesFrom_29 : decode cX0_movesFrom 29 = .ok (.ireturn, 1) := by decide +kernel
theorem dX0_canMove_0 : decode cX0_canMove 0 = .ok (.aload_n 0, 1) := by decide +kernel
theorem dX0_canMove_1 : decode cX0_canMove 1 = .ok (.iload_n 1, 1) := by decide +kernel
theorem dX0_canMove_2 : decode cX0_canMove 2 = .ok (.iload_n 2, 1) := by decide +kernel
theorem dX0_canMove_3 : decode cX0_canMove 3 = .ok (.invokevirtual 63, 3) := by decide +kernel
theorem dX0_canMove_6 : decode cX0_canMove 6 = .ok (.istore_n 3, 1) := by decide +kernel
theorem dX0_canMove_7 : decode cX0_canMove 7 = .ok (.iload_n 3, 1) := by decide +kernel
theorem dX0_canMove_8 : decode cX0_canMove 8 = .ok (.ifCond .le 16, 3) := by decide +kernel
theorem dX0_canMove_11 : decode cX0_canMove 11 = .ok (.iload_n 3, 1) := by decide +kernel
theorem dX0_canMove_12 : decode cX0_canMove 12 = .ok (.aload_n 0, 1) := by decide +kernel
theorem dX0_canMove_13 : decode cX0_canMove 13 = .ok (.iload_n 1, 1) := by decide +kernel
theorem dX0_canMove_14 : decode cX0_canMove 14 = .ok (.invokevirtual 67, 3) := by decide +kernel
theorem dX0_canMove_17 : decode cX0_canMove 17 = .ok (.if_icmp .gt 7, 3) := by decide +kernel
theorem dX0_canMove_20 : decode cX0_canMove 20 = .ok (.iconst 1, 1) := by decide +kernel
theorem dX0_canMove_21 : decode cX0_canMove 21 = .ok (.goto 4, 3) := by decide +kernel
theorem dX0_canMove_24 : decode cX0_canMove 24 = .ok (.iconst 0, 1) := by decide +kernel
theorem dX0_canMove_25 : decode cX0_canMove 25 = .ok (.ireturn, 1) := by decide +kernel
theorem dX0_price_0 : decode cX0_price 0 = .ok (.aload_n 0, 1) := by decide +kernel
theorem dX0_price_1 : decode cX0_price 1 = .ok (.iload_n 1, 1) := by decide +kernel
theorem dX0_price_2 : decode cX0_price 2 = .ok (.invokevirtual 52, 3) := by decide +kernel
theorem dX0_price_5 : decode cX0_price 5 = .ok (.istore_n 3, 1) := by decide +kernel
theorem dX0_price_6 : decode cX0_price 6 = .ok (.aload_n 0, 1) := by decide +kernel
theorem dX0_price_7 : decode cX0_price 7 = .ok (.iload_n 2, 1) := by decide +kernel
theorem dX0_price_8 : decode cX0_price 8 = .ok (.invokevirtual 52, 3) := by decide +kernel
theorem dX0_price_11 : decode cX0_price 11 = .ok (.istore 4, 2) := by decide +kernel
theorem dX0_price_13 : decode cX0_price 13 = .ok (.iload_n 3, 1) := by decide +kernel
theorem dX0_price_14 : decode cX0_price 14 = .ok (.iconst (-1), 1) := by decide +kernel
theorem dX0_price_15 : decode cX0_price 15 = .ok (.if_icmp .eq 9, 3) := by decide +kernel
theorem dX0_price_18 : decode cX0_price 18 = .ok (.iload 4, 2) := by decide +kernel
theorem dX0_price_20 : decode cX0_price 20 = .ok (.iload_n 3, 1) := by decide +kernel
theorem dX0_price_21 : decode cX0_price 21 = .ok (.if_icmp .ne 5, 3) := by decide +kernel
theorem dX0_price_24 : decode cX0_price 24 = .ok (.iconst 0, 1) := by decide +kernel
theorem dX0_price_25 : decode cX0_price 25 = .ok (.ireturn, 1) := by decide +kernel
theorem dX0_price_26 : decode cX0_price 26 = .ok (.iload_n 2, 1) := by decide +kernel
theorem dX0_price_27 : decode cX0_price 27 = .ok (.bipush 6, 2) := by decide +kernel
theorem dX0_price_29 : decode cX0_price 29 = .ok (.irem, 1) := by decide +kernel
theorem dX0_price_30 : decode cX0_price 30 = .ok (.iload_n 1, 1) := by decide +kernel
theorem dX0_price_31 : decode cX0_price 31 = .ok (.bipush 6, 2) := by decide +kernel
theorem dX0_price_33 : decode cX0_price 33 = .ok (.irem, 1) := by decide +kernel
theorem dX0_price_34 : decode cX0_price 34 = .ok (.isub, 1) := by decide +kernel
theorem dX0_price_35 : decode cX0_price 35 = .ok (.istore 5, 2) := by decide +kernel
theorem dX0_price_37 : decode cX0_price 37 = .ok (.iload_n 2, 1) := by decide +kernel
theorem dX0_price_38 : decode cX0_price 38 = .ok (.bipush 6, 2) := by decide +kernel
theorem dX0_price_40 : decode cX0_price 40 = .ok (.idiv, 1) := by decide +kernel
theorem dX0_price_41 : decode cX0_price 41 = .ok (.iload_n 1, 1) := by decide +kernel
theorem dX0_price_42 : decode cX0_price 42 = .ok (.bipush 6, 2) := by decide +kernel
theorem dX0_price_44 : decode cX0_price 44 = .ok (.idiv, 1) := by decide +kernel
theorem dX0_price_45 : decode cX0_price 45 = .ok (.isub, 1) := by decide +kernel
theorem dX0_price_46 : decode cX0_price 46 = .ok (.istore 6, 2) := by decide +kernel
theorem dX0_price_48 : decode cX0_price 48 = .ok (.iload 5, 2) := by decide +kernel
theorem dX0_price_50 : decode cX0_price 50 = .ok (.invokestatic 70, 3) := by decide +kernel
theorem dX0_price_53 : decode cX0_price 53 = .ok (.istore 7, 2) := by decide +kernel
theorem dX0_price_55 : decode cX0_price 55 = .ok (.iload 6, 2) := by decide +kernel
theorem dX0_price_57 : decode cX0_price 57 = .ok (.invokestatic 70, 3) := by decide +kernel
theorem dX0_price_60 : decode cX0_price 60 = .ok (.istore 8, 2) := by decide +kernel
theorem dX0_price_62 : decode cX0_price 62 = .ok (.aload_n 0, 1) := by decide +kernel
theorem dX0_price_63 : decode cX0_price 63 = .ok (.iload_n 1, 1) := by decide +kernel
theorem dX0_price_64 : decode cX0_price 64 = .ok (.invokevirtual 75, 3) := by decide +kernel
theorem dX0_price_67 : decode cX0_price 67 = .ok (.tableswitch 106 0 3 #[29, 46, 70, 91], 29) := by decide +kernel
theorem dX0_price_96 : decode cX0_price 96 = .ok (.iload 7, 2) := by decide +kernel
theorem dX0_price_98 : decode cX0_price 98 = .ok (.iload 8, 2) := by decide +kernel
theorem dX0_price_100 : decode cX0_price 100 = .ok (.invokestatic 78, 3) := by decide +kernel
theorem dX0_price_103 : decode cX0_price 103 = .ok (.iconst 1, 1) := by decide +kernel
theorem dX0_price_104 : decode cX0_price 104 = .ok (.if_icmp .ne 7, 3) := by decide +kernel
theorem dX0_price_107 : decode cX0_price 107 = .ok (.iconst 1, 1) := by decide +kernel
theorem dX0_price_108 : decode cX0_price 108 = .ok (.goto 4, 3) := by decide +kernel
theorem dX0_price_111 : decode cX0_price 111 = .ok (.iconst 0, 1) := by decide +kernel
theorem dX0_price_112 : decode cX0_price 112 = .ok (.ireturn, 1) := by decide +kernel
theorem dX0_price_113 : decode cX0_price 113 = .ok (.iload 7, 2) := by decide +kernel
theorem dX0_price_115 : decode cX0_price 115 = .ok (.ifCond .eq 8, 3) := by decide +kernel
theorem dX0_price_118 : decode cX0_price 118 = .ok (.iload 8, 2) := by decide +kernel
theorem dX0_price_120 : decode cX0_price 120 = .ok (.ifCond .ne 15, 3) := by decide +kernel
theorem dX0_price_123 : decode cX0_price 123 = .ok (.aload_n 0, 1) := by decide +kernel
theorem dX0_price_124 : decode cX0_price 124 = .ok (.iload_n 1, 1) := by decide +kernel
theorem dX0_price_125 : decode cX0_price 125 = .ok (.iload 5, 2) := by decide +kernel
theorem dX0_price_127 : decode cX0_price 127 = .ok (.iload 6, 2) := by decide +kernel
theorem dX0_price_129 : decode cX0_price 129 = .ok (.invokevirtual 81, 3) := by decide +kernel
theorem dX0_price_132 : decode cX0_price 132 = .ok (.goto 4, 3) := by decide +kernel
theorem dX0_price_135 : decode cX0_price 135 = .ok (.iconst 0, 1) := by decide +kernel
theorem dX0_price_136 : decode cX0_price 136 = .ok (.ireturn, 1) := by decide +kernel
theorem dX0_price_137 : decode cX0_price 137 = .ok (.iload 7, 2) := by decide +kernel
theorem dX0_price_139 : decode cX0_price 139 = .ok (.iload 8, 2) := by decide +kernel
theorem dX0_price_141 : decode cX0_price 141 = .ok (.if_icmp .ne 15, 3) := by decide +kernel
theorem dX0_price_144 : decode cX0_price 144 = .ok (.aload_n 0, 1) := by decide +kernel
theorem dX0_price_145 : decode cX0_price 145 = .ok (.iload_n 1, 1) := by decide +kernel
theorem dX0_price_146 : decode cX0_price 146 = .ok (.iload 5, 2) := by decide +kernel
theorem dX0_price_148 : decode cX0_price 148 = .ok (.iload 6, 2) := by decide +kernel
theorem dX0_price_150 : decode cX0_price 150 = .ok (.invokevirtual 81, 3) := by decide +kernel
theorem dX0_price_153 : decode cX0_price 153 = .ok (.goto 4, 3) := by decide +kernel
theorem dX0_price_156 : decode cX0_price 156 = .ok (.iconst 0, 1) := by decide +kernel
theorem dX0_price_157 : decode cX0_price 157 = .ok (.ireturn, 1) := by decide +kernel
theorem dX0_price_158 : decode cX0_price 158 = .ok (.iload 7, 2) := by decide +kernel
theorem dX0_price_160 : decode cX0_price 160 = .ok (.iload 8, 2) := by decide +kernel
theorem dX0_price_162 : decode cX0_price 162 = .ok (.imul, 1) := by decide +kernel
theorem dX0_price_163 : decode cX0_price 163 = .ok (.iconst 2, 1) := by decide +kernel
theorem dX0_price_164 : decode cX0_price 164 = .ok (.if_icmp .ne 7, 3) := by decide +kernel
theorem dX0_price_167 : decode cX0_price 167 = .ok (.iconst 2, 1) := by decide +kernel
theorem dX0_price_168 : decode cX0_price 168 = .ok (.goto 4, 3) := by decide +kernel
theorem dX0_price_171 : decode cX0_price 171 = .ok (.iconst 0, 1) := by decide +kernel
theorem dX0_price_172 : decode cX0_price 172 = .ok (.ireturn, 1) := by decide +kernel
theorem dX0_price_173 : decode cX0_price 173 = .ok (.iload_n 3, 1) := by decide +kernel
theorem dX0_price_174 : decode cX0_price 174 = .ok (.ifCond .ne 7, 3) := by decide +kernel
theorem dX0_price_177 : decode cX0_price 177 = .ok (.iconst 1, 1) := by decide +kernel
theorem dX0_price_178 : decode cX0_price 178 = .ok (.goto 4, 3) := by decide +kernel
theorem dX0_price_181 : decode cX0_price 181 = .ok (.iconst (-1), 1) := by decide +kernel
theorem dX0_price_182 : decode cX0_price 182 = .ok (.istore 9, 2) := by decide +kernel
theorem dX0_price_184 : decode cX0_price 184 = .ok (.iload 6, 2) := by decide +kernel
theorem dX0_price_186 : decode cX0_price 186 = .ok (.iload 9, 2) := by decide +kernel
theorem dX0_price_188 : decode cX0_price 188 = .ok (.if_icmp .ne 23, 3) := by decide +kernel
theorem dX0_price_191 : decode cX0_price 191 = .ok (.iload 7, 2) := by decide +kernel
theorem dX0_price_193 : decode cX0_price 193 = .ok (.iload 4, 2) := by decide +kernel
theorem dX0_price_195 : decode cX0_price 195 = .ok (.iconst (-1), 1) := by decide +kernel
theorem dX0_price_196 : decode cX0_price 196 = .ok (.if_icmp .ne 7, 3) := by decide +kernel
theorem dX0_price_199 : decode cX0_price 199 = .ok (.iconst 0, 1) := by decide +kernel
theorem dX0_price_200 : decode cX0_price 200 = .ok (.goto 4, 3) := by decide +kernel
theorem dX0_price_203 : decode cX0_price 203 = .ok (.iconst 1, 1) := by decide +kernel
theorem dX0_price_204 : decode cX0_price 204 = .ok (.if_icmp .ne 7, 3) := by decide +kernel
theorem dX0_price_207 : decode cX0_price 207 = .ok (.iconst 1, 1) := by decide +kernel
theorem dX0_price_208 : decode cX0_price 208 = .ok (.goto 4, 3) := by decide +kernel
theorem dX0_price_211 : decode cX0_price 211 = .ok (.iconst 0, 1) := by decide +kernel
theorem dX0_price_212 : decode cX0_price 212 = .ok (.ireturn, 1) := by decide +kernel
theorem dX0_priceAlong_0 : decode cX0_priceAlong 0 = .ok (.iload_n 2, 1) := by decide +kernel
theorem dX0_priceAlong_1 : decode cX0_priceAlong 1 = .ok (.invokestatic 70, 3) := by decide +kernel
theorem dX0_priceAlong_4 : decode cX0_priceAlong 4 = .ok (.iload_n 3, 1) := by decide +kernel
theorem dX0_priceAlong_5 : decode cX0_priceAlong 5 = .ok (.invokestatic 70, 3) := by decide +kernel
theorem dX0_priceAlong_8 : decode cX0_priceAlong 8 = .ok (.invokestatic 78, 3) := by decide +kernel
theorem dX0_priceAlong_11 : decode cX0_priceAlong 11 = .ok (.istore 4, 2) := by decide +kernel
theorem dX0_priceAlong_13 : decode cX0_priceAlong 13 = .ok (.bipush 6, 2) := by decide +kernel
theorem dX0_priceAlong_15 : decode cX0_priceAlong 15 = .ok (.iload_n 3, 1) := by decide +kernel
theorem dX0_priceAlong_16 : decode cX0_priceAlong 16 = .ok (.iconst 0, 1) := by decide +kernel
theorem dX0_priceAlong_17 : decode cX0_priceAlong 17 = .ok (.invokestatic 85, 3) := by decide +kernel
theorem dX0_priceAlong_20 : decode cX0_priceAlong 20 = .ok (.imul, 1) := by decide +kernel
theorem dX0_priceAlong_21 : decode cX0_priceAlong 21 = .ok (.iload_n 2, 1) := by decide +kernel
theorem dX0_priceAlong_22 : decode cX0_priceAlong 22 = .ok (.iconst 0, 1) := by decide +kernel
theorem dX0_priceAlong_23 : decode cX0_priceAlong 23 = .ok (.invokestatic 85, 3) := by decide +kernel
theorem dX0_priceAlong_26 : decode cX0_priceAlong 26 = .ok (.iadd, 1) := by decide +kernel
theorem dX0_priceAlong_27 : decode cX0_priceAlong 27 = .ok (.istore 5, 2) := by decide +kernel
theorem dX0_priceAlong_29 : decode cX0_priceAlong 29 = .ok (.iconst 1, 1) := by decide +kernel
theorem dX0_priceAlong_30 : decode cX0_priceAlong 30 = .ok (.istore 6, 2) := by decide +kernel
theorem dX0_priceAlong_32 : decode cX0_priceAlong 32 = .ok (.iload 6, 2) := by decide +kernel
theorem dX0_priceAlong_34 : decode cX0_priceAlong 34 = .ok (.iload 4, 2) := by decide +kernel
theorem dX0_priceAlong_36 : decode cX0_priceAlong 36 = .ok (.if_icmp .ge 43, 3) := by decide +kernel
theorem dX0_priceAlong_39 : decode cX0_priceAlong 39 = .ok (.iload_n 1, 1) := by decide +kernel
theorem dX0_priceAlong_40 : decode cX0_priceAlong 40 = .ok (.iload 6, 2) := by decide +kernel
theorem dX0_priceAlong_42 : decode cX0_priceAlong 42 = .ok (.iload 5, 2) := by decide +kernel
theorem dX0_priceAlong_44 : decode cX0_priceAlong 44 = .ok (.imul, 1) := by decide +kernel
theorem dX0_priceAlong_45 : decode cX0_priceAlong 45 = .ok (.iadd, 1) := by decide +kernel
theorem dX0_priceAlong_46 : decode cX0_priceAlong 46 = .ok (.istore 7, 2) := by decide +kernel
theorem dX0_priceAlong_48 : decode cX0_priceAlong 48 = .ok (.iload 7, 2) := by decide +kernel
theorem dX0_priceAlong_50 : decode cX0_priceAlong 50 = .ok (.ifCond .lt 21, 3) := by decide +kernel
theorem dX0_priceAlong_53 : decode cX0_priceAlong 53 = .ok (.iload 7, 2) := by decide +kernel
theorem dX0_priceAlong_55 : decode cX0_priceAlong 55 = .ok (.bipush 36, 2) := by decide +kernel
theorem dX0_priceAlong_57 : decode cX0_priceAlong 57 = .ok (.if_icmp .ge 14, 3) := by decide +kernel
theorem dX0_priceAlong_60 : decode cX0_priceAlong 60 = .ok (.aload_n 0, 1) := by decide +kernel
theorem dX0_priceAlong_61 : decode cX0_priceAlong 61 = .ok (.getfield 9, 3) := by decide +kernel
theorem dX0_priceAlong_64 : decode cX0_priceAlong 64 = .ok (.iload 7, 2) := by decide +kernel
theorem dX0_priceAlong_66 : decode cX0_priceAlong 66 = .ok (.iaload, 1) := by decide +kernel
theorem dX0_priceAlong_67 : decode cX0_priceAlong 67 = .ok (.iconst (-1), 1) := by decide +kernel
theorem dX0_priceAlong_68 : decode cX0_priceAlong 68 = .ok (.if_icmp .eq 5, 3) := by decide +kernel
theorem dX0_priceAlong_71 : decode cX0_priceAlong 71 = .ok (.iconst 0, 1) := by decide +kernel
theorem dX0_priceAlong_72 : decode cX0_priceAlong 72 = .ok (.ireturn, 1) := by decide +kernel
theorem dX0_priceAlong_73 : decode cX0_priceAlong 73 = .ok (.iinc 6 1, 3) := by decide +kernel
theorem dX0_priceAlong_76 : decode cX0_priceAlong 76 = .ok (.goto (-44), 3) := by decide +kernel
theorem dX0_priceAlong_79 : decode cX0_priceAlong 79 = .ok (.iload 4, 2) := by decide +kernel
theorem dX0_priceAlong_81 : decode cX0_priceAlong 81 = .ok (.ireturn, 1) := by decide +kernel
theorem dX1_init_0 : decode cX1_init 0 = .ok (.aload_n 0, 1) := by decide +kernel
theorem dX1_init_1 : decode cX1_init 1 = .ok (.invokespecial 3, 3) := by decide +kernel
theorem dX1_init_4 : decode cX1_init 4 = .ok (.aload_n 0, 1) := by decide +kernel
theorem dX1_init_5 : decode cX1_init 5 = .ok (.new 9, 3) := by decide +kernel
theorem dX1_init_8 : decode cX1_init 8 = .ok (.dup, 1) := by decide +kernel
theorem dX1_init_9 : decode cX1_init 9 = .ok (.invokespecial 11, 3) := by decide +kernel
theorem dX1_init_12 : decode cX1_init 12 = .ok (.putfield 12, 3) := by decide +kernel
theorem dX1_init_15 : decode cX1_init 15 = .ok (.aload_n 0, 1) := by decide +kernel
theorem dX1_init_16 : decode cX1_init 16 = .ok (.bipush 9, 2) := by decide +kernel
theorem dX1_init_18 : decode cX1_init 18 = .ok (.putfield 18, 3) := by decide +kernel
theorem dX1_init_21 : decode cX1_init 21 = .ok (.aload_n 0, 1) := by decide +kernel
theorem dX1_init_22 : decode cX1_init 22 = .ok (.iconst 1, 1) := by decide +kernel
theorem dX1_init_23 : decode cX1_init 23 = .ok (.putfield 22, 3) := by decide +kernel
theorem dX1_init_26 : decode cX1_init 26 = .ok (.aload_n 0, 1) := by decide +kernel
theorem dX1_init_27 : decode cX1_init 27 = .ok (.iconst 2, 1) := by decide +kernel
theorem dX1_init_28 : decode cX1_init 28 = .ok (.putfield 25, 3) := by decide +kernel
theorem dX1_init_31 : decode cX1_init 31 = .ok (.aload_n 0, 1) := by decide +kernel
theorem dX1_init_32 : decode cX1_init 32 = .ok (.iconst (-1), 1) := by decide +kernel
theorem dX1_init_33 : decode cX1_init 33 = .ok (.putfield 28, 3) := by decide +kernel
theorem dX1_init_36 : decode cX1_init 36 = .ok (.return_, 1) := by decide +kernel
theorem dX1_copyFrom_0 : decode cX1_copyFrom 0 = .ok (.aload_n 0, 1) := by decide +kernel
theorem dX1_copyFrom_1 : decode cX1_copyFrom 1 = .ok (.getfield 12, 3) := by decide +kernel
theorem dX1_copyFrom_4 : decode cX1_copyFrom 4 = .ok (.aload_n 1, 1) := by decide +kernel
theorem dX1_copyFrom_5 : decode cX1_copyFrom 5 = .ok (.getfield 12, 3) := by decide +kernel
theorem dX1_copyFrom_8 : decode cX1_copyFrom 8 = .ok (.invokevirtual 31, 3) := by decide +kernel
theorem dX1_copyFrom_11 : decode cX1_copyFrom 11 = .ok (.aload_n 0, 1) := by decide +kernel
theorem dX1_copyFrom_12 : decode cX1_copyFrom 12 = .ok (.aload_n 1, 1) := by decide +kernel
theorem dX1_copyFrom_13 : decode cX1_copyFrom 13 = .ok (.getfield 18, 3) := by decide +kernel
theorem dX1_copyFrom_16 : decode cX1_copyFrom 16 = .ok (.putfield 18, 3) := by decide +kernel
theorem dX1_copyFrom_19 : decode cX1_copyFrom 19 = .ok (.aload_n 0, 1) := by decide +kernel
theorem dX1_copyFrom_20 : decode cX1_copyFrom 20 = .ok (.aload_n 1, 1) := by decide +kernel
theorem dX1_copyFrom_21 : decode cX1_copyFrom 21 = .ok (.getfield 22, 3) := by decide +kernel
theorem dX1_copyFrom_24 : decode cX1_copyFrom 24 = .ok (.putfield 22, 3) := by decide +kernel
theorem dX1_copyFrom_27 : decode cX1_copyFrom 27 = .ok (.aload_n 0, 1) := by decide +kernel
theorem dX1_copyFrom_28 : decode cX1_copyFrom 28 = .ok (.aload_n 1, 1) := by decide +kernel
theorem dX1_copyFrom_29 : decode cX1_copyFrom 29 = .ok (.getfield 25, 3) := by decide +kernel
theorem dX1_copyFrom_32 : decode cX1_copyFrom 32 = .ok (.putfield 25, 3) := by decide +kernel
theorem dX1_copyFrom_35 : decode cX1_copyFrom 35 = .ok (.aload_n 0, 1) := by decide +kernel
theorem dX1_copyFrom_36 : decode cX1_copyFrom 36 = .ok (.aload_n 1, 1) := by decide +kernel
theorem dX1_copyFrom_37 : decode cX1_copyFrom 37 = .ok (.getfield 35, 3) := by decide +kernel
theorem dX1_copyFrom_40 : decode cX1_copyFrom 40 = .ok (.putfield 35, 3) := by decide +kernel
theorem dX1_copyFrom_43 : decode cX1_copyFrom 43 = .ok (.aload_n 0, 1) := by decide +kernel
theorem dX1_copyFrom_44 : decode cX1_copyFrom 44 = .ok (.aload_n 1, 1) := by decide +kernel
theorem dX1_copyFrom_45 : decode cX1_copyFrom 45 = .ok (.getfield 38, 3) := by decide +kernel
theorem dX1_copyFrom_48 : decode cX1_copyFrom 48 = .ok (.putfield 38, 3) := by decide +kernel
theorem dX1_copyFrom_51 : decode cX1_copyFrom 51 = .ok (.aload_n 0, 1) := by decide +kernel
theorem dX1_copyFrom_52 : decode cX1_copyFrom 52 = .ok (.aload_n 1, 1) := by decide +kernel
theorem dX1_copyFrom_53 : decode cX1_copyFrom 53 = .ok (.getfield 28, 3) := by decide +kernel
theorem dX1_copyFrom_56 : decode cX1_copyFrom 56 = .ok (.putfield 28, 3) := by decide +kernel
theorem dX1_copyFrom_59 : decode cX1_copyFrom 59 = .ok (.aload_n 0, 1) := by decide +kernel
theorem dX1_copyFrom_60 : decode cX1_copyFrom 60 = .ok (.aload_n 1, 1) := by decide +kernel
theorem dX1_copyFrom_61 : decode cX1_copyFrom 61 = .ok (.getfield 41, 3) := by decide +kernel
theorem dX1_copyFrom_64 : decode cX1_copyFrom 64 = .ok (.putfield 41, 3) := by decide +kernel
theorem dX1_copyFrom_67 : decode cX1_copyFrom 67 = .ok (.aload_n 0, 1) := by decide +kernel
theorem dX1_copyFrom_68 : decode cX1_copyFrom 68 = .ok (.aload_n 1, 1) := by decide +kernel
theorem dX1_copyFrom_69 : decode cX1_copyFrom 69 = .ok (.getfield 44, 3) := by decide +kernel
theorem dX1_copyFrom_72 : decode cX1_copyFrom 72 = .ok (.putfield 44, 3) := by decide +kernel
theorem dX1_copyFrom_75 : decode cX1_copyFrom 75 = .ok (.aload_n 0, 1) := by decide +kernel
theorem dX1_copyFrom_76 : decode cX1_copyFrom 76 = .ok (.aload_n 1, 1) := by decide +kernel
theorem dX1_copyFrom_77 : decode cX1_copyFrom 77 = .ok (.getfield 48, 3) := by decide +kernel
theorem dX1_copyFrom_80 : decode cX1_copyFrom 80 = .ok (.putfield 48, 3) := by decide +kernel
theorem dX1_copyFrom_83 : decode cX1_copyFrom 83 = .ok (.aload_n 0, 1) := by decide +kernel
theorem dX1_copyFrom_84 : decode cX1_copyFrom 84 = .ok (.aload_n 1, 1) := by decide +kernel
theorem dX1_copyFrom_85 : decode cX1_copyFrom 85 = .ok (.getfield 51, 3) := by decide +kernel
theorem dX1_copyFrom_88 : decode cX1_copyFrom 88 = .ok (.putfield 51, 3) := by decide +kernel
theorem dX1_copyFrom_91 : decode cX1_copyFrom 91 = .ok (.aload_n 0, 1) := by decide +kernel
theorem dX1_copyFrom_92 : decode cX1_copyFrom 92 = .ok (.aload_n 1, 1) := by decide +kernel
theorem dX1_copyFrom_93 : decode cX1_copyFrom 93 = .ok (.getfield 54, 3) := by decide +kernel
theorem dX1_copyFrom_96 : decode cX1_copyFrom 96 = .ok (.putfield 54, 3) := by decide +kernel
theorem dX1_copyFrom_99 : decode cX1_copyFrom 99 = .ok (.aload_n 0, 1) := by decide +kernel
theorem dX1_copyFrom_100 : decode cX1_copyFrom 100 = .ok (.aload_n 1, 1) := by decide +kernel
theorem dX1_copyFrom_101 : decode cX1_copyFrom 101 = .ok (.getfield 57, 3) := by decide +kernel
theorem dX1_copyFrom_104 : decode cX1_copyFrom 104 = .ok (.putfield 57, 3) := by decide +kernel
theorem dX1_copyFrom_107 : decode cX1_copyFrom 107 = .ok (.aload_n 0, 1) := by decide +kernel
theorem dX1_copyFrom_108 : decode cX1_copyFrom 108 = .ok (.aload_n 1, 1) := by decide +kernel
theorem dX1_copyFrom_109 : decode cX1_copyFrom 109 = .ok (.getfield 60, 3) := by decide +kernel
theorem dX1_copyFrom_112 : decode cX1_copyFrom 112 = .ok (.putfield 60, 3) := by decide +kernel
theorem dX1_copyFrom_115 : decode cX1_copyFrom 115 = .ok (.aload_n 0, 1) := by decide +kernel
theorem dX1_copyFrom_116 : decode cX1_copyFrom 116 = .ok (.aload_n 1, 1) := by decide +kernel
theorem dX1_copyFrom_117 : decode cX1_copyFrom 117 = .ok (.getfield 63, 3) := by decide +kernel
theorem dX1_copyFrom_120 : decode cX1_copyFrom 120 = .ok (.putfield 63, 3) := by decide +kernel
theorem dX1_copyFrom_123 : decode cX1_copyFrom 123 = .ok (.return_, 1) := by decide +kernel
theorem dX1_begin_0 : decode cX1_begin 0 = .ok (.aload_n 0, 1) := by decide +kernel
theorem dX1_begin_1 : decode cX1_begin 1 = .ok (.getfield 12, 3) := by decide +kernel
theorem dX1_begin_4 : decode cX1_begin 4 = .ok (.aload_n 0, 1) := by decide +kernel
theorem dX1_begin_5 : decode cX1_begin 5 = .ok (.getfield 18, 3) := by decide +kernel
theorem dX1_begin_8 : decode cX1_begin 8 = .ok (.iconst 2, 1) := by decide +kernel
theorem dX1_begin_9 : decode cX1_begin 9 = .ok (.idiv, 1) := by decide +kernel
theorem dX1_begin_10 : decode cX1_begin 10 = .ok (.invokevirtual 66, 3) := by decide +kernel
theorem dX1_begin_13 : decode cX1_begin 13 = .ok (.aload_n 0, 1) := by decide +kernel
theorem dX1_begin_14 : decode cX1_begin 14 = .ok (.iconst 0, 1) := by decide +kernel
theorem dX1_begin_15 : decode cX1_begin 15 = .ok (.putfield 35, 3) := by decide +kernel
theorem dX1_begin_18 : decode cX1_begin 18 = .ok (.aload_n 0, 1) := by decide +kernel
theorem dX1_begin_19 : decode cX1_begin 19 = .ok (.iconst 0, 1) := by decide +kernel
theorem dX1_begin_20 : decode cX1_begin 20 = .ok (.putfield 38, 3) := by decide +kernel
theorem dX1_begin_23 : decode cX1_begin 23 = .ok (.aload_n 0, 1) := by decide +kernel
theorem dX1_begin_24 : decode cX1_begin 24 = .ok (.iconst (-1), 1) := by decide +kernel
theorem dX1_begin_25 : decode cX1_begin 25 = .ok (.putfield 28, 3) := by decide +kernel
theorem dX1_begin_28 : decode cX1_begin 28 = .ok (.aload_n 0, 1) := by decide +kernel
theorem dX1_begin_29 : decode cX1_begin 29 = .ok (.iconst 0, 1) := by decide +kernel
theorem dX1_begin_30 : decode cX1_begin 30 = .ok (.putfield 41, 3) := by decide +kernel
theorem dX1_begin_33 : decode cX1_begin 33 = .ok (.aload_n 0, 1) := by decide +kernel
theorem dX1_begin_34 : decode cX1_begin 34 = .ok (.iconst 0, 1) := by decide +kernel
theorem dX1_begin_35 : decode cX1_begin 35 = .ok (.putfield 44, 3) := by decide +kernel
theorem dX1_begin_38 : decode cX1_begin 38 = .ok (.aload_n 0, 1) := by decide +kernel
theorem dX1_begin_39 : decode cX1_begin 39 = .ok (.aload_n 0, 1) := by decide +kernel
theorem dX1_begin_40 : decode cX1_begin 40 = .ok (.getfield 12, 3) := by decide +kernel
theorem dX1_begin_43 : decode cX1_begin 43 = .ok (.invokevirtual 70, 3) := by decide +kernel
theorem dX1_begin_46 : decode cX1_begin 46 = .ok (.putfield 48, 3) := by decide +kernel
theorem dX1_begin_49 : decode cX1_begin 49 = .ok (.aload_n 0, 1) := by decide +kernel
theorem dX1_begin_50 : decode cX1_begin 50 = .ok (.iconst 0, 1) := by decide +kernel
theorem dX1_begin_51 : decode cX1_begin 51 = .ok (.putfield 51, 3) := by decide +kernel
theorem dX1_begin_54 : decode cX1_begin 54 = .ok (.aload_n 0, 1) := by decide +kernel
theorem dX1_begin_55 : decode cX1_begin 55 = .ok (.iconst 0, 1) := by decide +kernel
theorem dX1_begin_56 : decode cX1_begin 56 = .ok (.putfield 54, 3) := by decide +kernel
theorem dX1_begin_59 : decode cX1_begin 59 = .ok (.aload_n 0, 1) := by decide +kernel
theorem dX1_begin_60 : decode cX1_begin 60 = .ok (.iconst 0, 1) := by decide +kernel
theorem dX1_begin_61 : decode cX1_begin 61 = .ok (.putfield 57, 3) := by decide +kernel
theorem dX1_begin_64 : decode cX1_begin 64 = .ok (.aload_n 0, 1) := by decide +kernel
theorem dX1_begin_65 : decode cX1_begin 65 = .ok (.iconst 0, 1) := by decide +kernel
theorem dX1_begin_66 : decode cX1_begin 66 = .ok (.putfield 60, 3) := by decide +kernel
theorem dX1_begin_69 : decode cX1_begin 69 = .ok (.aload_n 0, 1) := by decide +kernel
theorem dX1_begin_70 : decode cX1_begin 70 = .ok (.iconst 0, 1) := by decide +kernel
theorem dX1_begin_71 : decode cX1_begin 71 = .ok (.putfield 63, 3) := by decide +kernel
theorem dX1_begin_74 : decode cX1_begin 74 = .ok (.return_, 1) := by decide +kernel
theorem dX1_isOver_0 : decode cX1_isOver 0 = .ok (.aload_n 0, 1) := by decide +kernel
theorem dX1_isOver_1 : decode cX1_isOver 1 = .ok (.getfield 38, 3) := by decide +kernel
theorem dX1_isOver_4 : decode cX1_isOver 4 = .ok (.ifCond .eq 7, 3) := by decide +kernel
theorem dX1_isOver_7 : decode cX1_isOver 7 = .ok (.iconst 1, 1) := by decide +kernel
theorem dX1_isOver_8 : decode cX1_isOver 8 = .ok (.goto 4, 3) := by decide +kernel
theorem dX1_isOver_11 : decode cX1_isOver 11 = .ok (.iconst 0, 1) := by decide +kernel
theorem dX1_isOver_12 : decode cX1_isOver 12 = .ok (.ireturn, 1) := by decide +kernel
theorem dX1_setting_0 : decode cX1_setting 0 = .ok (.iload_n 1, 1) := by decide +kernel
theorem dX1_setting_1 : decode cX1_setting 1 = .ok (.lookupswitch 37 #[(0, 27), (1, 32)], 27) := by decide +kernel
theorem dX1_setting_28 : decode cX1_setting 28 = .ok (.aload_n 0, 1) := by decide +kernel
theorem dX1_setting_29 : decode cX1_setting 29 = .ok (.getfield 18, 3) := by decide +kernel
theorem dX1_setting_32 : decode cX1_setting 32 = .ok (.ireturn, 1) := by decide +kernel
theorem dX1_setting_33 : decode cX1_setting 33 = .ok (.aload_n 0, 1) := by decide +kernel
theorem dX1_setting_34 : decode cX1_setting 34 = .ok (.getfield 22, 3) := by decide +kernel
theorem dX1_setting_37 : decode cX1_setting 37 = .ok (.ireturn, 1) := by decide +kernel
theorem dX1_setting_38 : decode cX1_setting 38 = .ok (.aload_n 0, 1) := by decide +kernel
theorem dX1_setting_39 : decode cX1_setting 39 = .ok (.getfield 25, 3) := by decide +kernel
theorem dX1_setting_42 : decode cX1_setting 42 = .ok (.ireturn, 1) := by decide +kernel
theorem dX1_changeSetting_0 : decode cX1_changeSetting 0 = .ok (.iload_n 1, 1) := by decide +kernel
theorem dX1_changeSetting_1 : decode cX1_changeSetting 1 = .ok (.lookupswitch 47 #[(0, 27), (1, 39)], 27) := by decide +kernel
theorem dX1_changeSetting_28 : decode cX1_changeSetting 28 = .ok (.aload_n 0, 1) := by decide +kernel
theorem dX1_changeSetting_29 : decode cX1_changeSetting 29 = .ok (.iload_n 2, 1) := by decide +kernel
theorem dX1_changeSetting_30 : decode cX1_changeSetting 30 = .ok (.putfield 18, 3) := by decide +kernel
theorem dX1_changeSetting_33 : decode cX1_changeSetting 33 = .ok (.aload_n 0, 1) := by decide +kernel
theorem dX1_changeSetting_34 : decode cX1_changeSetting 34 = .ok (.invokevirtual 74, 3) := by decide +kernel
theorem dX1_changeSetting_37 : decode cX1_changeSetting 37 = .ok (.goto 16, 3) := by decide +kernel
theorem dX1_changeSetting_40 : decode cX1_changeSetting 40 = .ok (.aload_n 0, 1) := by decide +kernel
theorem dX1_changeSetting_41 : decode cX1_changeSetting 41 = .ok (.iload_n 2, 1) := by decide +kernel
theorem dX1_changeSetting_42 : decode cX1_changeSetting 42 = .ok (.putfield 22, 3) := by decide +kernel
theorem dX1_changeSetting_45 : decode cX1_changeSetting 45 = .ok (.goto 8, 3) := by decide +kernel
theorem dX1_changeSetting_48 : decode cX1_changeSetting 48 = .ok (.aload_n 0, 1) := by decide +kernel
theorem dX1_changeSetting_49 : decode cX1_changeSetting 49 = .ok (.iload_n 2, 1) := by decide +kernel
theorem dX1_changeSetting_50 : decode cX1_changeSetting 50 = .ok (.putfield 25, 3) := by decide +kernel
theorem dX1_changeSetting_53 : decode cX1_changeSetting 53 = .ok (.return_, 1) := by decide +kernel
theorem dX1_cutSprings_0 : decode cX1_cutSprings 0 = .ok (.iconst 0, 1) := by decide +kernel
theorem dX1_cutSprings_1 : decode cX1_cutSprings 1 = .ok (.istore_n 1, 1) := by decide +kernel
theorem dX1_cutSprings_2 : decode cX1_cutSprings 2 = .ok (.iload_n 1, 1) := by decide +kernel
theorem dX1_cutSprings_3 : decode cX1_cutSprings 3 = .ok (.bipush 36, 2) := by decide +kernel
theorem dX1_cutSprings_5 : decode cX1_cutSprings 5 = .ok (.if_icmp .ge 49, 3) := by decide +kernel
theorem dX1_cutSprings_8 : decode cX1_cutSprings 8 = .ok (.aload_n 0, 1) := by decide +kernel
theorem dX1_cutSprings_9 : decode cX1_cutSprings 9 = .ok (.getfield 12, 3) := by decide +kernel
theorem dX1_cutSprings_12 : decode cX1_cutSprings 12 = .ok (.iload_n 1, 1) := by decide +kernel
theorem dX1_cutSprings_13 : decode cX1_cutSprings 13 = .ok (.invokevirtual 77, 3) := by decide +kernel
theorem dX1_cutSprings_16 : decode cX1_cutSprings 16 = .ok (.aload_n 0, 1) := by decide +kernel
theorem dX1_cutSprings_17 : decode cX1_cutSprings 17 = .ok (.getfield 18, 3) := by decide +kernel
theorem dX1_cutSprings_20 : decode cX1_cutSprings 20 = .ok (.isub, 1) := by decide +kernel
theorem dX1_cutSprings_21 : decode cX1_cutSprings 21 = .ok (.istore_n 2, 1) := by decide +kernel
theorem dX1_cutSprings_22 : decode cX1_cutSprings 22 = .ok (.iload_n 2, 1) := by decide +kernel
theorem dX1_cutSprings_23 : decode cX1_cutSprings 23 = .ok (.ifCond .le 25, 3) := by decide +kernel
theorem dX1_cutSprings_26 : decode cX1_cutSprings 26 = .ok (.aload_n 0, 1) := by decide +kernel
theorem dX1_cutSprings_27 : decode cX1_cutSprings 27 = .ok (.getfield 12, 3) := by decide +kernel
theorem dX1_cutSprings_30 : decode cX1_cutSprings 30 = .ok (.iload_n 1, 1) := by decide +kernel
theorem dX1_cutSprings_31 : decode cX1_cutSprings 31 = .ok (.aload_n 0, 1) := by decide +kernel
theorem dX1_cutSprings_32 : decode cX1_cutSprings 32 = .ok (.getfield 18, 3) := by decide +kernel
theorem dX1_cutSprings_35 : decode cX1_cutSprings 35 = .ok (.invokevirtual 81, 3) := by decide +kernel
theorem dX1_cutSprings_38 : decode cX1_cutSprings 38 = .ok (.aload_n 0, 1) := by decide +kernel
theorem dX1_cutSprings_39 : decode cX1_cutSprings 39 = .ok (.dup, 1) := by decide +kernel
theorem dX1_cutSprings_40 : decode cX1_cutSprings 40 = .ok (.getfield 63, 3) := by decide +kernel
theorem dX1_cutSprings_43 : decode cX1_cutSprings 43 = .ok (.iload_n 2, 1) := by decide +kernel
theorem dX1_cutSprings_44 : decode cX1_cutSprings 44 = .ok (.isub, 1) := by decide +kernel
theorem dX1_cutSprings_45 : decode cX1_cutSprings 45 = .ok (.putfield 63, 3) := by decide +kernel
theorem dX1_cutSprings_48 : decode cX1_cutSprings 48 = .ok (.iinc 1 1, 3) := by decide +kernel
theorem dX1_cutSprings_51 : decode cX1_cutSprings 51 = .ok (.goto (-49), 3) := by decide +kernel
theorem dX1_cutSprings_54 : decode cX1_cutSprings 54 = .ok (.return_, 1) := by decide +kernel
theorem dX1_account_0 : decode cX1_account 0 = .ok (.iload_n 1, 1) := by decide +kernel
theorem dX1_account_1 : decode cX1_account 1 = .ok (.tableswitch 72 0 5 #[39, 44, 49, 54, 59, 64], 39) := by decide +kernel
theorem dX1_account_40 : decode cX1_account 40 = .ok (.aload_n 0, 1) := by decide +kernel
theorem dX1_account_41 : decode cX1_account 41 = .ok (.getfield 48, 3) := by decide +kernel
theorem dX1_account_44 : decode cX1_account 44 = .ok (.ireturn, 1) := by decide +kernel
theorem dX1_account_45 : decode cX1_account 45 = .ok (.aload_n 0, 1) := by decide +kernel
theorem dX1_account_46 : decode cX1_account 46 = .ok (.getfield 51, 3) := by decide +kernel
theorem dX1_account_49 : decode cX1_account 49 = .ok (.ireturn, 1) := by decide +kernel
theorem dX1_account_50 : decode cX1_account 50 = .ok (.aload_n 0, 1) := by decide +kernel
theorem dX1_account_51 : decode cX1_account 51 = .ok (.getfield 54, 3) := by decide +kernel
theorem dX1_account_54 : decode cX1_account 54 = .ok (.ireturn, 1) := by decide +kernel
theorem dX1_account_55 : decode cX1_account 55 = .ok (.aload_n 0, 1) := by decide +kernel
theorem dX1_account_56 : decode cX1_account 56 = .ok (.getfield 57, 3) := by decide +kernel
theorem dX1_account_59 : decode cX1_account 59 = .ok (.ireturn, 1) := by decide +kernel
theorem dX1_account_60 : decode cX1_account 60 = .ok (.aload_n 0, 1) := by decide +kernel
theorem dX1_account_61 : decode cX1_account 61 = .ok (.getfield 60, 3) := by decide +kernel
theorem dX1_account_64 : decode cX1_account 64 = .ok (.ireturn, 1) := by decide +kernel
theorem dX1_account_65 : decode cX1_account 65 = .ok (.aload_n 0, 1) := by decide +kernel
theorem dX1_account_66 : decode cX1_account 66 = .ok (.getfield 12, 3) := by decide +kernel
theorem dX1_account_69 : decode cX1_account 69 = .ok (.invokevirtual 70, 3) := by decide +kernel
theorem dX1_account_72 : decode cX1_account 72 = .ok (.ireturn, 1) := by decide +kernel
theorem dX1_account_73 : decode cX1_account 73 = .ok (.aload_n 0, 1) := by decide +kernel
theorem dX1_account_74 : decode cX1_account 74 = .ok (.getfield 63, 3) := by decide +kernel
theorem dX1_account_77 : decode cX1_account 77 = .ok (.ireturn, 1) := by decide +kernel
theorem dX1_putInstead_0 : decode cX1_putInstead 0 = .ok (.aload_n 0, 1) := by decide +kernel
theorem dX1_putInstead_1 : decode cX1_putInstead 1 = .ok (.dup, 1) := by decide +kernel
theorem dX1_putInstead_2 : decode cX1_putInstead 2 = .ok (.getfield 63, 3) := by decide +kernel
theorem dX1_putInstead_5 : decode cX1_putInstead 5 = .ok (.aload_n 0, 1) := by decide +kernel
theorem dX1_putInstead_6 : decode cX1_putInstead 6 = .ok (.getfield 12, 3) := by decide +kernel
theorem dX1_putInstead_9 : decode cX1_putInstead 9 = .ok (.iload_n 1, 1) := by decide +kernel
theorem dX1_putInstead_10 : decode cX1_putInstead 10 = .ok (.invokevirtual 77, 3) := by decide +kernel
theorem dX1_putInstead_13 : decode cX1_putInstead 13 = .ok (.isub, 1) := by decide +kernel
theorem dX1_putInstead_14 : decode cX1_putInstead 14 = .ok (.putfield 63, 3) := by decide +kernel
theorem dX1_putInstead_17 : decode cX1_putInstead 17 = .ok (.iload_n 2, 1) := by decide +kernel
theorem dX1_putInstead_18 : decode cX1_putInstead 18 = .ok (.iconst (-1), 1) := by decide +kernel
theorem dX1_putInstead_19 : decode cX1_putInstead 19 = .ok (.if_icmp .ne 14, 3) := by decide +kernel
theorem dX1_putInstead_22 : decode cX1_putInstead 22 = .ok (.aload_n 0, 1) := by decide +kernel
theorem dX1_putInstead_23 : decode cX1_putInstead 23 = .ok (.getfield 12, 3) := by decide +kernel
theorem dX1_putInstead_26 : decode cX1_putInstead 26 = .ok (.iload_n 1, 1) := by decide +kernel
theorem dX1_putInstead_27 : decode cX1_putInstead 27 = .ok (.invokevirtual 85, 3) := by decide +kernel
theorem dX1_putInstead_30 : decode cX1_putInstead 30 = .ok (.goto 15, 3) := by decide +kernel
theorem dX1_putInstead_33 : decode cX1_putInstead 33 = .ok (.aload_n 0, 1) := by decide +kernel
theorem dX1_putInstead_34 : decode cX1_putInstead 34 = .ok (.getfield 12, 3) := by decide +kernel
theorem dX1_putInstead_37 : decode cX1_putInstead 37 = .ok (.iload_n 1, 1) := by decide +kernel
theorem dX1_putInstead_38 : decode cX1_putInstead 38 = .ok (.iload_n 2, 1) := by decide +kernel
theorem dX1_putInstead_39 : decode cX1_putInstead 39 = .ok (.iload_n 3, 1) := by decide +kernel
theorem dX1_putInstead_40 : decode cX1_putInstead 40 = .ok (.iload 4, 2) := by decide +kernel
theorem dX1_putInstead_42 : decode cX1_putInstead 42 = .ok (.invokevirtual 88, 3) := by decide +kernel
theorem dX1_putInstead_45 : decode cX1_putInstead 45 = .ok (.aload_n 0, 1) := by decide +kernel
theorem dX1_putInstead_46 : decode cX1_putInstead 46 = .ok (.dup, 1) := by decide +kernel
theorem dX1_putInstead_47 : decode cX1_putInstead 47 = .ok (.getfield 63, 3) := by decide +kernel
theorem dX1_putInstead_50 : decode cX1_putInstead 50 = .ok (.aload_n 0, 1) := by decide +kernel
theorem dX1_putInstead_51 : decode cX1_putInstead 51 = .ok (.getfield 12, 3) := by decide +kernel
theorem dX1_putInstead_54 : decode cX1_putInstead 54 = .ok (.iload_n 1, 1) := by decide +kernel
theorem dX1_putInstead_55 : decode cX1_putInstead 55 = .ok (.invokevirtual 77, 3) := by decide +kernel
theorem dX1_putInstead_58 : decode cX1_putInstead 58 = .ok (.iadd, 1) := by decide +kernel
theorem dX1_putInstead_59 : decode cX1_putInstead 59 = .ok (.putfield 63, 3) := by decide +kernel
theorem dX1_putInstead_62 : decode cX1_putInstead 62 = .ok (.return_, 1) := by decide +kernel
theorem dX1_reasonAgainst_0 : decode cX1_reasonAgainst 0 = .ok (.aload_n 0, 1) := by decide +kernel
theorem dX1_reasonAgainst_1 : decode cX1_reasonAgainst 1 = .ok (.invokevirtual 92, 3) := by decide +kernel
theorem dX1_reasonAgainst_4 : decode cX1_reasonAgainst 4 = .ok (.ifCond .eq 5, 3) := by decide +kernel
theorem dX1_reasonAgainst_7 : decode cX1_reasonAgainst 7 = .ok (.iconst 2, 1) := by decide +kernel
theorem dX1_reasonAgainst_8 : decode cX1_reasonAgainst 8 = .ok (.ireturn, 1) := by decide +kernel
theorem dX1_reasonAgainst_9 : decode cX1_reasonAgainst 9 = .ok (.aload_n 0, 1) := by decide +kernel
theorem dX1_reasonAgainst_10 : decode cX1_reasonAgainst 10 = .ok (.getfield 12, 3) := by decide +kernel
theorem dX1_reasonAgainst_13 : decode cX1_reasonAgainst 13 = .ok (.iload_n 1, 1) := by decide +kernel
theorem dX1_reasonAgainst_14 : decode cX1_reasonAgainst 14 = .ok (.invokevirtual 96, 3) := by decide +kernel
theorem dX1_reasonAgainst_17 : decode cX1_reasonAgainst 17 = .ok (.ifCond .ne 5, 3) := by decide +kernel
theorem dX1_reasonAgainst_20 : decode cX1_reasonAgainst 20 = .ok (.iconst 3, 1) := by decide +kernel
theorem dX1_reasonAgainst_21 : decode cX1_reasonAgainst 21 = .ok (.ireturn, 1) := by decide +kernel
theorem dX1_reasonAgainst_22 : decode cX1_reasonAgainst 22 = .ok (.aload_n 0, 1) := by decide +kernel
theorem dX1_reasonAgainst_23 : decode cX1_reasonAgainst 23 = .ok (.getfield 12, 3) := by decide +kernel
theorem dX1_reasonAgainst_26 : decode cX1_reasonAgainst 26 = .ok (.iload_n 1, 1) := by decide +kernel
theorem dX1_reasonAgainst_27 : decode cX1_reasonAgainst 27 = .ok (.invokevirtual 100, 3) := by decide +kernel
theorem dX1_reasonAgainst_30 : decode cX1_reasonAgainst 30 = .ok (.aload_n 0, 1) := by decide +kernel
theorem dX1_reasonAgainst_31 : decode cX1_reasonAgainst 31 = .ok (.getfield 35, 3) := by decide +kernel
theorem dX1_reasonAgainst_34 : decode cX1_reasonAgainst 34 = .ok (.if_icmp .eq 5, 3) := by decide +kernel
theorem dX1_reasonAgainst_37 : decode cX1_reasonAgainst 37 = .ok (.iconst 4, 1) := by decide +kernel
theorem dX1_reasonAgainst_38 : decode cX1_reasonAgainst 38 = .ok (.ireturn, 1) := by decide +kernel
theorem dX1_reasonAgainst_39 : decode cX1_reasonAgainst 39 = .ok (.aload_n 0, 1) := by decide +kernel
theorem dX1_reasonAgainst_40 : decode cX1_reasonAgainst 40 = .ok (.getfield 12, 3) := by decide +kernel
theorem dX1_reasonAgainst_43 : decode cX1_reasonAgainst 43 = .ok (.iload_n 2, 1) := by decide +kernel
theorem dX1_reasonAgainst_44 : decode cX1_reasonAgainst 44 = .ok (.invokevirtual 100, 3) := by decide +kernel
theorem dX1_reasonAgainst_47 : decode cX1_reasonAgainst 47 = .ok (.aload_n 0, 1) := by decide +kernel
theorem dX1_reasonAgainst_48 : decode cX1_reasonAgainst 48 = .ok (.getfield 35, 3) := by decide +kernel
theorem dX1_reasonAgainst_51 : decode cX1_reasonAgainst 51 = .ok (.if_icmp .ne 5, 3) := by decide +kernel
theorem dX1_reasonAgainst_54 : decode cX1_reasonAgainst 54 = .ok (.iconst 5, 1) := by decide +kernel
theorem dX1_reasonAgainst_55 : decode cX1_reasonAgainst 55 = .ok (.ireturn, 1) := by decide +kernel
theorem dX1_reasonAgainst_56 : decode cX1_reasonAgainst 56 = .ok (.aload_n 0, 1) := by decide +kernel
theorem dX1_reasonAgainst_57 : decode cX1_reasonAgainst 57 = .ok (.getfield 12, 3) := by decide +kernel
theorem dX1_reasonAgainst_60 : decode cX1_reasonAgainst 60 = .ok (.iload_n 1, 1) := by decide +kernel
theorem dX1_reasonAgainst_61 : decode cX1_reasonAgainst 61 = .ok (.iload_n 2, 1) := by decide +kernel
theorem dX1_reasonAgainst_62 : decode cX1_reasonAgainst 62 = .ok (.invokevirtual 103, 3) := by decide +kernel
theorem dX1_reasonAgainst_65 : decode cX1_reasonAgainst 65 = .ok (.istore_n 3, 1) := by decide +kernel
theorem dX1_reasonAgainst_66 : decode cX1_reasonAgainst 66 = .ok (.iload_n 3, 1) := by decide +kernel
theorem dX1_reasonAgainst_67 : decode cX1_reasonAgainst 67 = .ok (.ifCond .ne 6, 3) := by decide +kernel
theorem dX1_reasonAgainst_70 : decode cX1_reasonAgainst 70 = .ok (.bipush 6, 2) := by decide +kernel
theorem dX1_reasonAgainst_72 : decode cX1_reasonAgainst 72 = .ok (.ireturn, 1) := by decide +kernel
theorem dX1_reasonAgainst_73 : decode cX1_reasonAgainst 73 = .ok (.aload_n 0, 1) := by decide +kernel
theorem dX1_reasonAgainst_74 : decode cX1_reasonAgainst 74 = .ok (.getfield 12, 3) := by decide +kernel
theorem dX1_reasonAgainst_77 : decode cX1_reasonAgainst 77 = .ok (.iload_n 1, 1) := by decide +kernel
theorem dX1_reasonAgainst_78 : decode cX1_reasonAgainst 78 = .ok (.invokevirtual 77, 3) := by decide +kernel
theorem dX1_reasonAgainst_81 : decode cX1_reasonAgainst 81 = .ok (.iload_n 3, 1) := by decide +kernel
theorem dX1_reasonAgainst_82 : decode cX1_reasonAgainst 82 = .ok (.if_icmp .ge 8, 3) := by decide +kernel
theorem dX1_reasonAgainst_85 : decode cX1_reasonAgainst 85 = .ok (.bipush 7, 2) := by decide +kernel
theorem dX1_reasonAgainst_87 : decode cX1_reasonAgainst 87 = .ok (.goto 4, 3) := by decide +kernel
theorem dX1_reasonAgainst_90 : decode cX1_reasonAgainst 90 = .ok (.iconst 0, 1) := by decide +kernel
theorem dX1_reasonAgainst_91 : decode cX1_reasonAgainst 91 = .ok (.ireturn, 1) := by decide +kernel
theorem dX1_reasonAgainstPass_0 : decode cX1_reasonAgainstPass 0 = .ok (.aload_n 0, 1) := by decide +kernel
theorem dX1_reasonAgainstPass_1 : decode cX1_reasonAgainstPass 1 = .ok (.invokevirtual 92, 3) := by decide +kernel
theorem dX1_reasonAgainstPass_4 : decode cX1_reasonAgainstPass 4 = .ok (.ifCond .eq 5, 3) := by decide +kernel
theorem dX1_reasonAgainstPass_7 : decode cX1_reasonAgainstPass 7 = .ok (.iconst 2, 1) := by decide +kernel
theorem dX1_reasonAgainstPass_8 : decode cX1_reasonAgainstPass 8 = .ok (.ireturn, 1) := by decide +kernel
theorem dX1_reasonAgainstPass_9 : decode cX1_reasonAgainstPass 9 = .ok (.aload_n 0, 1) := by decide +kernel
theorem dX1_reasonAgainstPass_10 : decode cX1_reasonAgainstPass 10 = .ok (.getfield 12, 3) := by decide +kernel
theorem dX1_reasonAgainstPass_13 : decode cX1_reasonAgainstPass 13 = .ok (.aload_n 0, 1) := by decide +kernel
theorem dX1_reasonAgainstPass_14 : decode cX1_reasonAgainstPass 14 = .ok (.getfield 35, 3) := by decide +kernel
theorem dX1_reasonAgainstPass_17 : decode cX1_reasonAgainstPass 17 = .ok (.invokevirtual 107, 3) := by decide +kernel
theorem dX1_reasonAgainstPass_20 : decode cX1_reasonAgainstPass 20 = .ok (.ifCond .le 8, 3) := by decide +kernel
theorem dX1_reasonAgainstPass_23 : decode cX1_reasonAgainstPass 23 = .ok (.bipush 8, 2) := by decide +kernel
theorem dX1_reasonAgainstPass_25 : decode cX1_reasonAgainstPass 25 = .ok (.goto 4, 3) := by decide +kernel
theorem dX1_reasonAgainstPass_28 : decode cX1_reasonAgainstPass 28 = .ok (.iconst 0, 1) := by decide +kernel
theorem dX1_reasonAgainstPass_29 : decode cX1_reasonAgainstPass 29 = .ok (.ireturn, 1) := by decide +kernel
theorem dX1_makeMove_0 : decode cX1_makeMove 0 = .ok (.aload_n 0, 1) := by decide +kernel
theorem dX1_makeMove_1 : decode cX1_makeMove 1 = .ok (.iload_n 1, 1) := by decide +kernel
theorem dX1_makeMove_2 : decode cX1_makeMove 2 = .ok (.iload_n 2, 1) := by decide +kernel
theorem dX1_makeMove_3 : decode cX1_makeMove 3 = .ok (.invokevirtual 110, 3) := by decide +kernel
theorem dX1_makeMove_6 : decode cX1_makeMove 6 = .ok (.istore_n 3, 1) := by decide +kernel
theorem dX1_makeMove_7 : decode cX1_makeMove 7 = .ok (.aload_n 0, 1) := by decide +kernel
theorem dX1_makeMove_8 : decode cX1_makeMove 8 = .ok (.invokevirtual 92, 3) := by decide +kernel
theorem dX1_makeMove_11 : decode cX1_makeMove 11 = .ok (.ifCond .ne 13, 3) := by decide +kernel
theorem dX1_makeMove_14 : decode cX1_makeMove 14 = .ok (.aload_n 0, 1) := by decide +kernel
theorem dX1_makeMove_15 : decode cX1_makeMove 15 = .ok (.iconst 1, 1) := by decide +kernel
theorem dX1_makeMove_16 : decode cX1_makeMove 16 = .ok (.aload_n 0, 1) := by decide +kernel
theorem dX1_makeMove_17 : decode cX1_makeMove 17 = .ok (.getfield 35, 3) := by decide +kernel
theorem dX1_makeMove_20 : decode cX1_makeMove 20 = .ok (.isub, 1) := by decide +kernel
theorem dX1_makeMove_21 : decode cX1_makeMove 21 = .ok (.invokevirtual 113, 3) := by decide +kernel
theorem dX1_makeMove_24 : decode cX1_makeMove 24 = .ok (.iload_n 3, 1) := by decide +kernel
theorem dX1_makeMove_25 : decode cX1_makeMove 25 = .ok (.ireturn, 1) := by decide +kernel
theorem dX1_carryOut_0 : decode cX1_carryOut 0 = .ok (.aload_n 0, 1) := by decide +kernel
theorem dX1_carryOut_1 : decode cX1_carryOut 1 = .ok (.getfield 12, 3) := by decide +kernel
theorem dX1_carryOut_4 : decode cX1_carryOut 4 = .ok (.iload_n 1, 1) := by decide +kernel
theorem dX1_carryOut_5 : decode cX1_carryOut 5 = .ok (.iload_n 2, 1) := by decide +kernel
theorem dX1_carryOut_6 : decode cX1_carryOut 6 = .ok (.invokevirtual 103, 3) := by decide +kernel
theorem dX1_carryOut_9 : decode cX1_carryOut 9 = .ok (.istore_n 3, 1) := by decide +kernel
theorem dX1_carryOut_10 : decode cX1_carryOut 10 = .ok (.aload_n 0, 1) := by decide +kernel
theorem dX1_carryOut_11 : decode cX1_carryOut 11 = .ok (.getfield 12, 3) := by decide +kernel
theorem dX1_carryOut_14 : decode cX1_carryOut 14 = .ok (.iload_n 1, 1) := by decide +kernel
theorem dX1_carryOut_15 : decode cX1_carryOut 15 = .ok (.invokevirtual 116, 3) := by decide +kernel
theorem dX1_carryOut_18 : decode cX1_carryOut 18 = .ok (.istore 4, 2) := by decide +kernel
theorem dX1_carryOut_20 : decode cX1_carryOut 20 = .ok (.aload_n 0, 1) := by decide +kernel
theorem dX1_carryOut_21 : decode cX1_carryOut 21 = .ok (.getfield 12, 3) := by decide +kernel
theorem dX1_carryOut_24 : decode cX1_carryOut 24 = .ok (.iload_n 1, 1) := by decide +kernel
theorem dX1_carryOut_25 : decode cX1_carryOut 25 = .ok (.invokevirtual 77, 3) := by decide +kernel
theorem dX1_carryOut_28 : decode cX1_carryOut 28 = .ok (.iload_n 3, 1) := by decide +kernel
theorem dX1_carryOut_29 : decode cX1_carryOut 29 = .ok (.isub, 1) := by decide +kernel
theorem dX1_carryOut_30 : decode cX1_carryOut 30 = .ok (.istore 5, 2) := by decide +kernel
theorem dX1_carryOut_32 : decode cX1_carryOut 32 = .ok (.aload_n 0, 1) := by decide +kernel
theorem dX1_carryOut_33 : decode cX1_carryOut 33 = .ok (.getfield 12, 3) := by decide +kernel
theorem dX1_carryOut_36 : decode cX1_carryOut 36 = .ok (.iload_n 2, 1) := by decide +kernel
theorem dX1_carryOut_37 : decode cX1_carryOut 37 = .ok (.invokevirtual 96, 3) := by decide +kernel
theorem dX1_carryOut_40 : decode cX1_carryOut 40 = .ok (.ifCond .eq 43, 3) := by decide +kernel
theorem dX1_carryOut_43 : decode cX1_carryOut 43 = .ok (.aload_n 0, 1) := by decide +kernel
theorem dX1_carryOut_44 : decode cX1_carryOut 44 = .ok (.iload 5, 2) := by decide +kernel
theorem dX1_carryOut_46 : decode cX1_carryOut 46 = .ok (.aload_n 0, 1) := by decide +kernel
theorem dX1_carryOut_47 : decode cX1_carryOut 47 = .ok (.getfield 12, 3) := by decide +kernel
theorem dX1_carryOut_50 : decode cX1_carryOut 50 = .ok (.iload_n 2, 1) := by decide +kernel
theorem dX1_carryOut_51 : decode cX1_carryOut 51 = .ok (.invokevirtual 77, 3) := by decide +kernel
theorem dX1_carryOut_54 : decode cX1_carryOut 54 = .ok (.invokevirtual 119, 3) := by decide +kernel
theorem dX1_carryOut_57 : decode cX1_carryOut 57 = .ok (.istore 5, 2) := by decide +kernel
theorem dX1_carryOut_59 : decode cX1_carryOut 59 = .ok (.aload_n 0, 1) := by decide +kernel
theorem dX1_carryOut_60 : decode cX1_carryOut 60 = .ok (.getfield 12, 3) := by decide +kernel
theorem dX1_carryOut_63 : decode cX1_carryOut 63 = .ok (.iload_n 2, 1) := by decide +kernel
theorem dX1_carryOut_64 : decode cX1_carryOut 64 = .ok (.invokevirtual 116, 3) := by decide +kernel
theorem dX1_carryOut_67 : decode cX1_carryOut 67 = .ok (.ifCond .ne 16, 3) := by decide +kernel
theorem dX1_carryOut_70 : decode cX1_carryOut 70 = .ok (.aload_n 0, 1) := by decide +kernel
theorem dX1_carryOut_71 : decode cX1_carryOut 71 = .ok (.iconst 1, 1) := by decide +kernel
theorem dX1_carryOut_72 : decode cX1_carryOut 72 = .ok (.putfield 38, 3) := by decide +kernel
theorem dX1_carryOut_75 : decode cX1_carryOut 75 = .ok (.aload_n 0, 1) := by decide +kernel
theorem dX1_carryOut_76 : decode cX1_carryOut 76 = .ok (.aload_n 0, 1) := by decide +kernel
theorem dX1_carryOut_77 : decode cX1_carryOut 77 = .ok (.getfield 35, 3) := by decide +kernel
theorem dX1_carryOut_80 : decode cX1_carryOut 80 = .ok (.putfield 28, 3) := by decide +kernel
theorem dX1_carryOut_83 : decode cX1_carryOut 83 = .ok (.aload_n 0, 1) := by decide +kernel
theorem dX1_carryOut_84 : decode cX1_carryOut 84 = .ok (.getfield 35, 3) := by decide +kernel
theorem dX1_carryOut_87 : decode cX1_carryOut 87 = .ok (.ifCond .ne 7, 3) := by decide +kernel
theorem dX1_carryOut_90 : decode cX1_carryOut 90 = .ok (.iconst 5, 1) := by decide +kernel
theorem dX1_carryOut_91 : decode cX1_carryOut 91 = .ok (.goto 4, 3) := by decide +kernel
theorem dX1_carryOut_94 : decode cX1_carryOut 94 = .ok (.iconst 0, 1) := by decide +kernel
theorem dX1_carryOut_95 : decode cX1_carryOut 95 = .ok (.istore 6, 2) := by decide +kernel
theorem dX1_carryOut_97 : decode cX1_carryOut 97 = .ok (.iload 4, 2) := by decide +kernel
theorem dX1_carryOut_99 : decode cX1_carryOut 99 = .ok (.iconst 4, 1) := by decide +kernel
theorem dX1_carryOut_100 : decode cX1_carryOut 100 = .ok (.if_icmp .ne 16, 3) := by decide +kernel
theorem dX1_carryOut_103 : decode cX1_carryOut 103 = .ok (.iload_n 2, 1) := by decide +kernel
theorem dX1_carryOut_104 : decode cX1_carryOut 104 = .ok (.bipush 6, 2) := by decide +kernel
theorem dX1_carryOut_106 : decode cX1_carryOut 106 = .ok (.idiv, 1) := by decide +kernel
theorem dX1_carryOut_107 : decode cX1_carryOut 107 = .ok (.iload 6, 2) := by decide +kernel
theorem dX1_carryOut_109 : decode cX1_carryOut 109 = .ok (.if_icmp .ne 7, 3) := by decide +kernel
theorem dX1_carryOut_112 : decode cX1_carryOut 112 = .ok (.iconst 1, 1) := by decide +kernel
theorem dX1_carryOut_113 : decode cX1_carryOut 113 = .ok (.goto 4, 3) := by decide +kernel
theorem dX1_carryOut_116 : decode cX1_carryOut 116 = .ok (.iconst 0, 1) := by decide +kernel
theorem dX1_carryOut_117 : decode cX1_carryOut 117 = .ok (.istore 7, 2) := by decide +kernel
theorem dX1_carryOut_119 : decode cX1_carryOut 119 = .ok (.aload_n 0, 1) := by decide +kernel
theorem dX1_carryOut_120 : decode cX1_carryOut 120 = .ok (.getfield 12, 3) := by decide +kernel
theorem dX1_carryOut_123 : decode cX1_carryOut 123 = .ok (.iload_n 2, 1) := by decide +kernel
theorem dX1_carryOut_124 : decode cX1_carryOut 124 = .ok (.aload_n 0, 1) := by decide +kernel
theorem dX1_carryOut_125 : decode cX1_carryOut 125 = .ok (.getfield 35, 3) := by decide +kernel
theorem dX1_carryOut_128 : decode cX1_carryOut 128 = .ok (.iload 7, 2) := by decide +kernel
theorem dX1_carryOut_130 : decode cX1_carryOut 130 = .ok (.ifCond .eq 7, 3) := by decide +kernel
theorem dX1_carryOut_133 : decode cX1_carryOut 133 = .ok (.iconst 1, 1) := by decide +kernel
theorem dX1_carryOut_134 : decode cX1_carryOut 134 = .ok (.goto 5, 3) := by decide +kernel
theorem dX1_carryOut_137 : decode cX1_carryOut 137 = .ok (.iload 4, 2) := by decide +kernel
theorem dX1_carryOut_139 : decode cX1_carryOut 139 = .ok (.iload 5, 2) := by decide +kernel
theorem dX1_carryOut_141 : decode cX1_carryOut 141 = .ok (.invokevirtual 88, 3) := by decide +kernel
theorem dX1_carryOut_144 : decode cX1_carryOut 144 = .ok (.aload_n 0, 1) := by decide +kernel
theorem dX1_carryOut_145 : decode cX1_carryOut 145 = .ok (.getfield 12, 3) := by decide +kernel
theorem dX1_carryOut_148 : decode cX1_carryOut 148 = .ok (.iload_n 1, 1) := by decide +kernel
theorem dX1_carryOut_149 : decode cX1_carryOut 149 = .ok (.invokevirtual 85, 3) := by decide +kernel
theorem dX1_carryOut_152 : decode cX1_carryOut 152 = .ok (.aload_n 0, 1) := by decide +kernel
theorem dX1_carryOut_153 : decode cX1_carryOut 153 = .ok (.dup, 1) := by decide +kernel
theorem dX1_carryOut_154 : decode cX1_carryOut 154 = .ok (.getfield 57, 3) := by decide +kernel
theorem dX1_carryOut_157 : decode cX1_carryOut 157 = .ok (.iload_n 3, 1) := by decide +kernel
theorem dX1_carryOut_158 : decode cX1_carryOut 158 = .ok (.iadd, 1) := by decide +kernel
theorem dX1_carryOut_159 : decode cX1_carryOut 159 = .ok (.putfield 57, 3) := by decide +kernel
theorem dX1_carryOut_162 : decode cX1_carryOut 162 = .ok (.aload_n 0, 1) := by decide +kernel
theorem dX1_carryOut_163 : decode cX1_carryOut 163 = .ok (.dup, 1) := by decide +kernel
theorem dX1_carryOut_164 : decode cX1_carryOut 164 = .ok (.getfield 41, 3) := by decide +kernel
theorem dX1_carryOut_167 : decode cX1_carryOut 167 = .ok (.iconst 1, 1) := by decide +kernel
theorem dX1_carryOut_168 : decode cX1_carryOut 168 = .ok (.iadd, 1) := by decide +kernel
theorem dX1_carryOut_169 : decode cX1_carryOut 169 = .ok (.putfield 41, 3) := by decide +kernel
theorem dX1_carryOut_172 : decode cX1_carryOut 172 = .ok (.aload_n 0, 1) := by decide +kernel
theorem dX1_carryOut_173 : decode cX1_carryOut 173 = .ok (.iconst 0, 1) := by decide +kernel
theorem dX1_carryOut_174 : decode cX1_carryOut 174 = .ok (.putfield 44, 3) := by decide +kernel
theorem dX1_carryOut_177 : decode cX1_carryOut 177 = .ok (.iload_n 3, 1) := by decide +kernel
theorem dX1_carryOut_178 : decode cX1_carryOut 178 = .ok (.ireturn, 1) := by decide +kernel
theorem dX1_springBehindTaking_0 : decode cX1_springBehindTaking 0 = .ok (.iload_n 2, 1) := by decide +kernel
theorem dX1_springBehindTaking_1 : decode cX1_springBehindTaking 1 = .ok (.iconst 2, 1) := by decide +kernel
theorem dX1_springBehindTaking_2 : decode cX1_springBehindTaking 2 = .ok (.idiv, 1) := by decide +kernel
theorem dX1_springBehindTaking_3 : decode cX1_springBehindTaking 3 = .ok (.istore_n 3, 1) := by decide +kernel
theorem dX1_springBehindTaking_4 : decode cX1_springBehindTaking 4 = .ok (.iload_n 1, 1) := by decide +kernel
theorem dX1_springBehindTaking_5 : decode cX1_springBehindTaking 5 = .ok (.iload_n 3, 1) := by decide +kernel
theorem dX1_springBehindTaking_6 : decode cX1_springBehindTaking 6 = .ok (.iadd, 1) := by decide +kernel
theorem dX1_springBehindTaking_7 : decode cX1_springBehindTaking 7 = .ok (.aload_n 0, 1) := by decide +kernel
theorem dX1_springBehindTaking_8 : decode cX1_springBehindTaking 8 = .ok (.getfield 22, 3) := by decide +kernel
theorem dX1_springBehindTaking_11 : decode cX1_springBehindTaking 11 = .ok (.iadd, 1) := by decide +kernel
theorem dX1_springBehindTaking_12 : decode cX1_springBehindTaking 12 = .ok (.istore 4, 2) := by decide +kernel
theorem dX1_springBehindTaking_14 : decode cX1_springBehindTaking 14 = .ok (.iload 4, 2) := by decide +kernel
theorem dX1_springBehindTaking_16 : decode cX1_springBehindTaking 16 = .ok (.aload_n 0, 1) := by decide +kernel
theorem dX1_springBehindTaking_17 : decode cX1_springBehindTaking 17 = .ok (.getfield 18, 3) := by decide +kernel
theorem dX1_springBehindTaking_20 : decode cX1_springBehindTaking 20 = .ok (.invokestatic 122, 3) := by decide +kernel
theorem dX1_springBehindTaking_23 : decode cX1_springBehindTaking 23 = .ok (.istore 5, 2) := by decide +kernel
theorem dX1_springBehindTaking_25 : decode cX1_springBehindTaking 25 = .ok (.aload_n 0, 1) := by decide +kernel
theorem dX1_springBehindTaking_26 : decode cX1_springBehindTaking 26 = .ok (.dup, 1) := by decide +kernel
theorem dX1_springBehindTaking_27 : decode cX1_springBehindTaking 27 = .ok (.getfield 54, 3) := by decide +kernel
theorem dX1_springBehindTaking_30 : decode cX1_springBehindTaking 30 = .ok (.aload_n 0, 1) := by decide +kernel
theorem dX1_springBehindTaking_31 : decode cX1_springBehindTaking 31 = .ok (.getfield 22, 3) := by decide +kernel
theorem dX1_springBehindTaking_34 : decode cX1_springBehindTaking 34 = .ok (.iadd, 1) := by decide +kernel
theorem dX1_springBehindTaking_35 : decode cX1_springBehindTaking 35 = .ok (.putfield 54, 3) := by decide +kernel
theorem dX1_springBehindTaking_38 : decode cX1_springBehindTaking 38 = .ok (.aload_n 0, 1) := by decide +kernel
theorem dX1_springBehindTaking_39 : decode cX1_springBehindTaking 39 = .ok (.dup, 1) := by decide +kernel
theorem dX1_springBehindTaking_40 : decode cX1_springBehindTaking 40 = .ok (.getfield 60, 3) := by decide +kernel
theorem dX1_springBehindTaking_43 : decode cX1_springBehindTaking 43 = .ok (.iload_n 2, 1) := by decide +kernel
theorem dX1_springBehindTaking_44 : decode cX1_springBehindTaking 44 = .ok (.iload_n 3, 1) := by decide +kernel
theorem dX1_springBehindTaking_45 : decode cX1_springBehindTaking 45 = .ok (.isub, 1) := by decide +kernel
theorem dX1_springBehindTaking_46 : decode cX1_springBehindTaking 46 = .ok (.iload 4, 2) := by decide +kernel
theorem dX1_springBehindTaking_48 : decode cX1_springBehindTaking 48 = .ok (.iadd, 1) := by decide +kernel
theorem dX1_springBehindTaking_49 : decode cX1_springBehindTaking 49 = .ok (.iload 5, 2) := by decide +kernel
theorem dX1_springBehindTaking_51 : decode cX1_springBehindTaking 51 = .ok (.isub, 1) := by decide +kernel
theorem dX1_springBehindTaking_52 : decode cX1_springBehindTaking 52 = .ok (.iadd, 1) := by decide +kernel
theorem dX1_springBehindTaking_53 : decode cX1_springBehindTaking 53 = .ok (.putfield 60, 3) := by decide +kernel
theorem dX1_springBehindTaking_56 : decode cX1_springBehindTaking 56 = .ok (.iload 5, 2) := by decide +kernel
theorem dX1_springBehindTaking_58 : decode cX1_springBehindTaking 58 = .ok (.ireturn, 1) := by decide +kernel
theorem dX1_makePass_0 : decode cX1_makePass 0 = .ok (.aload_n 0, 1) := by decide +kernel
theorem dX1_makePass_1 : decode cX1_makePass 1 = .ok (.dup, 1) := by decide +kernel
theorem dX1_makePass_2 : decode cX1_makePass 2 = .ok (.getfield 41, 3) := by decide +kernel
theorem dX1_makePass_5 : decode cX1_makePass 5 = .ok (.iconst 1, 1) := by decide +kernel
theorem dX1_makePass_6 : decode cX1_makePass 6 = .ok (.iadd, 1) := by decide +kernel
theorem dX1_makePass_7 : decode cX1_makePass 7 = .ok (.putfield 41, 3) := by decide +kernel
theorem dX1_makePass_10 : decode cX1_makePass 10 = .ok (.aload_n 0, 1) := by decide +kernel
theorem dX1_makePass_11 : decode cX1_makePass 11 = .ok (.getfield 44, 3) := by decide +kernel
theorem dX1_makePass_14 : decode cX1_makePass 14 = .ok (.ifCond .eq 46, 3) := by decide +kernel
theorem dX1_makePass_17 : decode cX1_makePass 17 = .ok (.aload_n 0, 1) := by decide +kernel
theorem dX1_makePass_18 : decode cX1_makePass 18 = .ok (.iconst 2, 1) := by decide +kernel
theorem dX1_makePass_19 : decode cX1_makePass 19 = .ok (.putfield 38, 3) := by decide +kernel
theorem dX1_makePass_22 : decode cX1_makePass 22 = .ok (.aload_n 0, 1) := by decide +kernel
theorem dX1_makePass_23 : decode cX1_makePass 23 = .ok (.getfield 12, 3) := by decide +kernel
theorem dX1_makePass_26 : decode cX1_makePass 26 = .ok (.iconst 0, 1) := by decide +kernel
theorem dX1_makePass_27 : decode cX1_makePass 27 = .ok (.invokevirtual 127, 3) := by decide +kernel
theorem dX1_makePass_30 : decode cX1_makePass 30 = .ok (.aload_n 0, 1) := by decide +kernel
theorem dX1_makePass_31 : decode cX1_makePass 31 = .ok (.getfield 12, 3) := by decide +kernel
theorem dX1_makePass_34 : decode cX1_makePass 34 = .ok (.iconst 1, 1) := by decide +kernel
theorem dX1_makePass_35 : decode cX1_makePass 35 = .ok (.invokevirtual 127, 3) := by decide +kernel
theorem dX1_makePass_38 : decode cX1_makePass 38 = .ok (.isub, 1) := by decide +kernel
theorem dX1_makePass_39 : decode cX1_makePass 39 = .ok (.istore_n 1, 1) := by decide +kernel
theorem dX1_makePass_40 : decode cX1_makePass 40 = .ok (.iload_n 1, 1) := by decide +kernel
theorem dX1_makePass_41 : decode cX1_makePass 41 = .ok (.ifCond .eq 16, 3) := by decide +kernel
theorem dX1_makePass_44 : decode cX1_makePass 44 = .ok (.aload_n 0, 1) := by decide +kernel
theorem dX1_makePass_45 : decode cX1_makePass 45 = .ok (.iload_n 1, 1) := by decide +kernel
theorem dX1_makePass_46 : decode cX1_makePass 46 = .ok (.ifCond .le 7, 3) := by decide +kernel
theorem dX1_makePass_49 : decode cX1_makePass 49 = .ok (.iconst 0, 1) := by decide +kernel
theorem dX1_makePass_50 : decode cX1_makePass 50 = .ok (.goto 4, 3) := by decide +kernel
theorem dX1_makePass_53 : decode cX1_makePass 53 = .ok (.iconst 1, 1) := by decide +kernel
theorem dX1_makePass_54 : decode cX1_makePass 54 = .ok (.putfield 28, 3) := by decide +kernel
theorem dX1_makePass_57 : decode cX1_makePass 57 = .ok (.goto 18, 3) := by decide +kernel
theorem dX1_makePass_60 : decode cX1_makePass 60 = .ok (.aload_n 0, 1) := by decide +kernel
theorem dX1_makePass_61 : decode cX1_makePass 61 = .ok (.iconst 1, 1) := by decide +kernel
theorem dX1_makePass_62 : decode cX1_makePass 62 = .ok (.putfield 44, 3) := by decide +kernel
theorem dX1_makePass_65 : decode cX1_makePass 65 = .ok (.aload_n 0, 1) := by decide +kernel
theorem dX1_makePass_66 : decode cX1_makePass 66 = .ok (.iconst 1, 1) := by decide +kernel
theorem dX1_makePass_67 : decode cX1_makePass 67 = .ok (.aload_n 0, 1) := by decide +kernel
theorem dX1_makePass_68 : decode cX1_makePass 68 = .ok (.getfield 35, 3) := by decide +kernel
theorem dX1_makePass_71 : decode cX1_makePass 71 = .ok (.isub, 1) := by decide +kernel
theorem dX1_makePass_72 : decode cX1_makePass 72 = .ok (.invokevirtual 113, 3) := by decide +kernel
theorem dX1_makePass_75 : decode cX1_makePass 75 = .ok (.return_, 1) := by decide +kernel
theorem dX1_beginTurn_0 : decode cX1_beginTurn 0 = .ok (.aload_n 0, 1) := by decide +kernel
theorem dX1_beginTurn_1 : decode cX1_beginTurn 1 = .ok (.iload_n 1, 1) := by decide +kernel
theorem dX1_beginTurn_2 : decode cX1_beginTurn 2 = .ok (.putfield 35, 3) := by decide +kernel
theorem dX1_beginTurn_5 : decode cX1_beginTurn 5 = .ok (.iconst 0, 1) := by decide +kernel
theorem dX1_beginTurn_6 : decode cX1_beginTurn 6 = .ok (.istore_n 2, 1) := by decide +kernel
theorem dX1_beginTurn_7 : decode cX1_beginTurn 7 = .ok (.iload_n 2, 1) := by decide +kernel
theorem dX1_beginTurn_8 : decode cX1_beginTurn 8 = .ok (.bipush 36, 2) := by decide +kernel
theorem dX1_beginTurn_10 : decode cX1_beginTurn 10 = .ok (.if_icmp .ge 81, 3) := by decide +kernel
theorem dX1_beginTurn_13 : decode cX1_beginTurn 13 = .ok (.aload_n 0, 1) := by decide +kernel
theorem dX1_beginTurn_14 : decode cX1_beginTurn 14 = .ok (.getfield 12, 3) := by decide +kernel
theorem dX1_beginTurn_17 : decode cX1_beginTurn 17 = .ok (.iload_n 2, 1) := by decide +kernel
theorem dX1_beginTurn_18 : decode cX1_beginTurn 18 = .ok (.invokevirtual 100, 3) := by decide +kernel
theorem dX1_beginTurn_21 : decode cX1_beginTurn 21 = .ok (.iload_n 1, 1) := by decide +kernel
theorem dX1_beginTurn_22 : decode cX1_beginTurn 22 = .ok (.if_icmp .ne 63, 3) := by decide +kernel
theorem dX1_beginTurn_25 : decode cX1_beginTurn 25 = .ok (.aload_n 0, 1) := by decide +kernel
theorem dX1_beginTurn_26 : decode cX1_beginTurn 26 = .ok (.getfield 12, 3) := by decide +kernel
theorem dX1_beginTurn_29 : decode cX1_beginTurn 29 = .ok (.iload_n 2, 1) := by decide +kernel
theorem dX1_beginTurn_30 : decode cX1_beginTurn 30 = .ok (.invokevirtual 130, 3) := by decide +kernel
theorem dX1_beginTurn_33 : decode cX1_beginTurn 33 = .ok (.ifCond .eq 52, 3) := by decide +kernel
theorem dX1_beginTurn_36 : decode cX1_beginTurn 36 = .ok (.aload_n 0, 1) := by decide +kernel
theorem dX1_beginTurn_37 : decode cX1_beginTurn 37 = .ok (.getfield 25, 3) := by decide +kernel
theorem dX1_beginTurn_40 : decode cX1_beginTurn 40 = .ok (.aload_n 0, 1) := by decide +kernel
theorem dX1_beginTurn_41 : decode cX1_beginTurn 41 = .ok (.getfield 18, 3) := by decide +kernel
theorem dX1_beginTurn_44 : decode cX1_beginTurn 44 = .ok (.aload_n 0, 1) := by decide +kernel
theorem dX1_beginTurn_45 : decode cX1_beginTurn 45 = .ok (.getfield 12, 3) := by decide +kernel
theorem dX1_beginTurn_48 : decode cX1_beginTurn 48 = .ok (.iload_n 2, 1) := by decide +kernel
theorem dX1_beginTurn_49 : decode cX1_beginTurn 49 = .ok (.invokevirtual 77, 3) := by decide +kernel
theorem dX1_beginTurn_52 : decode cX1_beginTurn 52 = .ok (.isub, 1) := by decide +kernel
theorem dX1_beginTurn_53 : decode cX1_beginTurn 53 = .ok (.invokestatic 122, 3) := by decide +kernel
theorem dX1_beginTurn_56 : decode cX1_beginTurn 56 = .ok (.istore_n 3, 1) := by decide +kernel
theorem dX1_beginTurn_57 : decode cX1_beginTurn 57 = .ok (.aload_n 0, 1) := by decide +kernel
theorem dX1_beginTurn_58 : decode cX1_beginTurn 58 = .ok (.getfield 12, 3) := by decide +kernel
theorem dX1_beginTurn_61 : decode cX1_beginTurn 61 = .ok (.iload_n 2, 1) := by decide +kernel
theorem dX1_beginTurn_62 : decode cX1_beginTurn 62 = .ok (.aload_n 0, 1) := by decide +kernel
theorem dX1_beginTurn_63 : decode cX1_beginTurn 63 = .ok (.getfield 12, 3) := by decide +kernel
theorem dX1_beginTurn_66 : decode cX1_beginTurn 66 = .ok (.iload_n 2, 1) := by decide +kernel
theorem dX1_beginTurn_67 : decode cX1_beginTurn 67 = .ok (.invokevirtual 77, 3) := by decide +kernel
theorem dX1_beginTurn_70 : decode cX1_beginTurn 70 = .ok (.iload_n 3, 1) := by decide +kernel
theorem dX1_beginTurn_71 : decode cX1_beginTurn 71 = .ok (.iadd, 1) := by decide +kernel
theorem dX1_beginTurn_72 : decode cX1_beginTurn 72 = .ok (.invokevirtual 81, 3) := by decide +kernel
theorem dX1_beginTurn_75 : decode cX1_beginTurn 75 = .ok (.aload_n 0, 1) := by decide +kernel
theorem dX1_beginTurn_76 : decode cX1_beginTurn 76 = .ok (.dup, 1) := by decide +kernel
theorem dX1_beginTurn_77 : decode cX1_beginTurn 77 = .ok (.getfield 51, 3) := by decide +kernel
theorem dX1_beginTurn_80 : decode cX1_beginTurn 80 = .ok (.iload_n 3, 1) := by decide +kernel
theorem dX1_beginTurn_81 : decode cX1_beginTurn 81 = .ok (.iadd, 1) := by decide +kernel
theorem dX1_beginTurn_82 : decode cX1_beginTurn 82 = .ok (.putfield 51, 3) := by decide +kernel
theorem dX1_beginTurn_85 : decode cX1_beginTurn 85 = .ok (.iinc 2 1, 3) := by decide +kernel
theorem dX1_beginTurn_88 : decode cX1_beginTurn 88 = .ok (.goto (-81), 3) := by decide +kernel
theorem dX1_beginTurn_91 : decode cX1_beginTurn 91 = .ok (.return_, 1) := by decide +kernel
theorem dX2_init_0 : decode cX2_init 0 = .ok (.aload_n 0, 1) := by decide +kernel
theorem dX2_init_1 : decode cX2_init 1 = .ok (.invokespecial 1, 3) := by decide +kernel
theorem dX2_init_4 : decode cX2_init 4 = .ok (.aload_n 0, 1) := by decide +kernel
theorem dX2_init_5 : decode cX2_init 5 = .ok (.new 7, 3) := by decide +kernel
theorem dX2_init_8 : decode cX2_init 8 = .ok (.dup, 1) := by decide +kernel
theorem dX2_init_9 : decode cX2_init 9 = .ok (.invokespecial 9, 3) := by decide +kernel
theorem dX2_init_12 : decode cX2_init 12 = .ok (.putfield 10, 3) := by decide +kernel
theorem dX2_init_15 : decode cX2_init 15 = .ok (.aload_n 0, 1) := by decide +kernel
theorem dX2_init_16 : decode cX2_init 16 = .ok (.new 7, 3) := by decide +kernel
theorem dX2_init_19 : decode cX2_init 19 = .ok (.dup, 1) := by decide +kernel
theorem dX2_init_20 : decode cX2_init 20 = .ok (.invokespecial 9, 3) := by decide +kernel
theorem dX2_init_23 : decode cX2_init 23 = .ok (.putfield 16, 3) := by decide +kernel
theorem dX2_init_26 : decode cX2_init 26 = .ok (.aload_n 0, 1) := by decide +kernel
theorem dX2_init_27 : decode cX2_init 27 = .ok (.iconst 5, 1) := by decide +kernel
theorem dX2_init_28 : decode cX2_init 28 = .ok (.anewarray 7, 3) := by decide +kernel
theorem dX2_init_31 : decode cX2_init 31 = .ok (.putfield 19, 3) := by decide +kernel
theorem dX2_init_34 : decode cX2_init 34 = .ok (.aload_n 0, 1) := by decide +kernel
theorem dX2_init_35 : decode cX2_init 35 = .ok (.bipush 80, 2) := by decide +kernel
theorem dX2_init_37 : decode cX2_init 37 = .ok (.newarray .char, 2) := by decide +kernel
theorem dX2_init_39 : decode cX2_init 39 = .ok (.putfield 23, 3) := by decide +kernel
theorem dX2_init_42 : decode cX2_init 42 = .ok (.aload_n 0, 1) := by decide +kernel
theorem dX2_init_43 : decode cX2_init 43 = .ok (.bipush 36, 2) := by decide +kernel
theorem dX2_init_45 : decode cX2_init 45 = .ok (.newarray .int, 2) := by decide +kernel
theorem dX2_init_47 : decode cX2_init 47 = .ok (.putfield 27, 3) := by decide +kernel
theorem dX2_init_50 : decode cX2_init 50 = .ok (.aload_n 0, 1) := by decide +kernel
theorem dX2_init_51 : decode cX2_init 51 = .ok (.bipush 36, 2) := by decide +kernel
theorem dX2_init_53 : decode cX2_init 53 = .ok (.newarray .int, 2) := by decide +kernel
theorem dX2_init_55 : decode cX2_init 55 = .ok (.putfield 31, 3) := by decide +kernel
theorem dX2_init_58 : decode cX2_init 58 = .ok (.iconst 0, 1) := by decide +kernel
theorem dX2_init_59 : decode cX2_init 59 = .ok (.istore_n 1, 1) := by decide +kernel
theorem dX2_init_60 : decode cX2_init 60 = .ok (.iload_n 1, 1) := by decide +kernel
theorem dX2_init_61 : decode cX2_init 61 = .ok (.aload_n 0, 1) := by decide +kernel
theorem dX2_init_62 : decode cX2_init 62 = .ok (.getfield 19, 3) := by decide +kernel
theorem dX2_init_65 : decode cX2_init 65 = .ok (.arraylength, 1) := by decide +kernel
theorem dX2_init_66 : decode cX2_init 66 = .ok (.if_icmp .ge 22, 3) := by decide +kernel
theorem dX2_init_69 : decode cX2_init 69 = .ok (.aload_n 0, 1) := by decide +kernel
theorem dX2_init_70 : decode cX2_init 70 = .ok (.getfield 19, 3) := by decide +kernel
theorem dX2_init_73 : decode cX2_init 73 = .ok (.iload_n 1, 1) := by decide +kernel
theorem dX2_init_74 : decode cX2_init 74 = .ok (.new 7, 3) := by decide +kernel
theorem dX2_init_77 : decode cX2_init 77 = .ok (.dup, 1) := by decide +kernel
theorem dX2_init_78 : decode cX2_init 78 = .ok (.invokespecial 9, 3) := by decide +kernel
theorem dX2_init_81 : decode cX2_init 81 = .ok (.aastore, 1) := by decide +kernel
theorem dX2_init_82 : decode cX2_init 82 = .ok (.iinc 1 1, 3) := by decide +kernel
theorem dX2_init_85 : decode cX2_init 85 = .ok (.goto (-25), 3) := by decide +kernel
theorem dX2_init_88 : decode cX2_init 88 = .ok (.aload_n 0, 1) := by decide +kernel
theorem dX2_init_89 : decode cX2_init 89 = .ok (.getfield 10, 3) := by decide +kernel
theorem dX2_init_92 : decode cX2_init 92 = .ok (.invokevirtual 34, 3) := by decide +kernel
theorem dX2_init_95 : decode cX2_init 95 = .ok (.return_, 1) := by decide +kernel
theorem dX2_setUp_0 : decode cX2_setUp 0 = .ok (.aload_n 0, 1) := by decide +kernel
theorem dX2_setUp_1 : decode cX2_setUp 1 = .ok (.invokevirtual 37, 3) := by decide +kernel
theorem dX2_setUp_4 : decode cX2_setUp 4 = .ok (.aload_n 0, 1) := by decide +kernel
theorem dX2_setUp_5 : decode cX2_setUp 5 = .ok (.getfield 10, 3) := by decide +kernel
theorem dX2_setUp_8 : decode cX2_setUp 8 = .ok (.invokevirtual 34, 3) := by decide +kernel
theorem dX2_setUp_11 : decode cX2_setUp 11 = .ok (.aload_n 0, 1) := by decide +kernel
theorem dX2_setUp_12 : decode cX2_setUp 12 = .ok (.getfield 10, 3) := by decide +kernel
theorem dX2_setUp_15 : decode cX2_setUp 15 = .ok (.getfield 40, 3) := by decide +kernel
theorem dX2_setUp_18 : decode cX2_setUp 18 = .ok (.invokevirtual 44, 3) := by decide +kernel
theorem dX2_setUp_21 : decode cX2_setUp 21 = .ok (.ireturn, 1) := by decide +kernel
theorem dX2_set_0 : decode cX2_set 0 = .ok (.iload_n 1, 1) := by decide +kernel
theorem dX2_set_1 : decode cX2_set 1 = .ok (.iload_n 2, 1) := by decide +kernel
theorem dX2_set_2 : decode cX2_set 2 = .ok (.invokestatic 50, 3) := by decide +kernel
theorem dX2_set_5 : decode cX2_set 5 = .ok (.ifCond .ne 5, 3) := by decide +kernel
theorem dX2_set_8 : decode cX2_set 8 = .ok (.iconst (-1), 1) := by decide +kernel
theorem dX2_set_9 : decode cX2_set 9 = .ok (.ireturn, 1) := by decide +kernel
theorem dX2_set_10 : decode cX2_set 10 = .ok (.aload_n 0, 1) := by decide +kernel
theorem dX2_set_11 : decode cX2_set 11 = .ok (.invokevirtual 37, 3) := by decide +kernel
theorem dX2_set_14 : decode cX2_set 14 = .ok (.aload_n 0, 1) := by decide +kernel
theorem dX2_set_15 : decode cX2_set 15 = .ok (.getfield 10, 3) := by decide +kernel
theorem dX2_set_18 : decode cX2_set 18 = .ok (.iload_n 1, 1) := by decide +kernel
theorem dX2_set_19 : decode cX2_set 19 = .ok (.invokevirtual 54, 3) := by decide +kernel
theorem dX2_set_22 : decode cX2_set 22 = .ok (.istore_n 3, 1) := by decide +kernel
theorem dX2_set_23 : decode cX2_set 23 = .ok (.aload_n 0, 1) := by decide +kernel
theorem dX2_set_24 : decode cX2_set 24 = .ok (.getfield 10, 3) := by decide +kernel
theorem dX2_set_27 : decode cX2_set 27 = .ok (.iload_n 1, 1) := by decide +kernel
theorem dX2_set_28 : decode cX2_set 28 = .ok (.iload_n 2, 1) := by decide +kernel
theorem dX2_set_29 : decode cX2_set 29 = .ok (.invokevirtual 58, 3) := by decide +kernel
theorem dX2_set_32 : decode cX2_set 32 = .ok (.iload_n 3, 1) := by decide +kernel
theorem dX2_set_33 : decode cX2_set 33 = .ok (.ireturn, 1) := by decide +kernel
theorem dX2_put_0 : decode cX2_put 0 = .ok (.iload_n 2, 1) := by decide +kernel
theorem dX2_put_1 : decode cX2_put 1 = .ok (.invokestatic 62, 3) := by decide +kernel
theorem dX2_put_4 : decode cX2_put 4 = .ok (.ifCond .ne 8, 3) := by decide +kernel
theorem dX2_put_7 : decode cX2_put 7 = .ok (.iload_n 2, 1) := by decide +kernel
theorem dX2_put_8 : decode cX2_put 8 = .ok (.iconst (-1), 1) := by decide +kernel
theorem dX2_put_9 : decode cX2_put 9 = .ok (.if_icmp .ne 7, 3) := by decide +kernel
theorem dX2_put_12 : decode cX2_put 12 = .ok (.iconst 1, 1) := by decide +kernel
theorem dX2_put_13 : decode cX2_put 13 = .ok (.goto 4, 3) := by decide +kernel
theorem dX2_put_16 : decode cX2_put 16 = .ok (.iconst 0, 1) := by decide +kernel
theorem dX2_put_17 : decode cX2_put 17 = .ok (.istore 5, 2) := by decide +kernel
theorem dX2_put_19 : decode cX2_put 19 = .ok (.iload_n 3, 1) := by decide +kernel
theorem dX2_put_20 : decode cX2_put 20 = .ok (.ifCond .lt 12, 3) := by decide +kernel
theorem dX2_put_23 : decode cX2_put 23 = .ok (.iload_n 3, 1) := by decide +kernel
theorem dX2_put_24 : decode cX2_put 24 = .ok (.iconst 4, 1) := by decide +kernel
theorem dX2_put_25 : decode cX2_put 25 = .ok (.if_icmp .gt 7, 3) := by decide +kernel
theorem dX2_put_28 : decode cX2_put 28 = .ok (.iconst 1, 1) := by decide +kernel
theorem dX2_put_29 : decode cX2_put 29 = .ok (.goto 4, 3) := by decide +kernel
theorem dX2_put_32 : decode cX2_put 32 = .ok (.iconst 0, 1) := by decide +kernel
theorem dX2_put_33 : decode cX2_put 33 = .ok (.istore 6, 2) := by decide +kernel
theorem dX2_put_35 : decode cX2_put 35 = .ok (.iload 4, 2) := by decide +kernel
theorem dX2_put_37 : decode cX2_put 37 = .ok (.ifCond .lt 19, 3) := by decide +kernel
theorem dX2_put_40 : decode cX2_put 40 = .ok (.iload 4, 2) := by decide +kernel
theorem dX2_put_42 : decode cX2_put 42 = .ok (.aload_n 0, 1) := by decide +kernel
theorem dX2_put_43 : decode cX2_put 43 = .ok (.getfield 10, 3) := by decide +kernel
theorem dX2_put_46 : decode cX2_put 46 = .ok (.getfield 66, 3) := by decide +kernel
theorem dX2_put_49 : decode cX2_put 49 = .ok (.if_icmp .gt 7, 3) := by decide +kernel
theorem dX2_put_52 : decode cX2_put 52 = .ok (.iconst 1, 1) := by decide +kernel
theorem dX2_put_53 : decode cX2_put 53 = .ok (.goto 4, 3) := by decide +kernel
theorem dX2_put_56 : decode cX2_put 56 = .ok (.iconst 0, 1) := by decide +kernel
theorem dX2_put_57 : decode cX2_put 57 = .ok (.istore 7, 2) := by decide +kernel
theorem dX2_put_59 : decode cX2_put 59 = .ok (.iload_n 1, 1) := by decide +kernel
theorem dX2_put_60 : decode cX2_put 60 = .ok (.invokestatic 70, 3) := by decide +kernel
theorem dX2_put_63 : decode cX2_put 63 = .ok (.ifCond .eq 18, 3) := by decide +kernel
theorem dX2_put_66 : decode cX2_put 66 = .ok (.iload 5, 2) := by decide +kernel
theorem dX2_put_68 : decode cX2_put 68 = .ok (.ifCond .eq 13, 3) := by decide +kernel
theorem dX2_put_71 : decode cX2_put 71 = .ok (.iload 6, 2) := by decide +kernel
theorem dX2_put_73 : decode cX2_put 73 = .ok (.ifCond .eq 8, 3) := by decide +kernel
theorem dX2_put_76 : decode cX2_put 76 = .ok (.iload 7, 2) := by decide +kernel
theorem dX2_put_78 : decode cX2_put 78 = .ok (.ifCond .ne 5, 3) := by decide +kernel
theorem dX2_put_81 : decode cX2_put 81 = .ok (.iconst (-1), 1) := by decide +kernel
theorem dX2_put_82 : decode cX2_put 82 = .ok (.ireturn, 1) := by decide +kernel
theorem dX2_put_83 : decode cX2_put 83 = .ok (.aload_n 0, 1) := by decide +kernel
theorem dX2_put_84 : decode cX2_put 84 = .ok (.getfield 10, 3) := by decide +kernel
theorem dX2_put_87 : decode cX2_put 87 = .ok (.invokevirtual 73, 3) := by decide +kernel
theorem dX2_put_90 : decode cX2_put 90 = .ok (.ifCond .eq 6, 3) := by decide +kernel
theorem dX2_put_93 : decode cX2_put 93 = .ok (.bipush (-2), 2) := by decide +kernel
theorem dX2_put_95 : decode cX2_put 95 = .ok (.ireturn, 1) := by decide +kernel
theorem dX2_put_96 : decode cX2_put 96 = .ok (.aload_n 0, 1) := by decide +kernel
theorem dX2_put_97 : decode cX2_put 97 = .ok (.invokevirtual 37, 3) := by decide +kernel
theorem dX2_put_100 : decode cX2_put 100 = .ok (.aload_n 0, 1) := by decide +kernel
theorem dX2_put_101 : decode cX2_put 101 = .ok (.getfield 10, 3) := by decide +kernel
theorem dX2_put_104 : decode cX2_put 104 = .ok (.getfield 40, 3) := by decide +kernel
theorem dX2_put_107 : decode cX2_put 107 = .ok (.iload_n 1, 1) := by decide +kernel
theorem dX2_put_108 : decode cX2_put 108 = .ok (.invokevirtual 77, 3) := by decide +kernel
theorem dX2_put_111 : decode cX2_put 111 = .ok (.istore 8, 2) := by decide +kernel
theorem dX2_put_113 : decode cX2_put 113 = .ok (.aload_n 0, 1) := by decide +kernel
theorem dX2_put_114 : decode cX2_put 114 = .ok (.getfield 10, 3) := by decide +kernel
theorem dX2_put_117 : decode cX2_put 117 = .ok (.iload_n 1, 1) := by decide +kernel
theorem dX2_put_118 : decode cX2_put 118 = .ok (.iload_n 2, 1) := by decide +kernel
theorem dX2_put_119 : decode cX2_put 119 = .ok (.iload_n 3, 1) := by decide +kernel
theorem dX2_put_120 : decode cX2_put 120 = .ok (.iload 4, 2) := by decide +kernel
theorem dX2_put_122 : decode cX2_put 122 = .ok (.invokevirtual 80, 3) := by decide +kernel
theorem dX2_put_125 : decode cX2_put 125 = .ok (.iload 8, 2) := by decide +kernel
theorem dX2_put_127 : decode cX2_put 127 = .ok (.ifCond .eq 7, 3) := by decide +kernel
theorem dX2_put_130 : decode cX2_put 130 = .ok (.iconst 1, 1) := by decide +kernel
theorem dX2_put_131 : decode cX2_put 131 = .ok (.goto 4, 3) := by decide +kernel
theorem dX2_put_134 : decode cX2_put 134 = .ok (.iconst 0, 1) := by decide +kernel
theorem dX2_put_135 : decode cX2_put 135 = .ok (.ireturn, 1) := by decide +kernel
theorem dX2_tower_0 : decode cX2_tower 0 = .ok (.iload_n 1, 1) := by decide +kernel
theorem dX2_tower_1 : decode cX2_tower 1 = .ok (.invokestatic 70, 3) := by decide +kernel
theorem dX2_tower_4 : decode cX2_tower 4 = .ok (.ifCond .ne 5, 3) := by decide +kernel
theorem dX2_tower_7 : decode cX2_tower 7 = .ok (.iconst (-1), 1) := by decide +kernel
theorem dX2_tower_8 : decode cX2_tower 8 = .ok (.ireturn, 1) := by decide +kernel
theorem dX2_tower_9 : decode cX2_tower 9 = .ok (.aload_n 0, 1) := by decide +kernel
theorem dX2_tower_10 : decode cX2_tower 10 = .ok (.getfield 10, 3) := by decide +kernel
theorem dX2_tower_13 : decode cX2_tower 13 = .ok (.getfield 40, 3) := by decide +kernel
theorem dX2_tower_16 : decode cX2_tower 16 = .ok (.iload_n 1, 1) := by decide +kernel
theorem dX2_tower_17 : decode cX2_tower 17 = .ok (.invokevirtual 84, 3) := by decide +kernel
theorem dX2_tower_20 : decode cX2_tower 20 = .ok (.ifCond .ne 21, 3) := by decide +kernel
theorem dX2_tower_23 : decode cX2_tower 23 = .ok (.aload_n 0, 1) := by decide +kernel
theorem dX2_tower_24 : decode cX2_tower 24 = .ok (.getfield 10, 3) := by decide +kernel
theorem dX2_tower_27 : decode cX2_tower 27 = .ok (.getfield 40, 3) := by decide +kernel
theorem dX2_tower_30 : decode cX2_tower 30 = .ok (.invokevirtual 87, 3) := by decide +kernel
theorem dX2_tower_33 : decode cX2_tower 33 = .ok (.bipush 6, 2) := by decide +kernel
theorem dX2_tower_35 : decode cX2_tower 35 = .ok (.if_icmp .lt 6, 3) := by decide +kernel
theorem dX2_tower_38 : decode cX2_tower 38 = .ok (.bipush (-3), 2) := by decide +kernel
theorem dX2_tower_40 : decode cX2_tower 40 = .ok (.ireturn, 1) := by decide +kernel
theorem dX2_tower_41 : decode cX2_tower 41 = .ok (.aload_n 0, 1) := by decide +kernel
theorem dX2_tower_42 : decode cX2_tower 42 = .ok (.invokevirtual 37, 3) := by decide +kernel
theorem dX2_tower_45 : decode cX2_tower 45 = .ok (.aload_n 0, 1) := by decide +kernel
theorem dX2_tower_46 : decode cX2_tower 46 = .ok (.getfield 10, 3) := by decide +kernel
theorem dX2_tower_49 : decode cX2_tower 49 = .ok (.getfield 40, 3) := by decide +kernel
theorem dX2_tower_52 : decode cX2_tower 52 = .ok (.iload_n 1, 1) := by decide +kernel
theorem dX2_tower_53 : decode cX2_tower 53 = .ok (.aload_n 0, 1) := by decide +kernel
theorem dX2_tower_54 : decode cX2_tower 54 = .ok (.getfield 10, 3) := by decide +kernel
theorem dX2_tower_57 : decode cX2_tower 57 = .ok (.getfield 40, 3) := by decide +kernel
theorem dX2_tower_60 : decode cX2_tower 60 = .ok (.iload_n 1, 1) := by decide +kernel
theorem dX2_tower_61 : decode cX2_tower 61 = .ok (.invokevirtual 84, 3) := by decide +kernel
theorem dX2_tower_64 : decode cX2_tower 64 = .ok (.ifCond .ne 7, 3) := by decide +kernel
theorem dX2_tower_67 : decode cX2_tower 67 = .ok (.iconst 1, 1) := by decide +kernel
theorem dX2_tower_68 : decode cX2_tower 68 = .ok (.goto 4, 3) := by decide +kernel
theorem dX2_tower_71 : decode cX2_tower 71 = .ok (.iconst 0, 1) := by decide +kernel
theorem dX2_tower_72 : decode cX2_tower 72 = .ok (.invokevirtual 90, 3) := by decide +kernel
theorem dX2_tower_75 : decode cX2_tower 75 = .ok (.aload_n 0, 1) := by decide +kernel
theorem dX2_tower_76 : decode cX2_tower 76 = .ok (.getfield 10, 3) := by decide +kernel
theorem dX2_tower_79 : decode cX2_tower 79 = .ok (.getfield 40, 3) := by decide +kernel
theorem dX2_tower_82 : decode cX2_tower 82 = .ok (.invokevirtual 87, 3) := by decide +kernel
theorem dX2_tower_85 : decode cX2_tower 85 = .ok (.ireturn, 1) := by decide +kernel
theorem dX2_cell_0 : decode cX2_cell 0 = .ok (.iload_n 1, 1) := by decide +kernel
theorem dX2_cell_1 : decode cX2_cell 1 = .ok (.invokestatic 70, 3) := by decide +kernel
theorem dX2_cell_4 : decode cX2_cell 4 = .ok (.ifCond .eq 12, 3) := by decide +kernel
theorem dX2_cell_7 : decode cX2_cell 7 = .ok (.iload_n 2, 1) := by decide +kernel
theorem dX2_cell_8 : decode cX2_cell 8 = .ok (.ifCond .lt 8, 3) := by decide +kernel
theorem dX2_cell_11 : decode cX2_cell 11 = .ok (.iload_n 2, 1) := by decide +kernel
theorem dX2_cell_12 : decode cX2_cell 12 = .ok (.iconst 4, 1) := by decide +kernel
theorem dX2_cell_13 : decode cX2_cell 13 = .ok (.if_icmp .le 5, 3) := by decide +kernel
theorem dX2_cell_16 : decode cX2_cell 16 = .ok (.iconst (-1), 1) := by decide +kernel
theorem dX2_cell_17 : decode cX2_cell 17 = .ok (.ireturn, 1) := by decide +kernel
theorem dX2_cell_18 : decode cX2_cell 18 = .ok (.aload_n 0, 1) := by decide +kernel
theorem dX2_cell_19 : decode cX2_cell 19 = .ok (.getfield 10, 3) := by decide +kernel
theorem dX2_cell_22 : decode cX2_cell 22 = .ok (.getfield 40, 3) := by decide +kernel
theorem dX2_cell_25 : decode cX2_cell 25 = .ok (.astore_n 3, 1) := by decide +kernel
theorem dX2_cell_26 : decode cX2_cell 26 = .ok (.iload_n 2, 1) := by decide +kernel
theorem dX2_cell_27 : decode cX2_cell 27 = .ok (.iconst 3, 1) := by decide +kernel
theorem dX2_cell_28 : decode cX2_cell 28 = .ok (.if_icmp .ne 17, 3) := by decide +kernel
theorem dX2_cell_31 : decode cX2_cell 31 = .ok (.aload_n 3, 1) := by decide +kernel
theorem dX2_cell_32 : decode cX2_cell 32 = .ok (.iload_n 1, 1) := by decide +kernel
theorem dX2_cell_33 : decode cX2_cell 33 = .ok (.invokevirtual 84, 3) := by decide +kernel
theorem dX2_cell_36 : decode cX2_cell 36 = .ok (.ifCond .eq 7, 3) := by decide +kernel
theorem dX2_cell_39 : decode cX2_cell 39 = .ok (.iconst 1, 1) := by decide +kernel
theorem dX2_cell_40 : decode cX2_cell 40 = .ok (.goto 4, 3) := by decide +kernel
theorem dX2_cell_43 : decode cX2_cell 43 = .ok (.iconst 0, 1) := by decide +kernel
theorem dX2_cell_44 : decode cX2_cell 44 = .ok (.ireturn, 1) := by decide +kernel
theorem dX2_cell_45 : decode cX2_cell 45 = .ok (.aload_n 3, 1) := by decide +kernel
theorem dX2_cell_46 : decode cX2_cell 46 = .ok (.iload_n 1, 1) := by decide +kernel
theorem dX2_cell_47 : decode cX2_cell 47 = .ok (.invokevirtual 77, 3) := by decide +kernel
theorem dX2_cell_50 : decode cX2_cell 50 = .ok (.ifCond .ne 6, 3) := by decide +kernel
theorem dX2_cell_53 : decode cX2_cell 53 = .ok (.bipush (-4), 2) := by decide +kernel
theorem dX2_cell_55 : decode cX2_cell 55 = .ok (.ireturn, 1) := by decide +kernel
theorem dX2_cell_56 : decode cX2_cell 56 = .ok (.iload_n 2, 1) := by decide +kernel
theorem dX2_cell_57 : decode cX2_cell 57 = .ok (.tableswitch 45 0 2 #[27, 33, 39], 27) := by decide +kernel
theorem dX2_cell_84 : decode cX2_cell 84 = .ok (.aload_n 3, 1) := by decide +kernel
theorem dX2_cell_85 : decode cX2_cell 85 = .ok (.iload_n 1, 1) := by decide +kernel
theorem dX2_cell_86 : decode cX2_cell 86 = .ok (.invokevirtual 94, 3) := by decide +kernel
theorem dX2_cell_89 : decode cX2_cell 89 = .ok (.ireturn, 1) := by decide +kernel
theorem dX2_cell_90 : decode cX2_cell 90 = .ok (.aload_n 3, 1) := by decide +kernel
theorem dX2_cell_91 : decode cX2_cell 91 = .ok (.iload_n 1, 1) := by decide +kernel
theorem dX2_cell_92 : decode cX2_cell 92 = .ok (.invokevirtual 97, 3) := by decide +kernel
theorem dX2_cell_95 : decode cX2_cell 95 = .ok (.ireturn, 1) := by decide +kernel
theorem dX2_cell_96 : decode cX2_cell 96 = .ok (.aload_n 3, 1) := by decide +kernel
theorem dX2_cell_97 : decode cX2_cell 97 = .ok (.iload_n 1, 1) := by decide +kernel
theorem dX2_cell_98 : decode cX2_cell 98 = .ok (.invokevirtual 100, 3) := by decide +kernel
theorem dX2_cell_101 : decode cX2_cell 101 = .ok (.ireturn, 1) := by decide +kernel
theorem dX2_cell_102 : decode cX2_cell 102 = .ok (.aload_n 3, 1) := by decide +kernel
theorem dX2_cell_103 : decode cX2_cell 103 = .ok (.iload_n 1, 1) := by decide +kernel
theorem dX2_cell_104 : decode cX2_cell 104 = .ok (.invokevirtual 103, 3) := by decide +kernel
theorem dX2_cell_107 : decode cX2_cell 107 = .ok (.ireturn, 1) := by decide +kernel
theorem dX2_count_0 : decode cX2_count 0 = .ok (.iload_n 1, 1) := by decide +kernel
theorem dX2_count_1 : decode cX2_count 1 = .ok (.tableswitch 183 0 12 #[67, 75, 83, 107, 115, 126, 137, 149, 161, 166, 171, 171, 171], 67) := by decide +kernel
theorem dX2_count_68 : decode cX2_count 68 = .ok (.aload_n 0, 1) := by decide +kernel
theorem dX2_count_69 : decode cX2_count 69 = .ok (.getfield 10, 3) := by decide +kernel
theorem dX2_count_72 : decode cX2_count 72 = .ok (.getfield 106, 3) := by decide +kernel
theorem dX2_count_75 : decode cX2_count 75 = .ok (.ireturn, 1) := by decide +kernel
theorem dX2_count_76 : decode cX2_count 76 = .ok (.aload_n 0, 1) := by decide +kernel
theorem dX2_count_77 : decode cX2_count 77 = .ok (.getfield 10, 3) := by decide +kernel
theorem dX2_count_80 : decode cX2_count 80 = .ok (.getfield 109, 3) := by decide +kernel
theorem dX2_count_83 : decode cX2_count 83 = .ok (.ireturn, 1) := by decide +kernel
theorem dX2_count_84 : decode cX2_count 84 = .ok (.aload_n 0, 1) := by decide +kernel
theorem dX2_count_85 : decode cX2_count 85 = .ok (.getfield 10, 3) := by decide +kernel
theorem dX2_count_88 : decode cX2_count 88 = .ok (.getfield 112, 3) := by decide +kernel
theorem dX2_count_91 : decode cX2_count 91 = .ok (.iconst (-1), 1) := by decide +kernel
theorem dX2_count_92 : decode cX2_count 92 = .ok (.if_icmp .ne 8, 3) := by decide +kernel
theorem dX2_count_95 : decode cX2_count 95 = .ok (.bipush (-4), 2) := by decide +kernel
theorem dX2_count_97 : decode cX2_count 97 = .ok (.goto 10, 3) := by decide +kernel
theorem dX2_count_100 : decode cX2_count 100 = .ok (.aload_n 0, 1) := by decide +kernel
theorem dX2_count_101 : decode cX2_count 101 = .ok (.getfield 10, 3) := by decide +kernel
theorem dX2_count_104 : decode cX2_count 104 = .ok (.getfield 112, 3) := by decide +kernel
theorem dX2_count_107 : decode cX2_count 107 = .ok (.ireturn, 1) := by decide +kernel
theorem dX2_count_108 : decode cX2_count 108 = .ok (.aload_n 0, 1) := by decide +kernel
theorem dX2_count_109 : decode cX2_count 109 = .ok (.getfield 10, 3) := by decide +kernel
theorem dX2_count_112 : decode cX2_count 112 = .ok (.getfield 115, 3) := by decide +kernel
theorem dX2_count_115 : decode cX2_count 115 = .ok (.ireturn, 1) := by decide +kernel
theorem dX2_count_116 : decode cX2_count 116 = .ok (.aload_n 0, 1) := by decide +kernel
theorem dX2_count_117 : decode cX2_count 117 = .ok (.getfield 10, 3) := by decide +kernel
theorem dX2_count_120 : decode cX2_count 120 = .ok (.getfield 40, 3) := by decide +kernel
theorem dX2_count_123 : decode cX2_count 123 = .ok (.invokevirtual 118, 3) := by decide +kernel
theorem dX2_count_126 : decode cX2_count 126 = .ok (.ireturn, 1) := by decide +kernel
theorem dX2_count_127 : decode cX2_count 127 = .ok (.aload_n 0, 1) := by decide +kernel
theorem dX2_count_128 : decode cX2_count 128 = .ok (.getfield 10, 3) := by decide +kernel
theorem dX2_count_131 : decode cX2_count 131 = .ok (.getfield 40, 3) := by decide +kernel
theorem dX2_count_134 : decode cX2_count 134 = .ok (.invokevirtual 87, 3) := by decide +kernel
theorem dX2_count_137 : decode cX2_count 137 = .ok (.ireturn, 1) := by decide +kernel
theorem dX2_count_138 : decode cX2_count 138 = .ok (.aload_n 0, 1) := by decide +kernel
theorem dX2_count_139 : decode cX2_count 139 = .ok (.getfield 10, 3) := by decide +kernel
theorem dX2_count_142 : decode cX2_count 142 = .ok (.getfield 40, 3) := by decide +kernel
theorem dX2_count_145 : decode cX2_count 145 = .ok (.iconst 0, 1) := by decide +kernel
theorem dX2_count_146 : decode cX2_count 146 = .ok (.invokevirtual 121, 3) := by decide +kernel
theorem dX2_count_149 : decode cX2_count 149 = .ok (.ireturn, 1) := by decide +kernel
theorem dX2_count_150 : decode cX2_count 150 = .ok (.aload_n 0, 1) := by decide +kernel
theorem dX2_count_151 : decode cX2_count 151 = .ok (.getfield 10, 3) := by decide +kernel
theorem dX2_count_154 : decode cX2_count 154 = .ok (.getfield 40, 3) := by decide +kernel
theorem dX2_count_157 : decode cX2_count 157 = .ok (.iconst 1, 1) := by decide +kernel
theorem dX2_count_158 : decode cX2_count 158 = .ok (.invokevirtual 121, 3) := by decide +kernel
theorem dX2_count_161 : decode cX2_count 161 = .ok (.ireturn, 1) := by decide +kernel
theorem dX2_count_162 : decode cX2_count 162 = .ok (.aload_n 0, 1) := by decide +kernel
theorem dX2_count_163 : decode cX2_count 163 = .ok (.getfield 124, 3) := by decide +kernel
theorem dX2_count_166 : decode cX2_count 166 = .ok (.ireturn, 1) := by decide +kernel
theorem dX2_count_167 : decode cX2_count 167 = .ok (.aload_n 0, 1) := by decide +kernel
theorem dX2_count_168 : decode cX2_count 168 = .ok (.getfield 127, 3) := by decide +kernel
theorem dX2_count_171 : decode cX2_count 171 = .ok (.ireturn, 1) := by decide +kernel
theorem dX2_count_172 : decode cX2_count 172 = .ok (.aload_n 0, 1) := by decide +kernel
theorem dX2_count_173 : decode cX2_count 173 = .ok (.getfield 10, 3) := by decide +kernel
theorem dX2_count_176 : decode cX2_count 176 = .ok (.iload_n 1, 1) := by decide +kernel
theorem dX2_count_177 : decode cX2_count 177 = .ok (.bipush 10, 2) := by decide +kernel
theorem dX2_count_179 : decode cX2_count 179 = .ok (.isub, 1) := by decide +kernel
theorem dX2_count_180 : decode cX2_count 180 = .ok (.invokevirtual 54, 3) := by decide +kernel
theorem dX2_count_183 : decode cX2_count 183 = .ok (.ireturn, 1) := by decide +kernel
theorem dX2_count_184 : decode cX2_count 184 = .ok (.iload_n 1, 1) := by decide +kernel
theorem dX2_count_185 : decode cX2_count 185 = .ok (.bipush 20, 2) := by decide +kernel
theorem dX2_count_187 : decode cX2_count 187 = .ok (.isub, 1) := by decide +kernel
theorem dX2_count_188 : decode cX2_count 188 = .ok (.invokestatic 130, 3) := by decide +kernel
theorem dX2_count_191 : decode cX2_count 191 = .ok (.ifCond .eq 17, 3) := by decide +kernel
theorem dX2_count_194 : decode cX2_count 194 = .ok (.aload_n 0, 1) := by decide +kernel
theorem dX2_count_195 : decode cX2_count 195 = .ok (.getfield 10, 3) := by decide +kernel
theorem dX2_count_198 : decode cX2_count 198 = .ok (.iload_n 1, 1) := by decide +kernel
theorem dX2_count_199 : decode cX2_count 199 = .ok (.bipush 20, 2) := by decide +kernel
theorem dX2_count_201 : decode cX2_count 201 = .ok (.isub, 1) := by decide +kernel
theorem dX2_count_202 : decode cX2_count 202 = .ok (.invokevirtual 133, 3) := by decide +kernel
theorem dX2_count_205 : decode cX2_count 205 = .ok (.goto 4, 3) := by decide +kernel
theorem dX2_count_208 : decode cX2_count 208 = .ok (.iconst (-1), 1) := by decide +kernel
theorem dX2_count_209 : decode cX2_count 209 = .ok (.ireturn, 1) := by decide +kernel
theorem dX2_undo_0 : decode cX2_undo 0 = .ok (.aload_n 0, 1) := by decide +kernel
theorem dX2_undo_1 : decode cX2_undo 1 = .ok (.aload_n 0, 1) := by decide +kernel
theorem dX2_undo_2 : decode cX2_undo 2 = .ok (.getfield 124, 3) := by decide +kernel
theorem dX2_undo_5 : decode cX2_undo 5 = .ok (.iconst 1, 1) := by decide +kernel
theorem dX2_undo_6 : decode cX2_undo 6 = .ok (.isub, 1) := by decide +kernel
theorem dX2_undo_7 : decode cX2_undo 7 = .ok (.invokevirtual 136, 3) := by decide +kernel
theorem dX2_undo_10 : decode cX2_undo 10 = .ok (.astore_n 1, 1) := by decide +kernel
theorem dX2_undo_11 : decode cX2_undo 11 = .ok (.aload_n 1, 1) := by decide +kernel
theorem dX2_undo_12 : decode cX2_undo 12 = .ok (.ifnonnull 6, 3) := by decide +kernel
theorem dX2_undo_15 : decode cX2_undo 15 = .ok (.bipush (-2), 2) := by decide +kernel
theorem dX2_undo_17 : decode cX2_undo 17 = .ok (.ireturn, 1) := by decide +kernel
theorem dX2_undo_18 : decode cX2_undo 18 = .ok (.aload_n 0, 1) := by decide +kernel
theorem dX2_undo_19 : decode cX2_undo 19 = .ok (.dup, 1) := by decide +kernel
theorem dX2_undo_20 : decode cX2_undo 20 = .ok (.getfield 124, 3) := by decide +kernel
theorem dX2_undo_23 : decode cX2_undo 23 = .ok (.iconst 1, 1) := by decide +kernel
theorem dX2_undo_24 : decode cX2_undo 24 = .ok (.isub, 1) := by decide +kernel
theorem dX2_undo_25 : decode cX2_undo 25 = .ok (.putfield 124, 3) := by decide +kernel
theorem dX2_undo_28 : decode cX2_undo 28 = .ok (.aload_n 0, 1) := by decide +kernel
theorem dX2_undo_29 : decode cX2_undo 29 = .ok (.getfield 10, 3) := by decide +kernel
theorem dX2_undo_32 : decode cX2_undo 32 = .ok (.aload_n 1, 1) := by decide +kernel
theorem dX2_undo_33 : decode cX2_undo 33 = .ok (.invokevirtual 140, 3) := by decide +kernel
theorem dX2_undo_36 : decode cX2_undo 36 = .ok (.aload_n 0, 1) := by decide +kernel
theorem dX2_undo_37 : decode cX2_undo 37 = .ok (.getfield 124, 3) := by decide +kernel
theorem dX2_undo_40 : decode cX2_undo 40 = .ok (.ireturn, 1) := by decide +kernel
theorem dX2_move_0 : decode cX2_move 0 = .ok (.iload_n 1, 1) := by decide +kernel
theorem dX2_move_1 : decode cX2_move 1 = .ok (.invokestatic 70, 3) := by decide +kernel
theorem dX2_move_4 : decode cX2_move 4 = .ok (.ifCond .eq 10, 3) := by decide +kernel
theorem dX2_move_7 : decode cX2_move 7 = .ok (.iload_n 2, 1) := by decide +kernel
theorem dX2_move_8 : decode cX2_move 8 = .ok (.invokestatic 70, 3) := by decide +kernel
theorem dX2_move_11 : decode cX2_move 11 = .ok (.ifCond .ne 5, 3) := by decide +kernel
theorem dX2_move_14 : decode cX2_move 14 = .ok (.iconst (-1), 1) := by decide +kernel
theorem dX2_move_15 : decode cX2_move 15 = .ok (.ireturn, 1) := by decide +kernel
theorem dX2_move_16 : decode cX2_move 16 = .ok (.aload_n 0, 1) := by decide +kernel
theorem dX2_move_17 : decode cX2_move 17 = .ok (.getfield 10, 3) := by decide +kernel
theorem dX2_move_20 : decode cX2_move 20 = .ok (.iload_n 1, 1) := by decide +kernel
theorem dX2_move_21 : decode cX2_move 21 = .ok (.iload_n 2, 1) := by decide +kernel
theorem dX2_move_22 : decode cX2_move 22 = .ok (.invokevirtual 144, 3) := by decide +kernel
theorem dX2_move_25 : decode cX2_move 25 = .ok (.ifCond .eq 6, 3) := by decide +kernel
theorem dX2_move_28 : decode cX2_move 28 = .ok (.bipush (-2), 2) := by decide +kernel
theorem dX2_move_30 : decode cX2_move 30 = .ok (.ireturn, 1) := by decide +kernel
theorem dX2_move_31 : decode cX2_move 31 = .ok (.aload_n 0, 1) := by decide +kernel
theorem dX2_move_32 : decode cX2_move 32 = .ok (.invokevirtual 37, 3) := by decide +kernel
theorem dX2_move_35 : decode cX2_move 35 = .ok (.aload_n 0, 1) := by decide +kernel
theorem dX2_move_36 : decode cX2_move 36 = .ok (.getfield 10, 3) := by decide +kernel
theorem dX2_move_39 : decode cX2_move 39 = .ok (.iload_n 1, 1) := by decide +kernel
theorem dX2_move_40 : decode cX2_move 40 = .ok (.iload_n 2, 1) := by decide +kernel
theorem dX2_move_41 : decode cX2_move 41 = .ok (.invokevirtual 148, 3) := by decide +kernel
theorem dX2_move_44 : decode cX2_move 44 = .ok (.ireturn, 1) := by decide +kernel
theorem dX2_pass_0 : decode cX2_pass 0 = .ok (.aload_n 0, 1) := by decide +kernel
theorem dX2_pass_1 : decode cX2_pass 1 = .ok (.getfield 10, 3) := by decide +kernel
theorem dX2_pass_4 : decode cX2_pass 4 = .ok (.invokevirtual 151, 3) := by decide +kernel
theorem dX2_pass_7 : decode cX2_pass 7 = .ok (.ifCond .eq 6, 3) := by decide +kernel
theorem dX2_pass_10 : decode cX2_pass 10 = .ok (.bipush (-2), 2) := by decide +kernel
theorem dX2_pass_12 : decode cX2_pass 12 = .ok (.ireturn, 1) := by decide +kernel
theorem dX2_pass_13 : decode cX2_pass 13 = .ok (.aload_n 0, 1) := by decide +kernel
theorem dX2_pass_14 : decode cX2_pass 14 = .ok (.invokevirtual 37, 3) := by decide +kernel
theorem dX2_pass_17 : decode cX2_pass 17 = .ok (.aload_n 0, 1) := by decide +kernel
theorem dX2_pass_18 : decode cX2_pass 18 = .ok (.getfield 10, 3) := by decide +kernel
theorem dX2_pass_21 : decode cX2_pass 21 = .ok (.invokevirtual 154, 3) := by decide +kernel
theorem dX2_pass_24 : decode cX2_pass 24 = .ok (.aload_n 0, 1) := by decide +kernel
theorem dX2_pass_25 : decode cX2_pass 25 = .ok (.getfield 10, 3) := by decide +kernel
theorem dX2_pass_28 : decode cX2_pass 28 = .ok (.invokevirtual 73, 3) := by decide +kernel
theorem dX2_pass_31 : decode cX2_pass 31 = .ok (.ifCond .eq 7, 3) := by decide +kernel
theorem dX2_pass_34 : decode cX2_pass 34 = .ok (.iconst 1, 1) := by decide +kernel
theorem dX2_pass_35 : decode cX2_pass 35 = .ok (.goto 4, 3) := by decide +kernel
theorem dX2_pass_38 : decode cX2_pass 38 = .ok (.iconst 0, 1) := by decide +kernel
theorem dX2_pass_39 : decode cX2_pass 39 = .ok (.ireturn, 1) := by decide +kernel
theorem dX2_refusal_0 : decode cX2_refusal 0 = .ok (.iload_n 1, 1) := by decide +kernel
theorem dX2_refusal_1 : decode cX2_refusal 1 = .ok (.invokestatic 70, 3) := by decide +kernel
theorem dX2_refusal_4 : decode cX2_refusal 4 = .ok (.ifCond .eq 10, 3) := by decide +kernel
theorem dX2_refusal_7 : decode cX2_refusal 7 = .ok (.iload_n 2, 1) := by decide +kernel
theorem dX2_refusal_8 : decode cX2_refusal 8 = .ok (.invokestatic 70, 3) := by decide +kernel
theorem dX2_refusal_11 : decode cX2_refusal 11 = .ok (.ifCond .ne 5, 3) := by decide +kernel
theorem dX2_refusal_14 : decode cX2_refusal 14 = .ok (.iconst (-1), 1) := by decide +kernel
theorem dX2_refusal_15 : decode cX2_refusal 15 = .ok (.ireturn, 1) := by decide +kernel
theorem dX2_refusal_16 : decode cX2_refusal 16 = .ok (.aload_n 0, 1) := by decide +kernel
theorem dX2_refusal_17 : decode cX2_refusal 17 = .ok (.getfield 10, 3) := by decide +kernel
theorem dX2_refusal_20 : decode cX2_refusal 20 = .ok (.iload_n 1, 1) := by decide +kernel
theorem dX2_refusal_21 : decode cX2_refusal 21 = .ok (.iload_n 2, 1) := by decide +kernel
theorem dX2_refusal_22 : decode cX2_refusal 22 = .ok (.invokevirtual 144, 3) := by decide +kernel
theorem dX2_refusal_25 : decode cX2_refusal 25 = .ok (.ireturn, 1) := by decide +kernel
theorem dX2_cost_0 : decode cX2_cost 0 = .ok (.iload_n 1, 1) := by decide +kernel
theorem dX2_cost_1 : decode cX2_cost 1 = .ok (.invokestatic 70, 3) := by decide +kernel
theorem dX2_cost_4 : decode cX2_cost 4 = .ok (.ifCond .eq 10, 3) := by decide +kernel
theorem dX2_cost_7 : decode cX2_cost 7 = .ok (.iload_n 2, 1) := by decide +kernel
theorem dX2_cost_8 : decode cX2_cost 8 = .ok (.invokestatic 70, 3) := by decide +kernel
theorem dX2_cost_11 : decode cX2_cost 11 = .ok (.ifCond .ne 5, 3) := by decide +kernel
theorem dX2_cost_14 : decode cX2_cost 14 = .ok (.iconst (-1), 1) := by decide +kernel
theorem dX2_cost_15 : decode cX2_cost 15 = .ok (.ireturn, 1) := by decide +kernel
theorem dX2_cost_16 : decode cX2_cost 16 = .ok (.aload_n 0, 1) := by decide +kernel
theorem dX2_cost_17 : decode cX2_cost 17 = .ok (.getfield 10, 3) := by decide +kernel
theorem dX2_cost_20 : decode cX2_cost 20 = .ok (.getfield 40, 3) := by decide +kernel
theorem dX2_cost_23 : decode cX2_cost 23 = .ok (.iload_n 1, 1) := by decide +kernel
theorem dX2_cost_24 : decode cX2_cost 24 = .ok (.iload_n 2, 1) := by decide +kernel
theorem dX2_cost_25 : decode cX2_cost 25 = .ok (.invokevirtual 157, 3) := by decide +kernel
theorem dX2_cost_28 : decode cX2_cost 28 = .ok (.istore_n 3, 1) := by decide +kernel
theorem dX2_cost_29 : decode cX2_cost 29 = .ok (.iload_n 3, 1) := by decide +kernel
theorem dX2_cost_30 : decode cX2_cost 30 = .ok (.ifCond .ne 8, 3) := by decide +kernel
theorem dX2_cost_33 : decode cX2_cost 33 = .ok (.bipush (-4), 2) := by decide +kernel
theorem dX2_cost_35 : decode cX2_cost 35 = .ok (.goto 4, 3) := by decide +kernel
theorem dX2_cost_38 : decode cX2_cost 38 = .ok (.iload_n 3, 1) := by decide +kernel
theorem dX2_cost_39 : decode cX2_cost 39 = .ok (.ireturn, 1) := by decide +kernel
theorem dX2_moves_0 : decode cX2_moves 0 = .ok (.iload_n 1, 1) := by decide +kernel
theorem dX2_moves_1 : decode cX2_moves 1 = .ok (.invokestatic 62, 3) := by decide +kernel
theorem dX2_moves_4 : decode cX2_moves 4 = .ok (.ifCond .eq 17, 3) := by decide +kernel
theorem dX2_moves_7 : decode cX2_moves 7 = .ok (.aload_n 0, 1) := by decide +kernel
theorem dX2_moves_8 : decode cX2_moves 8 = .ok (.getfield 10, 3) := by decide +kernel
theorem dX2_moves_11 : decode cX2_moves 11 = .ok (.getfield 40, 3) := by decide +kernel
theorem dX2_moves_14 : decode cX2_moves 14 = .ok (.iload_n 1, 1) := by decide +kernel
theorem dX2_moves_15 : decode cX2_moves 15 = .ok (.invokevirtual 160, 3) := by decide +kernel
theorem dX2_moves_18 : decode cX2_moves 18 = .ok (.goto 4, 3) := by decide +kernel
theorem dX2_moves_21 : decode cX2_moves 21 = .ok (.iconst (-1), 1) := by decide +kernel
theorem dX2_moves_22 : decode cX2_moves 22 = .ok (.ireturn, 1) := by decide +kernel
theorem dX2_listed_0 : decode cX2_listed 0 = .ok (.iload_n 1, 1) := by decide +kernel
theorem dX2_listed_1 : decode cX2_listed 1 = .ok (.invokestatic 62, 3) := by decide +kernel
theorem dX2_listed_4 : decode cX2_listed 4 = .ok (.ifCond .eq 7, 3) := by decide +kernel
theorem dX2_listed_7 : decode cX2_listed 7 = .ok (.iload_n 2, 1) := by decide +kernel
theorem dX2_listed_8 : decode cX2_listed 8 = .ok (.ifCond .ge 5, 3) := by decide +kernel
theorem dX2_listed_11 : decode cX2_listed 11 = .ok (.iconst (-1), 1) := by decide +kernel
theorem dX2_listed_12 : decode cX2_listed 12 = .ok (.ireturn, 1) := by decide +kernel
theorem dX2_listed_13 : decode cX2_listed 13 = .ok (.aload_n 0, 1) := by decide +kernel
theorem dX2_listed_14 : decode cX2_listed 14 = .ok (.getfield 10, 3) := by decide +kernel
theorem dX2_listed_17 : decode cX2_listed 17 = .ok (.getfield 40, 3) := by decide +kernel
theorem dX2_listed_20 : decode cX2_listed 20 = .ok (.astore_n 3, 1) := by decide +kernel
theorem dX2_listed_21 : decode cX2_listed 21 = .ok (.iconst 0, 1) := by decide +kernel
theorem dX2_listed_22 : decode cX2_listed 22 = .ok (.istore 4, 2) := by decide +kernel
theorem dX2_listed_24 : decode cX2_listed 24 = .ok (.iconst 0, 1) := by decide +kernel
theorem dX2_listed_25 : decode cX2_listed 25 = .ok (.istore 5, 2) := by decide +kernel
theorem dX2_listed_27 : decode cX2_listed 27 = .ok (.iload 5, 2) := by decide +kernel
theorem dX2_listed_29 : decode cX2_listed 29 = .ok (.bipush 36, 2) := by decide +kernel
theorem dX2_listed_31 : decode cX2_listed 31 = .ok (.if_icmp .ge 64, 3) := by decide +kernel
theorem dX2_listed_34 : decode cX2_listed 34 = .ok (.iconst 0, 1) := by decide +kernel
theorem dX2_listed_35 : decode cX2_listed 35 = .ok (.istore 6, 2) := by decide +kernel
theorem dX2_listed_37 : decode cX2_listed 37 = .ok (.aload_n 3, 1) := by decide +kernel
theorem dX2_listed_38 : decode cX2_listed 38 = .ok (.iload 5, 2) := by decide +kernel
theorem dX2_listed_40 : decode cX2_listed 40 = .ok (.invokevirtual 94, 3) := by decide +kernel
theorem dX2_listed_43 : decode cX2_listed 43 = .ok (.iload_n 1, 1) := by decide +kernel
theorem dX2_listed_44 : decode cX2_listed 44 = .ok (.if_icmp .ne 45, 3) := by decide +kernel
theorem dX2_listed_47 : decode cX2_listed 47 = .ok (.iload 6, 2) := by decide +kernel
theorem dX2_listed_49 : decode cX2_listed 49 = .ok (.bipush 36, 2) := by decide +kernel
theorem dX2_listed_51 : decode cX2_listed 51 = .ok (.if_icmp .ge 38, 3) := by decide +kernel
theorem dX2_listed_54 : decode cX2_listed 54 = .ok (.aload_n 3, 1) := by decide +kernel
theorem dX2_listed_55 : decode cX2_listed 55 = .ok (.iload 5, 2) := by decide +kernel
theorem dX2_listed_57 : decode cX2_listed 57 = .ok (.iload 6, 2) := by decide +kernel
theorem dX2_listed_59 : decode cX2_listed 59 = .ok (.invokevirtual 163, 3) := by decide +kernel
theorem dX2_listed_62 : decode cX2_listed 62 = .ok (.ifCond .eq 21, 3) := by decide +kernel
theorem dX2_listed_65 : decode cX2_listed 65 = .ok (.iload 4, 2) := by decide +kernel
theorem dX2_listed_67 : decode cX2_listed 67 = .ok (.iload_n 2, 1) := by decide +kernel
theorem dX2_listed_68 : decode cX2_listed 68 = .ok (.if_icmp .ne 12, 3) := by decide +kernel
theorem dX2_listed_71 : decode cX2_listed 71 = .ok (.bipush 36, 2) := by decide +kernel
theorem dX2_listed_73 : decode cX2_listed 73 = .ok (.iload 5, 2) := by decide +kernel
theorem dX2_listed_75 : decode cX2_listed 75 = .ok (.imul, 1) := by decide +kernel
theorem dX2_listed_76 : decode cX2_listed 76 = .ok (.iload 6, 2) := by decide +kernel
theorem dX2_listed_78 : decode cX2_listed 78 = .ok (.iadd, 1) := by decide +kernel
theorem dX2_listed_79 : decode cX2_listed 79 = .ok (.ireturn, 1) := by decide +kernel
theorem dX2_listed_80 : decode cX2_listed 80 = .ok (.iinc 4 1, 3) := by decide +kernel
theorem dX2_listed_83 : decode cX2_listed 83 = .ok (.iinc 6 1, 3) := by decide +kernel
theorem dX2_listed_86 : decode cX2_listed 86 = .ok (.goto (-49), 3) := by decide +kernel
theorem dX2_listed_89 : decode cX2_listed 89 = .ok (.iinc 5 1, 3) := by decide +kernel
theorem dX2_listed_92 : decode cX2_listed 92 = .ok (.goto (-65), 3) := by decide +kernel
theorem dX2_listed_95 : decode cX2_listed 95 = .ok (.bipush (-4), 2) := by decide +kernel
theorem dX2_listed_97 : decode cX2_listed 97 = .ok (.ireturn, 1) := by decide +kernel
theorem dX2_struck_0 : decode cX2_struck 0 = .ok (.iload_n 1, 1) := by decide +kernel
theorem dX2_struck_1 : decode cX2_struck 1 = .ok (.invokestatic 70, 3) := by decide +kernel
theorem dX2_struck_4 : decode cX2_struck 4 = .ok (.ifCond .eq 10, 3) := by decide +kernel
theorem dX2_struck_7 : decode cX2_struck 7 = .ok (.iload_n 2, 1) := by decide +kernel
theorem dX2_struck_8 : decode cX2_struck 8 = .ok (.invokestatic 62, 3) := by decide +kernel
theorem dX2_struck_11 : decode cX2_struck 11 = .ok (.ifCond .ne 5, 3) := by decide +kernel
theorem dX2_struck_14 : decode cX2_struck 14 = .ok (.iconst (-1), 1) := by decide +kernel
theorem dX2_struck_15 : decode cX2_struck 15 = .ok (.ireturn, 1) := by decide +kernel
theorem dX2_struck_16 : decode cX2_struck 16 = .ok (.aload_n 0, 1) := by decide +kernel
theorem dX2_struck_17 : decode cX2_struck 17 = .ok (.getfield 16, 3) := by decide +kernel
theorem dX2_struck_20 : decode cX2_struck 20 = .ok (.getfield 40, 3) := by decide +kernel
theorem dX2_struck_23 : decode cX2_struck 23 = .ok (.astore_n 3, 1) := by decide +kernel
theorem dX2_struck_24 : decode cX2_struck 24 = .ok (.aload_n 3, 1) := by decide +kernel
theorem dX2_struck_25 : decode cX2_struck 25 = .ok (.aload_n 0, 1) := by decide +kernel
theorem dX2_struck_26 : decode cX2_struck 26 = .ok (.getfield 10, 3) := by decide +kernel
theorem dX2_struck_29 : decode cX2_struck 29 = .ok (.getfield 40, 3) := by decide +kernel
theorem dX2_struck_32 : decode cX2_struck 32 = .ok (.invokevirtual 166, 3) := by decide +kernel
theorem dX2_struck_35 : decode cX2_struck 35 = .ok (.aload_n 3, 1) := by decide +kernel
theorem dX2_struck_36 : decode cX2_struck 36 = .ok (.iload_n 1, 1) := by decide +kernel
theorem dX2_struck_37 : decode cX2_struck 37 = .ok (.iconst 1, 1) := by decide +kernel
theorem dX2_struck_38 : decode cX2_struck 38 = .ok (.iload_n 2, 1) := by decide +kernel
theorem dX2_struck_39 : decode cX2_struck 39 = .ok (.isub, 1) := by decide +kernel
theorem dX2_struck_40 : decode cX2_struck 40 = .ok (.iconst 4, 1) := by decide +kernel
theorem dX2_struck_41 : decode cX2_struck 41 = .ok (.iconst 0, 1) := by decide +kernel
theorem dX2_struck_42 : decode cX2_struck 42 = .ok (.invokevirtual 169, 3) := by decide +kernel
theorem dX2_struck_45 : decode cX2_struck 45 = .ok (.iconst 0, 1) := by decide +kernel
theorem dX2_struck_46 : decode cX2_struck 46 = .ok (.istore 4, 2) := by decide +kernel
theorem dX2_struck_48 : decode cX2_struck 48 = .ok (.iconst 0, 1) := by decide +kernel
theorem dX2_struck_49 : decode cX2_struck 49 = .ok (.istore 5, 2) := by decide +kernel
theorem dX2_struck_51 : decode cX2_struck 51 = .ok (.iload 5, 2) := by decide +kernel
theorem dX2_struck_53 : decode cX2_struck 53 = .ok (.bipush 36, 2) := by decide +kernel
theorem dX2_struck_55 : decode cX2_struck 55 = .ok (.if_icmp .ge 32, 3) := by decide +kernel
theorem dX2_struck_58 : decode cX2_struck 58 = .ok (.aload_n 3, 1) := by decide +kernel
theorem dX2_struck_59 : decode cX2_struck 59 = .ok (.iload 5, 2) := by decide +kernel
theorem dX2_struck_61 : decode cX2_struck 61 = .ok (.invokevirtual 94, 3) := by decide +kernel
theorem dX2_struck_64 : decode cX2_struck 64 = .ok (.iload_n 2, 1) := by decide +kernel
theorem dX2_struck_65 : decode cX2_struck 65 = .ok (.if_icmp .ne 16, 3) := by decide +kernel
theorem dX2_struck_68 : decode cX2_struck 68 = .ok (.aload_n 3, 1) := by decide +kernel
theorem dX2_struck_69 : decode cX2_struck 69 = .ok (.iload 5, 2) := by decide +kernel
theorem dX2_struck_71 : decode cX2_struck 71 = .ok (.iload_n 1, 1) := by decide +kernel
theorem dX2_struck_72 : decode cX2_struck 72 = .ok (.invokevirtual 163, 3) := by decide +kernel
theorem dX2_struck_75 : decode cX2_struck 75 = .ok (.ifCond .eq 6, 3) := by decide +kernel
theorem dX2_struck_78 : decode cX2_struck 78 = .ok (.iinc 4 1, 3) := by decide +kernel
theorem dX2_struck_81 : decode cX2_struck 81 = .ok (.iinc 5 1, 3) := by decide +kernel
theorem dX2_struck_84 : decode cX2_struck 84 = .ok (.goto (-33), 3) := by decide +kernel
theorem dX2_struck_87 : decode cX2_struck 87 = .ok (.iload 4, 2) := by decide +kernel
theorem dX2_struck_89 : decode cX2_struck 89 = .ok (.ireturn, 1) := by decide +kernel
theorem dX2_reach_0 : decode cX2_reach 0 = .ok (.iload_n 1, 1) := by decide +kernel
theorem dX2_reach_1 : decode cX2_reach 1 = .ok (.invokestatic 70, 3) := by decide +kernel
theorem dX2_reach_4 : decode cX2_reach 4 = .ok (.ifCond .eq 13, 3) := by decide +kernel
theorem dX2_reach_7 : decode cX2_reach 7 = .ok (.iload_n 2, 1) := by decide +kernel
theorem dX2_reach_8 : decode cX2_reach 8 = .ok (.ifCond .lt 9, 3) := by decide +kernel
theorem dX2_reach_11 : decode cX2_reach 11 = .ok (.iload_n 2, 1) := by decide +kernel
theorem dX2_reach_12 : decode cX2_reach 12 = .ok (.bipush 12, 2) := by decide +kernel
theorem dX2_reach_14 : decode cX2_reach 14 = .ok (.if_icmp .le 5, 3) := by decide +kernel
theorem dX2_reach_17 : decode cX2_reach 17 = .ok (.iconst (-1), 1) := by decide +kernel
theorem dX2_reach_18 : decode cX2_reach 18 = .ok (.ireturn, 1) := by decide +kernel
theorem dX2_reach_19 : decode cX2_reach 19 = .ok (.aload_n 0, 1) := by decide +kernel
theorem dX2_reach_20 : decode cX2_reach 20 = .ok (.getfield 10, 3) := by decide +kernel
theorem dX2_reach_23 : decode cX2_reach 23 = .ok (.getfield 40, 3) := by decide +kernel
theorem dX2_reach_26 : decode cX2_reach 26 = .ok (.iload_n 1, 1) := by decide +kernel
theorem dX2_reach_27 : decode cX2_reach 27 = .ok (.invokevirtual 77, 3) := by decide +kernel
theorem dX2_reach_30 : decode cX2_reach 30 = .ok (.ifCond .ne 6, 3) := by decide +kernel
theorem dX2_reach_33 : decode cX2_reach 33 = .ok (.bipush (-4), 2) := by decide +kernel
theorem dX2_reach_35 : decode cX2_reach 35 = .ok (.ireturn, 1) := by decide +kernel
theorem dX2_reach_36 : decode cX2_reach 36 = .ok (.aload_n 0, 1) := by decide +kernel
theorem dX2_reach_37 : decode cX2_reach 37 = .ok (.getfield 10, 3) := by decide +kernel
theorem dX2_reach_40 : decode cX2_reach 40 = .ok (.getfield 40, 3) := by decide +kernel
theorem dX2_reach_43 : decode cX2_reach 43 = .ok (.iload_n 1, 1) := by decide +kernel
theorem dX2_reach_44 : decode cX2_reach 44 = .ok (.invokevirtual 94, 3) := by decide +kernel
theorem dX2_reach_47 : decode cX2_reach 47 = .ok (.istore_n 3, 1) := by decide +kernel
theorem dX2_reach_48 : decode cX2_reach 48 = .ok (.aload_n 0, 1) := by decide +kernel
theorem dX2_reach_49 : decode cX2_reach 49 = .ok (.getfield 10, 3) := by decide +kernel
theorem dX2_reach_52 : decode cX2_reach 52 = .ok (.getfield 40, 3) := by decide +kernel
theorem dX2_reach_55 : decode cX2_reach 55 = .ok (.iload_n 1, 1) := by decide +kernel
theorem dX2_reach_56 : decode cX2_reach 56 = .ok (.invokevirtual 97, 3) := by decide +kernel
theorem dX2_reach_59 : decode cX2_reach 59 = .ok (.istore 4, 2) := by decide +kernel
theorem dX2_reach_61 : decode cX2_reach 61 = .ok (.aload_n 0, 1) := by decide +kernel
theorem dX2_reach_62 : decode cX2_reach 62 = .ok (.getfield 16, 3) := by decide +kernel
theorem dX2_reach_65 : decode cX2_reach 65 = .ok (.getfield 40, 3) := by decide +kernel
theorem dX2_reach_68 : decode cX2_reach 68 = .ok (.aload_n 0, 1) := by decide +kernel
theorem dX2_reach_69 : decode cX2_reach 69 = .ok (.getfield 10, 3) := by decide +kernel
theorem dX2_reach_72 : decode cX2_reach 72 = .ok (.getfield 40, 3) := by decide +kernel
theorem dX2_reach_75 : decode cX2_reach 75 = .ok (.invokevirtual 166, 3) := by decide +kernel
theorem dX2_reach_78 : decode cX2_reach 78 = .ok (.aload_n 0, 1) := by decide +kernel
theorem dX2_reach_79 : decode cX2_reach 79 = .ok (.getfield 16, 3) := by decide +kernel
theorem dX2_reach_82 : decode cX2_reach 82 = .ok (.getfield 40, 3) := by decide +kernel
theorem dX2_reach_85 : decode cX2_reach 85 = .ok (.iload_n 1, 1) := by decide +kernel
theorem dX2_reach_86 : decode cX2_reach 86 = .ok (.invokevirtual 172, 3) := by decide +kernel
theorem dX2_reach_89 : decode cX2_reach 89 = .ok (.iconst 0, 1) := by decide +kernel
theorem dX2_reach_90 : decode cX2_reach 90 = .ok (.istore 5, 2) := by decide +kernel
theorem dX2_reach_92 : decode cX2_reach 92 = .ok (.iload 5, 2) := by decide +kernel
theorem dX2_reach_94 : decode cX2_reach 94 = .ok (.bipush 36, 2) := by decide +kernel
theorem dX2_reach_96 : decode cX2_reach 96 = .ok (.if_icmp .ge 37, 3) := by decide +kernel
theorem dX2_reach_99 : decode cX2_reach 99 = .ok (.aload_n 0, 1) := by decide +kernel
theorem dX2_reach_100 : decode cX2_reach 100 = .ok (.getfield 27, 3) := by decide +kernel
theorem dX2_reach_103 : decode cX2_reach 103 = .ok (.iload 5, 2) := by decide +kernel
theorem dX2_reach_105 : decode cX2_reach 105 = .ok (.iload 5, 2) := by decide +kernel
theorem dX2_reach_107 : decode cX2_reach 107 = .ok (.iload_n 1, 1) := by decide +kernel
theorem dX2_reach_108 : decode cX2_reach 108 = .ok (.if_icmp .ne 17, 3) := by decide +kernel
theorem dX2_reach_111 : decode cX2_reach 111 = .ok (.aload_n 0, 1) := by decide +kernel
theorem dX2_reach_112 : decode cX2_reach 112 = .ok (.getfield 10, 3) := by decide +kernel
theorem dX2_reach_115 : decode cX2_reach 115 = .ok (.getfield 40, 3) := by decide +kernel
theorem dX2_reach_118 : decode cX2_reach 118 = .ok (.iload_n 1, 1) := by decide +kernel
theorem dX2_reach_119 : decode cX2_reach 119 = .ok (.invokevirtual 100, 3) := by decide +kernel
theorem dX2_reach_122 : decode cX2_reach 122 = .ok (.goto 4, 3) := by decide +kernel
theorem dX2_reach_125 : decode cX2_reach 125 = .ok (.iconst (-1), 1) := by decide +kernel
theorem dX2_reach_126 : decode cX2_reach 126 = .ok (.iastore, 1) := by decide +kernel
theorem dX2_reach_127 : decode cX2_reach 127 = .ok (.iinc 5 1, 3) := by decide +kernel
theorem dX2_reach_130 : decode cX2_reach 130 = .ok (.goto (-38), 3) := by decide +kernel
theorem dX2_reach_133 : decode cX2_reach 133 = .ok (.iconst 0, 1) := by decide +kernel
theorem dX2_reach_134 : decode cX2_reach 134 = .ok (.istore 5, 2) := by decide +kernel
theorem dX2_reach_136 : decode cX2_reach 136 = .ok (.iload 5, 2) := by decide +kernel
theorem dX2_reach_138 : decode cX2_reach 138 = .ok (.iload_n 2, 1) := by decide +kernel
theorem dX2_reach_139 : decode cX2_reach 139 = .ok (.if_icmp .ge 16, 3) := by decide +kernel
theorem dX2_reach_142 : decode cX2_reach 142 = .ok (.aload_n 0, 1) := by decide +kernel
theorem dX2_reach_143 : decode cX2_reach 143 = .ok (.iload_n 3, 1) := by decide +kernel
theorem dX2_reach_144 : decode cX2_reach 144 = .ok (.iload 4, 2) := by decide +kernel
theorem dX2_reach_146 : decode cX2_reach 146 = .ok (.invokevirtual 176, 3) := by decide +kernel
theorem dX2_reach_149 : decode cX2_reach 149 = .ok (.iinc 5 1, 3) := by decide +kernel
theorem dX2_reach_152 : decode cX2_reach 152 = .ok (.goto (-16), 3) := by decide +kernel
theorem dX2_reach_155 : decode cX2_reach 155 = .ok (.aload_n 0, 1) := by decide +kernel
theorem dX2_reach_156 : decode cX2_reach 156 = .ok (.invokevirtual 179, 3) := by decide +kernel
theorem dX2_reach_159 : decode cX2_reach 159 = .ok (.ireturn, 1) := by decide +kernel
theorem dX2_replies_0 : decode cX2_replies 0 = .ok (.iconst 0, 1) := by decide +kernel
theorem dX2_replies_1 : decode cX2_replies 1 = .ok (.istore_n 1, 1) := by decide +kernel
theorem dX2_replies_2 : decode cX2_replies 2 = .ok (.iconst 0, 1) := by decide +kernel
theorem dX2_replies_3 : decode cX2_replies 3 = .ok (.istore_n 2, 1) := by decide +kernel
theorem dX2_replies_4 : decode cX2_replies 4 = .ok (.iload_n 2, 1) := by decide +kernel
theorem dX2_replies_5 : decode cX2_replies 5 = .ok (.bipush 36, 2) := by decide +kernel
theorem dX2_replies_7 : decode cX2_replies 7 = .ok (.if_icmp .ge 44, 3) := by decide +kernel
theorem dX2_replies_10 : decode cX2_replies 10 = .ok (.iconst 0, 1) := by decide +kernel
theorem dX2_replies_11 : decode cX2_replies 11 = .ok (.istore_n 3, 1) := by decide +kernel
theorem dX2_replies_12 : decode cX2_replies 12 = .ok (.iload_n 3, 1) := by decide +kernel
theorem dX2_replies_13 : decode cX2_replies 13 = .ok (.bipush 36, 2) := by decide +kernel
theorem dX2_replies_15 : decode cX2_replies 15 = .ok (.if_icmp .ge 30, 3) := by decide +kernel
theorem dX2_replies_18 : decode cX2_replies 18 = .ok (.aload_n 0, 1) := by decide +kernel
theorem dX2_replies_19 : decode cX2_replies 19 = .ok (.getfield 10, 3) := by decide +kernel
theorem dX2_replies_22 : decode cX2_replies 22 = .ok (.iload_n 2, 1) := by decide +kernel
theorem dX2_replies_23 : decode cX2_replies 23 = .ok (.iload_n 3, 1) := by decide +kernel
theorem dX2_replies_24 : decode cX2_replies 24 = .ok (.invokevirtual 144, 3) := by decide +kernel
theorem dX2_replies_27 : decode cX2_replies 27 = .ok (.ifCond .ne 12, 3) := by decide +kernel
theorem dX2_replies_30 : decode cX2_replies 30 = .ok (.iload_n 1, 1) := by decide +kernel
theorem dX2_replies_31 : decode cX2_replies 31 = .ok (.aload_n 0, 1) := by decide +kernel
theorem dX2_replies_32 : decode cX2_replies 32 = .ok (.iload_n 2, 1) := by decide +kernel
theorem dX2_replies_33 : decode cX2_replies 33 = .ok (.iload_n 3, 1) := by decide +kernel
theorem dX2_replies_34 : decode cX2_replies 34 = .ok (.invokevirtual 182, 3) := by decide +kernel
theorem dX2_replies_37 : decode cX2_replies 37 = .ok (.iadd, 1) := by decide +kernel
theorem dX2_replies_38 : decode cX2_replies 38 = .ok (.istore_n 1, 1) := by decide +kernel
theorem dX2_replies_39 : decode cX2_replies 39 = .ok (.iinc 3 1, 3) := by decide +kernel
theorem dX2_replies_42 : decode cX2_replies 42 = .ok (.goto (-30), 3) := by decide +kernel
theorem dX2_replies_45 : decode cX2_replies 45 = .ok (.iinc 2 1, 3) := by decide +kernel
theorem dX2_replies_48 : decode cX2_replies 48 = .ok (.goto (-44), 3) := by decide +kernel
theorem dX2_replies_51 : decode cX2_replies 51 = .ok (.iload_n 1, 1) := by decide +kernel
theorem dX2_replies_52 : decode cX2_replies 52 = .ok (.ireturn, 1) := by decide +kernel
theorem dX2_best_0 : decode cX2_best 0 = .ok (.bipush (-4), 2) := by decide +kernel
theorem dX2_best_2 : decode cX2_best 2 = .ok (.istore_n 1, 1) := by decide +kernel
theorem dX2_best_3 : decode cX2_best 3 = .ok (.iconst 0, 1) := by decide +kernel
theorem dX2_best_4 : decode cX2_best 4 = .ok (.istore_n 2, 1) := by decide +kernel
theorem dX2_best_5 : decode cX2_best 5 = .ok (.iconst 0, 1) := by decide +kernel
theorem dX2_best_6 : decode cX2_best 6 = .ok (.istore_n 3, 1) := by decide +kernel
theorem dX2_best_7 : decode cX2_best 7 = .ok (.iload_n 3, 1) := by decide +kernel
theorem dX2_best_8 : decode cX2_best 8 = .ok (.bipush 36, 2) := by decide +kernel
theorem dX2_best_10 : decode cX2_best 10 = .ok (.if_icmp .ge 70, 3) := by decide +kernel
theorem dX2_best_13 : decode cX2_best 13 = .ok (.iconst 0, 1) := by decide +kernel
theorem dX2_best_14 : decode cX2_best 14 = .ok (.istore 4, 2) := by decide +kernel
theorem dX2_best_16 : decode cX2_best 16 = .ok (.iload 4, 2) := by decide +kernel
theorem dX2_best_18 : decode cX2_best 18 = .ok (.bipush 36, 2) := by decide +kernel
theorem dX2_best_20 : decode cX2_best 20 = .ok (.if_icmp .ge 54, 3) := by decide +kernel
theorem dX2_best_23 : decode cX2_best 23 = .ok (.aload_n 0, 1) := by decide +kernel
theorem dX2_best_24 : decode cX2_best 24 = .ok (.getfield 10, 3) := by decide +kernel
theorem dX2_best_27 : decode cX2_best 27 = .ok (.iload_n 3, 1) := by decide +kernel
theorem dX2_best_28 : decode cX2_best 28 = .ok (.iload 4, 2) := by decide +kernel
theorem dX2_best_30 : decode cX2_best 30 = .ok (.invokevirtual 144, 3) := by decide +kernel
theorem dX2_best_33 : decode cX2_best 33 = .ok (.ifCond .ne 35, 3) := by decide +kernel
theorem dX2_best_36 : decode cX2_best 36 = .ok (.aload_n 0, 1) := by decide +kernel
theorem dX2_best_37 : decode cX2_best 37 = .ok (.iload_n 3, 1) := by decide +kernel
theorem dX2_best_38 : decode cX2_best 38 = .ok (.iload 4, 2) := by decide +kernel
theorem dX2_best_40 : decode cX2_best 40 = .ok (.invokevirtual 185, 3) := by decide +kernel
theorem dX2_best_43 : decode cX2_best 43 = .ok (.istore 5, 2) := by decide +kernel
theorem dX2_best_45 : decode cX2_best 45 = .ok (.iload_n 1, 1) := by decide +kernel
theorem dX2_best_46 : decode cX2_best 46 = .ok (.bipush (-4), 2) := by decide +kernel
theorem dX2_best_48 : decode cX2_best 48 = .ok (.if_icmp .eq 9, 3) := by decide +kernel
theorem dX2_best_51 : decode cX2_best 51 = .ok (.iload 5, 2) := by decide +kernel
theorem dX2_best_53 : decode cX2_best 53 = .ok (.iload_n 2, 1) := by decide +kernel
theorem dX2_best_54 : decode cX2_best 54 = .ok (.if_icmp .le 14, 3) := by decide +kernel
theorem dX2_best_57 : decode cX2_best 57 = .ok (.bipush 36, 2) := by decide +kernel
theorem dX2_best_59 : decode cX2_best 59 = .ok (.iload_n 3, 1) := by decide +kernel
theorem dX2_best_60 : decode cX2_best 60 = .ok (.imul, 1) := by decide +kernel
theorem dX2_best_61 : decode cX2_best 61 = .ok (.iload 4, 2) := by decide +kernel
theorem dX2_best_63 : decode cX2_best 63 = .ok (.iadd, 1) := by decide +kernel
theorem dX2_best_64 : decode cX2_best 64 = .ok (.istore_n 1, 1) := by decide +kernel
theorem dX2_best_65 : decode cX2_best 65 = .ok (.iload 5, 2) := by decide +kernel
theorem dX2_best_67 : decode cX2_best 67 = .ok (.istore_n 2, 1) := by decide +kernel
theorem dX2_best_68 : decode cX2_best 68 = .ok (.iinc 4 1, 3) := by decide +kernel
theorem dX2_best_71 : decode cX2_best 71 = .ok (.goto (-55), 3) := by decide +kernel
theorem dX2_best_74 : decode cX2_best 74 = .ok (.iinc 3 1, 3) := by decide +kernel
theorem dX2_best_77 : decode cX2_best 77 = .ok (.goto (-70), 3) := by decide +kernel
theorem dX2_best_80 : decode cX2_best 80 = .ok (.iload_n 1, 1) := by decide +kernel
theorem dX2_best_81 : decode cX2_best 81 = .ok (.ireturn, 1) := by decide +kernel
theorem dX2_type_0 : decode cX2_type 0 = .ok (.iload_n 1, 1) := by decide +kernel
theorem dX2_type_1 : decode cX2_type 1 = .ok (.bipush 32, 2) := by decide +kernel
theorem dX2_type_3 : decode cX2_type 3 = .ok (.if_icmp .lt 9, 3) := by decide +kernel
theorem dX2_type_6 : decode cX2_type 6 = .ok (.iload_n 1, 1) := by decide +kernel
theorem dX2_type_7 : decode cX2_type 7 = .ok (.bipush 126, 2) := by decide +kernel
theorem dX2_type_9 : decode cX2_type 9 = .ok (.if_icmp .le 5, 3) := by decide +kernel
theorem dX2_type_12 : decode cX2_type 12 = .ok (.iconst (-1), 1) := by decide +kernel
theorem dX2_type_13 : decode cX2_type 13 = .ok (.ireturn, 1) := by decide +kernel
theorem dX2_type_14 : decode cX2_type 14 = .ok (.aload_n 0, 1) := by decide +kernel
theorem dX2_type_15 : decode cX2_type 15 = .ok (.getfield 127, 3) := by decide +kernel
theorem dX2_type_18 : decode cX2_type 18 = .ok (.ifCond .lt 15, 3) := by decide +kernel
theorem dX2_type_21 : decode cX2_type 21 = .ok (.aload_n 0, 1) := by decide +kernel
theorem dX2_type_22 : decode cX2_type 22 = .ok (.getfield 127, 3) := by decide +kernel
theorem dX2_type_25 : decode cX2_type 25 = .ok (.aload_n 0, 1) := by decide +kernel
theorem dX2_type_26 : decode cX2_type 26 = .ok (.getfield 23, 3) := by decide +kernel
theorem dX2_type_29 : decode cX2_type 29 = .ok (.arraylength, 1) := by decide +kernel
theorem dX2_type_30 : decode cX2_type 30 = .ok (.if_icmp .lt 6, 3) := by decide +kernel
theorem dX2_type_33 : decode cX2_type 33 = .ok (.bipush (-3), 2) := by decide +kernel
theorem dX2_type_35 : decode cX2_type 35 = .ok (.ireturn, 1) := by decide +kernel
theorem dX2_type_36 : decode cX2_type 36 = .ok (.aload_n 0, 1) := by decide +kernel
theorem dX2_type_37 : decode cX2_type 37 = .ok (.getfield 23, 3) := by decide +kernel
theorem dX2_type_40 : decode cX2_type 40 = .ok (.aload_n 0, 1) := by decide +kernel
theorem dX2_type_41 : decode cX2_type 41 = .ok (.getfield 127, 3) := by decide +kernel
theorem dX2_type_44 : decode cX2_type 44 = .ok (.iload_n 1, 1) := by decide +kernel
theorem dX2_type_45 : decode cX2_type 45 = .ok (.i2c, 1) := by decide +kernel
theorem dX2_type_46 : decode cX2_type 46 = .ok (.castore, 1) := by decide +kernel
theorem dX2_type_47 : decode cX2_type 47 = .ok (.aload_n 0, 1) := by decide +kernel
theorem dX2_type_48 : decode cX2_type 48 = .ok (.dup, 1) := by decide +kernel
theorem dX2_type_49 : decode cX2_type 49 = .ok (.getfield 127, 3) := by decide +kernel
theorem dX2_type_52 : decode cX2_type 52 = .ok (.iconst 1, 1) := by decide +kernel
theorem dX2_type_53 : decode cX2_type 53 = .ok (.iadd, 1) := by decide +kernel
theorem dX2_type_54 : decode cX2_type 54 = .ok (.putfield 127, 3) := by decide +kernel
theorem dX2_type_57 : decode cX2_type 57 = .ok (.aload_n 0, 1) := by decide +kernel
theorem dX2_type_58 : decode cX2_type 58 = .ok (.getfield 127, 3) := by decide +kernel
theorem dX2_type_61 : decode cX2_type 61 = .ok (.ireturn, 1) := by decide +kernel
theorem dX2_clearText_0 : decode cX2_clearText 0 = .ok (.aload_n 0, 1) := by decide +kernel
theorem dX2_clearText_1 : decode cX2_clearText 1 = .ok (.getfield 127, 3) := by decide +kernel
theorem dX2_clearText_4 : decode cX2_clearText 4 = .ok (.istore_n 1, 1) := by decide +kernel
theorem dX2_clearText_5 : decode cX2_clearText 5 = .ok (.aload_n 0, 1) := by decide +kernel
theorem dX2_clearText_6 : decode cX2_clearText 6 = .ok (.iconst 0, 1) := by decide +kernel
theorem dX2_clearText_7 : decode cX2_clearText 7 = .ok (.putfield 127, 3) := by decide +kernel
theorem dX2_clearText_10 : decode cX2_clearText 10 = .ok (.iload_n 1, 1) := by decide +kernel
theorem dX2_clearText_11 : decode cX2_clearText 11 = .ok (.ireturn, 1) := by decide +kernel
theorem dX2_fault_0 : decode cX2_fault 0 = .ok (.iload_n 1, 1) := by decide +kernel
theorem dX2_fault_1 : decode cX2_fault 1 = .ok (.ifCond .eq 10, 3) := by decide +kernel
theorem dX2_fault_4 : decode cX2_fault 4 = .ok (.iload_n 1, 1) := by decide +kernel
theorem dX2_fault_5 : decode cX2_fault 5 = .ok (.iconst 1, 1) := by decide +kernel
theorem dX2_fault_6 : decode cX2_fault 6 = .ok (.if_icmp .eq 5, 3) := by decide +kernel
theorem dX2_fault_9 : decode cX2_fault 9 = .ok (.iconst (-1), 1) := by decide +kernel
theorem dX2_fault_10 : decode cX2_fault 10 = .ok (.ireturn, 1) := by decide +kernel
theorem dX2_fault_11 : decode cX2_fault 11 = .ok (.aload_n 0, 1) := by decide +kernel
theorem dX2_fault_12 : decode cX2_fault 12 = .ok (.invokevirtual 188, 3) := by decide +kernel
theorem dX2_fault_15 : decode cX2_fault 15 = .ok (.istore_n 2, 1) := by decide +kernel
theorem dX2_fault_16 : decode cX2_fault 16 = .ok (.iload_n 2, 1) := by decide +kernel
theorem dX2_fault_17 : decode cX2_fault 17 = .ok (.iconst (-1), 1) := by decide +kernel
theorem dX2_fault_18 : decode cX2_fault 18 = .ok (.if_icmp .ne 6, 3) := by decide +kernel
theorem dX2_fault_21 : decode cX2_fault 21 = .ok (.bipush (-4), 2) := by decide +kernel
theorem dX2_fault_23 : decode cX2_fault 23 = .ok (.ireturn, 1) := by decide +kernel
theorem dX2_fault_24 : decode cX2_fault 24 = .ok (.iload_n 1, 1) := by decide +kernel
theorem dX2_fault_25 : decode cX2_fault 25 = .ok (.ifCond .ne 10, 3) := by decide +kernel
theorem dX2_fault_28 : decode cX2_fault 28 = .ok (.iload_n 2, 1) := by decide +kernel
theorem dX2_fault_29 : decode cX2_fault 29 = .ok (.bipush 16, 2) := by decide +kernel
theorem dX2_fault_31 : decode cX2_fault 31 = .ok (.idiv, 1) := by decide +kernel
theorem dX2_fault_32 : decode cX2_fault 32 = .ok (.goto 7, 3) := by decide +kernel
theorem dX2_fault_35 : decode cX2_fault 35 = .ok (.iload_n 2, 1) := by decide +kernel
theorem dX2_fault_36 : decode cX2_fault 36 = .ok (.bipush 16, 2) := by decide +kernel
theorem dX2_fault_38 : decode cX2_fault 38 = .ok (.irem, 1) := by decide +kernel
theorem dX2_fault_39 : decode cX2_fault 39 = .ok (.ireturn, 1) := by decide +kernel
theorem dX2_play_0 : decode cX2_play 0 = .ok (.aload_n 0, 1) := by decide +kernel
theorem dX2_play_1 : decode cX2_play 1 = .ok (.invokevirtual 188, 3) := by decide +kernel
theorem dX2_play_4 : decode cX2_play 4 = .ok (.iconst (-1), 1) := by decide +kernel
theorem dX2_play_5 : decode cX2_play 5 = .ok (.if_icmp .eq 6, 3) := by decide +kernel
theorem dX2_play_8 : decode cX2_play 8 = .ok (.bipush (-2), 2) := by decide +kernel
theorem dX2_play_10 : decode cX2_play 10 = .ok (.ireturn, 1) := by decide +kernel
theorem dX2_play_11 : decode cX2_play 11 = .ok (.aload_n 0, 1) := by decide +kernel
theorem dX2_play_12 : decode cX2_play 12 = .ok (.invokevirtual 37, 3) := by decide +kernel
theorem dX2_play_15 : decode cX2_play 15 = .ok (.aload_n 0, 1) := by decide +kernel
theorem dX2_play_16 : decode cX2_play 16 = .ok (.getfield 10, 3) := by decide +kernel
theorem dX2_play_19 : decode cX2_play 19 = .ok (.aload_n 0, 1) := by decide +kernel
theorem dX2_play_20 : decode cX2_play 20 = .ok (.getfield 16, 3) := by decide +kernel
theorem dX2_play_23 : decode cX2_play 23 = .ok (.invokevirtual 140, 3) := by decide +kernel
theorem dX2_play_26 : decode cX2_play 26 = .ok (.aload_n 0, 1) := by decide +kernel
theorem dX2_play_27 : decode cX2_play 27 = .ok (.invokevirtual 191, 3) := by decide +kernel
theorem dX2_play_30 : decode cX2_play 30 = .ok (.ireturn, 1) := by decide +kernel
theorem dX2_isCell_0 : decode cX2_isCell 0 = .ok (.iload_n 0, 1) := by decide +kernel
theorem dX2_isCell_1 : decode cX2_isCell 1 = .ok (.ifCond .lt 13, 3) := by decide +kernel
theorem dX2_isCell_4 : decode cX2_isCell 4 = .ok (.iload_n 0, 1) := by decide +kernel
theorem dX2_isCell_5 : decode cX2_isCell 5 = .ok (.bipush 36, 2) := by decide +kernel
theorem dX2_isCell_7 : decode cX2_isCell 7 = .ok (.if_icmp .ge 7, 3) := by decide +kernel
theorem dX2_isCell_10 : decode cX2_isCell 10 = .ok (.iconst 1, 1) := by decide +kernel
theorem dX2_isCell_11 : decode cX2_isCell 11 = .ok (.goto 4, 3) := by decide +kernel
theorem dX2_isCell_14 : decode cX2_isCell 14 = .ok (.iconst 0, 1) := by decide +kernel
theorem dX2_isCell_15 : decode cX2_isCell 15 = .ok (.ireturn, 1) := by decide +kernel
theorem dX2_isSide_0 : decode cX2_isSide 0 = .ok (.iload_n 0, 1) := by decide +kernel
theorem dX2_isSide_1 : decode cX2_isSide 1 = .ok (.ifCond .eq 8, 3) := by decide +kernel
theorem dX2_isSide_4 : decode cX2_isSide 4 = .ok (.iload_n 0, 1) := by decide +kernel
theorem dX2_isSide_5 : decode cX2_isSide 5 = .ok (.iconst 1, 1) := by decide +kernel
theorem dX2_isSide_6 : decode cX2_isSide 6 = .ok (.if_icmp .ne 7, 3) := by decide +kernel
theorem dX2_isSide_9 : decode cX2_isSide 9 = .ok (.iconst 1, 1) := by decide +kernel
theorem dX2_isSide_10 : decode cX2_isSide 10 = .ok (.goto 4, 3) := by decide +kernel
theorem dX2_isSide_13 : decode cX2_isSide 13 = .ok (.iconst 0, 1) := by decide +kernel
theorem dX2_isSide_14 : decode cX2_isSide 14 = .ok (.ireturn, 1) := by decide +kernel
theorem dX2_isAccount_0 : decode cX2_isAccount 0 = .ok (.iload_n 0, 1) := by decide +kernel
theorem dX2_isAccount_1 : decode cX2_isAccount 1 = .ok (.ifCond .lt 13, 3) := by decide +kernel
theorem dX2_isAccount_4 : decode cX2_isAccount 4 = .ok (.iload_n 0, 1) := by decide +kernel
theorem dX2_isAccount_5 : decode cX2_isAccount 5 = .ok (.bipush 6, 2) := by decide +kernel
theorem dX2_isAccount_7 : decode cX2_isAccount 7 = .ok (.if_icmp .gt 7, 3) := by decide +kernel
theorem dX2_isAccount_10 : decode cX2_isAccount 10 = .ok (.iconst 1, 1) := by decide +kernel
theorem dX2_isAccount_11 : decode cX2_isAccount 11 = .ok (.goto 4, 3) := by decide +kernel
theorem dX2_isAccount_14 : decode cX2_isAccount 14 = .ok (.iconst 0, 1) := by decide +kernel
theorem dX2_isAccount_15 : decode cX2_isAccount 15 = .ok (.ireturn, 1) := by decide +kernel
theorem dX2_isSetting_0 : decode cX2_isSetting 0 = .ok (.iload_n 0, 1) := by decide +kernel
theorem dX2_isSetting_1 : decode cX2_isSetting 1 = .ok (.ifCond .ne 20, 3) := by decide +kernel
theorem dX2_isSetting_4 : decode cX2_isSetting 4 = .ok (.iload_n 1, 1) := by decide +kernel
theorem dX2_isSetting_5 : decode cX2_isSetting 5 = .ok (.iconst 1, 1) := by decide +kernel
theorem dX2_isSetting_6 : decode cX2_isSetting 6 = .ok (.if_icmp .lt 13, 3) := by decide +kernel
theorem dX2_isSetting_9 : decode cX2_isSetting 9 = .ok (.iload_n 1, 1) := by decide +kernel
theorem dX2_isSetting_10 : decode cX2_isSetting 10 = .ok (.bipush 12, 2) := by decide +kernel
theorem dX2_isSetting_12 : decode cX2_isSetting 12 = .ok (.if_icmp .gt 7, 3) := by decide +kernel
theorem dX2_isSetting_15 : decode cX2_isSetting 15 = .ok (.iconst 1, 1) := by decide +kernel
theorem dX2_isSetting_16 : decode cX2_isSetting 16 = .ok (.goto 4, 3) := by decide +kernel
theorem dX2_isSetting_19 : decode cX2_isSetting 19 = .ok (.iconst 0, 1) := by decide +kernel
theorem dX2_isSetting_20 : decode cX2_isSetting 20 = .ok (.ireturn, 1) := by decide +kernel
theorem dX2_isSetting_21 : decode cX2_isSetting 21 = .ok (.iload_n 0, 1) := by decide +kernel
theorem dX2_isSetting_22 : decode cX2_isSetting 22 = .ok (.iconst 1, 1) := by decide +kernel
theorem dX2_isSetting_23 : decode cX2_isSetting 23 = .ok (.if_icmp .eq 8, 3) := by decide +kernel
theorem dX2_isSetting_26 : decode cX2_isSetting 26 = .ok (.iload_n 0, 1) := by decide +kernel
theorem dX2_isSetting_27 : decode cX2_isSetting 27 = .ok (.iconst 2, 1) := by decide +kernel
theorem dX2_isSetting_28 : decode cX2_isSetting 28 = .ok (.if_icmp .ne 16, 3) := by decide +kernel
theorem dX2_isSetting_31 : decode cX2_isSetting 31 = .ok (.iload_n 1, 1) := by decide +kernel
theorem dX2_isSetting_32 : decode cX2_isSetting 32 = .ok (.ifCond .lt 12, 3) := by decide +kernel
theorem dX2_isSetting_35 : decode cX2_isSetting 35 = .ok (.iload_n 1, 1) := by decide +kernel
theorem dX2_isSetting_36 : decode cX2_isSetting 36 = .ok (.iconst 5, 1) := by decide +kernel
theorem dX2_isSetting_37 : decode cX2_isSetting 37 = .ok (.if_icmp .gt 7, 3) := by decide +kernel
theorem dX2_isSetting_40 : decode cX2_isSetting 40 = .ok (.iconst 1, 1) := by decide +kernel
theorem dX2_isSetting_41 : decode cX2_isSetting 41 = .ok (.goto 4, 3) := by decide +kernel
theorem dX2_isSetting_44 : decode cX2_isSetting 44 = .ok (.iconst 0, 1) := by decide +kernel
theorem dX2_isSetting_45 : decode cX2_isSetting 45 = .ok (.ireturn, 1) := by decide +kernel
theorem dX2_record_0 : decode cX2_record 0 = .ok (.aload_n 0, 1) := by decide +kernel
theorem dX2_record_1 : decode cX2_record 1 = .ok (.getfield 124, 3) := by decide +kernel
theorem dX2_record_4 : decode cX2_record 4 = .ok (.aload_n 0, 1) := by decide +kernel
theorem dX2_record_5 : decode cX2_record 5 = .ok (.getfield 19, 3) := by decide +kernel
theorem dX2_record_8 : decode cX2_record 8 = .ok (.arraylength, 1) := by decide +kernel
theorem dX2_record_9 : decode cX2_record 9 = .ok (.if_icmp .lt 65, 3) := by decide +kernel
theorem dX2_record_12 : decode cX2_record 12 = .ok (.aload_n 0, 1) := by decide +kernel
theorem dX2_record_13 : decode cX2_record 13 = .ok (.getfield 19, 3) := by decide +kernel
theorem dX2_record_16 : decode cX2_record 16 = .ok (.iconst 0, 1) := by decide +kernel
theorem dX2_record_17 : decode cX2_record 17 = .ok (.aaload, 1) := by decide +kernel
theorem dX2_record_18 : decode cX2_record 18 = .ok (.astore_n 1, 1) := by decide +kernel
theorem dX2_record_19 : decode cX2_record 19 = .ok (.iconst 1, 1) := by decide +kernel
theorem dX2_record_20 : decode cX2_record 20 = .ok (.istore_n 2, 1) := by decide +kernel
theorem dX2_record_21 : decode cX2_record 21 = .ok (.iload_n 2, 1) := by decide +kernel
theorem dX2_record_22 : decode cX2_record 22 = .ok (.aload_n 0, 1) := by decide +kernel
theorem dX2_record_23 : decode cX2_record 23 = .ok (.getfield 19, 3) := by decide +kernel
theorem dX2_record_26 : decode cX2_record 26 = .ok (.arraylength, 1) := by decide +kernel
theorem dX2_record_27 : decode cX2_record 27 = .ok (.if_icmp .ge 23, 3) := by decide +kernel
theorem dX2_record_30 : decode cX2_record 30 = .ok (.aload_n 0, 1) := by decide +kernel
theorem dX2_record_31 : decode cX2_record 31 = .ok (.getfield 19, 3) := by decide +kernel
theorem dX2_record_34 : decode cX2_record 34 = .ok (.iload_n 2, 1) := by decide +kernel
theorem dX2_record_35 : decode cX2_record 35 = .ok (.iconst 1, 1) := by decide +kernel
theorem dX2_record_36 : decode cX2_record 36 = .ok (.isub, 1) := by decide +kernel
theorem dX2_record_37 : decode cX2_record 37 = .ok (.aload_n 0, 1) := by decide +kernel
theorem dX2_record_38 : decode cX2_record 38 = .ok (.getfield 19, 3) := by decide +kernel
theorem dX2_record_41 : decode cX2_record 41 = .ok (.iload_n 2, 1) := by decide +kernel
theorem dX2_record_42 : decode cX2_record 42 = .ok (.aaload, 1) := by decide +kernel
theorem dX2_record_43 : decode cX2_record 43 = .ok (.aastore, 1) := by decide +kernel
theorem dX2_record_44 : decode cX2_record 44 = .ok (.iinc 2 1, 3) := by decide +kernel
theorem dX2_record_47 : decode cX2_record 47 = .ok (.goto (-26), 3) := by decide +kernel
theorem dX2_record_50 : decode cX2_record 50 = .ok (.aload_n 0, 1) := by decide +kernel
theorem dX2_record_51 : decode cX2_record 51 = .ok (.getfield 19, 3) := by decide +kernel
theorem dX2_record_54 : decode cX2_record 54 = .ok (.aload_n 0, 1) := by decide +kernel
theorem dX2_record_55 : decode cX2_record 55 = .ok (.getfield 19, 3) := by decide +kernel
theorem dX2_record_58 : decode cX2_record 58 = .ok (.arraylength, 1) := by decide +kernel
theorem dX2_record_59 : decode cX2_record 59 = .ok (.iconst 1, 1) := by decide +kernel
theorem dX2_record_60 : decode cX2_record 60 = .ok (.isub, 1) := by decide +kernel
theorem dX2_record_61 : decode cX2_record 61 = .ok (.aload_n 1, 1) := by decide +kernel
theorem dX2_record_62 : decode cX2_record 62 = .ok (.aastore, 1) := by decide +kernel
theorem dX2_record_63 : decode cX2_record 63 = .ok (.aload_n 0, 1) := by decide +kernel
theorem dX2_record_64 : decode cX2_record 64 = .ok (.aload_n 0, 1) := by decide +kernel
theorem dX2_record_65 : decode cX2_record 65 = .ok (.getfield 19, 3) := by decide +kernel
theorem dX2_record_68 : decode cX2_record 68 = .ok (.arraylength, 1) := by decide +kernel
theorem dX2_record_69 : decode cX2_record 69 = .ok (.iconst 1, 1) := by decide +kernel
theorem dX2_record_70 : decode cX2_record 70 = .ok (.isub, 1) := by decide +kernel
theorem dX2_record_71 : decode cX2_record 71 = .ok (.putfield 124, 3) := by decide +kernel
theorem dX2_record_74 : decode cX2_record 74 = .ok (.aload_n 0, 1) := by decide +kernel
theorem dX2_record_75 : decode cX2_record 75 = .ok (.aload_n 0, 1) := by decide +kernel
theorem dX2_record_76 : decode cX2_record 76 = .ok (.getfield 124, 3) := by decide +kernel
theorem dX2_record_79 : decode cX2_record 79 = .ok (.invokevirtual 136, 3) := by decide +kernel
theorem dX2_record_82 : decode cX2_record 82 = .ok (.astore_n 1, 1) := by decide +kernel
theorem dX2_record_83 : decode cX2_record 83 = .ok (.aload_n 1, 1) := by decide +kernel
theorem dX2_record_84 : decode cX2_record 84 = .ok (.ifnull 21, 3) := by decide +kernel
theorem dX2_record_87 : decode cX2_record 87 = .ok (.aload_n 1, 1) := by decide +kernel
theorem dX2_record_88 : decode cX2_record 88 = .ok (.aload_n 0, 1) := by decide +kernel
theorem dX2_record_89 : decode cX2_record 89 = .ok (.getfield 10, 3) := by decide +kernel
theorem dX2_record_92 : decode cX2_record 92 = .ok (.invokevirtual 140, 3) := by decide +kernel
theorem dX2_record_95 : decode cX2_record 95 = .ok (.aload_n 0, 1) := by decide +kernel
theorem dX2_record_96 : decode cX2_record 96 = .ok (.dup, 1) := by decide +kernel
theorem dX2_record_97 : decode cX2_record 97 = .ok (.getfield 124, 3) := by decide +kernel
theorem dX2_record_100 : decode cX2_record 100 = .ok (.iconst 1, 1) := by decide +kernel
theorem dX2_record_101 : decode cX2_record 101 = .ok (.iadd, 1) := by decide +kernel
theorem dX2_record_102 : decode cX2_record 102 = .ok (.putfield 124, 3) := by decide +kernel
theorem dX2_record_105 : decode cX2_record 105 = .ok (.return_, 1) := by decide +kernel
theorem dX2_stateAt_0 : decode cX2_stateAt 0 = .ok (.iload_n 1, 1) := by decide +kernel
theorem dX2_stateAt_1 : decode cX2_stateAt 1 = .ok (.ifCond .lt 21, 3) := by decide +kernel
theorem dX2_stateAt_4 : decode cX2_stateAt 4 = .ok (.iload_n 1, 1) := by decide +kernel
theorem dX2_stateAt_5 : decode cX2_stateAt 5 = .ok (.aload_n 0, 1) := by decide +kernel
theorem dX2_stateAt_6 : decode cX2_stateAt 6 = .ok (.getfield 19, 3) := by decide +kernel
theorem dX2_stateAt_9 : decode cX2_stateAt 9 = .ok (.arraylength, 1) := by decide +kernel
theorem dX2_stateAt_10 : decode cX2_stateAt 10 = .ok (.if_icmp .ge 12, 3) := by decide +kernel
theorem dX2_stateAt_13 : decode cX2_stateAt 13 = .ok (.aload_n 0, 1) := by decide +kernel
theorem dX2_stateAt_14 : decode cX2_stateAt 14 = .ok (.getfield 19, 3) := by decide +kernel
theorem dX2_stateAt_17 : decode cX2_stateAt 17 = .ok (.iload_n 1, 1) := by decide +kernel
theorem dX2_stateAt_18 : decode cX2_stateAt 18 = .ok (.aaload, 1) := by decide +kernel
theorem dX2_stateAt_19 : decode cX2_stateAt 19 = .ok (.goto 4, 3) := by decide +kernel
theorem dX2_stateAt_22 : decode cX2_stateAt 22 = .ok (.aconst_null, 1) := by decide +kernel
theorem dX2_stateAt_23 : decode cX2_stateAt 23 = .ok (.areturn, 1) := by decide +kernel
theorem dX2_makeReachWider_0 : decode cX2_makeReachWider 0 = .ok (.aload_n 0, 1) := by decide +kernel
theorem dX2_makeReachWider_1 : decode cX2_makeReachWider 1 = .ok (.getfield 16, 3) := by decide +kernel
theorem dX2_makeReachWider_4 : decode cX2_makeReachWider 4 = .ok (.getfield 40, 3) := by decide +kernel
theorem dX2_makeReachWider_7 : decode cX2_makeReachWider 7 = .ok (.astore_n 3, 1) := by decide +kernel
theorem dX2_makeReachWider_8 : decode cX2_makeReachWider 8 = .ok (.aload_n 0, 1) := by decide +kernel
theorem dX2_makeReachWider_9 : decode cX2_makeReachWider 9 = .ok (.getfield 27, 3) := by decide +kernel
theorem dX2_makeReachWider_12 : decode cX2_makeReachWider 12 = .ok (.iconst 0, 1) := by decide +kernel
theorem dX2_makeReachWider_13 : decode cX2_makeReachWider 13 = .ok (.aload_n 0, 1) := by decide +kernel
theorem dX2_makeReachWider_14 : decode cX2_makeReachWider 14 = .ok (.getfield 31, 3) := by decide +kernel
theorem dX2_makeReachWider_17 : decode cX2_makeReachWider 17 = .ok (.iconst 0, 1) := by decide +kernel
theorem dX2_makeReachWider_18 : decode cX2_makeReachWider 18 = .ok (.bipush 36, 2) := by decide +kernel
theorem dX2_makeReachWider_20 : decode cX2_makeReachWider 20 = .ok (.invokestatic 194, 3) := by decide +kernel
theorem dX2_makeReachWider_23 : decode cX2_makeReachWider 23 = .ok (.iconst 0, 1) := by decide +kernel
theorem dX2_makeReachWider_24 : decode cX2_makeReachWider 24 = .ok (.istore 4, 2) := by decide +kernel
theorem dX2_makeReachWider_26 : decode cX2_makeReachWider 26 = .ok (.iload 4, 2) := by decide +kernel
theorem dX2_makeReachWider_28 : decode cX2_makeReachWider 28 = .ok (.bipush 36, 2) := by decide +kernel
theorem dX2_makeReachWider_30 : decode cX2_makeReachWider 30 = .ok (.if_icmp .ge 46, 3) := by decide +kernel
theorem dX2_makeReachWider_33 : decode cX2_makeReachWider 33 = .ok (.aload_n 0, 1) := by decide +kernel
theorem dX2_makeReachWider_34 : decode cX2_makeReachWider 34 = .ok (.getfield 27, 3) := by decide +kernel
theorem dX2_makeReachWider_37 : decode cX2_makeReachWider 37 = .ok (.iload 4, 2) := by decide +kernel
theorem dX2_makeReachWider_39 : decode cX2_makeReachWider 39 = .ok (.iaload, 1) := by decide +kernel
theorem dX2_makeReachWider_40 : decode cX2_makeReachWider 40 = .ok (.ifCond .le 30, 3) := by decide +kernel
theorem dX2_makeReachWider_43 : decode cX2_makeReachWider 43 = .ok (.aload_n 3, 1) := by decide +kernel
theorem dX2_makeReachWider_44 : decode cX2_makeReachWider 44 = .ok (.iload 4, 2) := by decide +kernel
theorem dX2_makeReachWider_46 : decode cX2_makeReachWider 46 = .ok (.iload_n 1, 1) := by decide +kernel
theorem dX2_makeReachWider_47 : decode cX2_makeReachWider 47 = .ok (.iload_n 2, 1) := by decide +kernel
theorem dX2_makeReachWider_48 : decode cX2_makeReachWider 48 = .ok (.aload_n 0, 1) := by decide +kernel
theorem dX2_makeReachWider_49 : decode cX2_makeReachWider 49 = .ok (.getfield 27, 3) := by decide +kernel
theorem dX2_makeReachWider_52 : decode cX2_makeReachWider 52 = .ok (.iload 4, 2) := by decide +kernel
theorem dX2_makeReachWider_54 : decode cX2_makeReachWider 54 = .ok (.iaload, 1) := by decide +kernel
theorem dX2_makeReachWider_55 : decode cX2_makeReachWider 55 = .ok (.invokevirtual 169, 3) := by decide +kernel
theorem dX2_makeReachWider_58 : decode cX2_makeReachWider 58 = .ok (.aload_n 0, 1) := by decide +kernel
theorem dX2_makeReachWider_59 : decode cX2_makeReachWider 59 = .ok (.iload 4, 2) := by decide +kernel
theorem dX2_makeReachWider_61 : decode cX2_makeReachWider 61 = .ok (.invokevirtual 200, 3) := by decide +kernel
theorem dX2_makeReachWider_64 : decode cX2_makeReachWider 64 = .ok (.aload_n 3, 1) := by decide +kernel
theorem dX2_makeReachWider_65 : decode cX2_makeReachWider 65 = .ok (.iload 4, 2) := by decide +kernel
theorem dX2_makeReachWider_67 : decode cX2_makeReachWider 67 = .ok (.invokevirtual 172, 3) := by decide +kernel
theorem dX2_makeReachWider_70 : decode cX2_makeReachWider 70 = .ok (.iinc 4 1, 3) := by decide +kernel
theorem dX2_makeReachWider_73 : decode cX2_makeReachWider 73 = .ok (.goto (-47), 3) := by decide +kernel
theorem dX2_makeReachWider_76 : decode cX2_makeReachWider 76 = .ok (.aload_n 0, 1) := by decide +kernel
theorem dX2_makeReachWider_77 : decode cX2_makeReachWider 77 = .ok (.getfield 27, 3) := by decide +kernel
theorem dX2_makeReachWider_80 : decode cX2_makeReachWider 80 = .ok (.astore 4, 2) := by decide +kernel
theorem dX2_makeReachWider_82 : decode cX2_makeReachWider 82 = .ok (.aload_n 0, 1) := by decide +kernel
theorem dX2_makeReachWider_83 : decode cX2_makeReachWider 83 = .ok (.aload_n 0, 1) := by decide +kernel
theorem dX2_makeReachWider_84 : decode cX2_makeReachWider 84 = .ok (.getfield 31, 3) := by decide +kernel
theorem dX2_makeReachWider_87 : decode cX2_makeReachWider 87 = .ok (.putfield 27, 3) := by decide +kernel
theorem dX2_makeReachWider_90 : decode cX2_makeReachWider 90 = .ok (.aload_n 0, 1) := by decide +kernel
theorem dX2_makeReachWider_91 : decode cX2_makeReachWider 91 = .ok (.aload 4, 2) := by decide +kernel
theorem dX2_makeReachWider_93 : decode cX2_makeReachWider 93 = .ok (.putfield 31, 3) := by decide +kernel
theorem dX2_makeReachWider_96 : decode cX2_makeReachWider 96 = .ok (.return_, 1) := by decide +kernel
theorem dX2_leaveFrom_0 : decode cX2_leaveFrom 0 = .ok (.aload_n 0, 1) := by decide +kernel
theorem dX2_leaveFrom_1 : decode cX2_leaveFrom 1 = .ok (.getfield 16, 3) := by decide +kernel
theorem dX2_leaveFrom_4 : decode cX2_leaveFrom 4 = .ok (.getfield 40, 3) := by decide +kernel
theorem dX2_leaveFrom_7 : decode cX2_leaveFrom 7 = .ok (.astore_n 2, 1) := by decide +kernel
theorem dX2_leaveFrom_8 : decode cX2_leaveFrom 8 = .ok (.iconst 0, 1) := by decide +kernel
theorem dX2_leaveFrom_9 : decode cX2_leaveFrom 9 = .ok (.istore_n 3, 1) := by decide +kernel
theorem dX2_leaveFrom_10 : decode cX2_leaveFrom 10 = .ok (.iload_n 3, 1) := by decide +kernel
theorem dX2_leaveFrom_11 : decode cX2_leaveFrom 11 = .ok (.bipush 36, 2) := by decide +kernel
theorem dX2_leaveFrom_13 : decode cX2_leaveFrom 13 = .ok (.if_icmp .ge 57, 3) := by decide +kernel
theorem dX2_leaveFrom_16 : decode cX2_leaveFrom 16 = .ok (.aload_n 2, 1) := by decide +kernel
theorem dX2_leaveFrom_17 : decode cX2_leaveFrom 17 = .ok (.iload_n 3, 1) := by decide +kernel
theorem dX2_leaveFrom_18 : decode cX2_leaveFrom 18 = .ok (.invokevirtual 77, 3) := by decide +kernel
theorem dX2_leaveFrom_21 : decode cX2_leaveFrom 21 = .ok (.ifCond .ne 43, 3) := by decide +kernel
theorem dX2_leaveFrom_24 : decode cX2_leaveFrom 24 = .ok (.aload_n 2, 1) := by decide +kernel
theorem dX2_leaveFrom_25 : decode cX2_leaveFrom 25 = .ok (.iload_n 1, 1) := by decide +kernel
theorem dX2_leaveFrom_26 : decode cX2_leaveFrom 26 = .ok (.iload_n 3, 1) := by decide +kernel
theorem dX2_leaveFrom_27 : decode cX2_leaveFrom 27 = .ok (.invokevirtual 163, 3) := by decide +kernel
theorem dX2_leaveFrom_30 : decode cX2_leaveFrom 30 = .ok (.ifCond .eq 34, 3) := by decide +kernel
theorem dX2_leaveFrom_33 : decode cX2_leaveFrom 33 = .ok (.aload_n 2, 1) := by decide +kernel
theorem dX2_leaveFrom_34 : decode cX2_leaveFrom 34 = .ok (.iload_n 1, 1) := by decide +kernel
theorem dX2_leaveFrom_35 : decode cX2_leaveFrom 35 = .ok (.invokevirtual 100, 3) := by decide +kernel
theorem dX2_leaveFrom_38 : decode cX2_leaveFrom 38 = .ok (.aload_n 2, 1) := by decide +kernel
theorem dX2_leaveFrom_39 : decode cX2_leaveFrom 39 = .ok (.iload_n 1, 1) := by decide +kernel
theorem dX2_leaveFrom_40 : decode cX2_leaveFrom 40 = .ok (.iload_n 3, 1) := by decide +kernel
theorem dX2_leaveFrom_41 : decode cX2_leaveFrom 41 = .ok (.invokevirtual 157, 3) := by decide +kernel
theorem dX2_leaveFrom_44 : decode cX2_leaveFrom 44 = .ok (.isub, 1) := by decide +kernel
theorem dX2_leaveFrom_45 : decode cX2_leaveFrom 45 = .ok (.istore 4, 2) := by decide +kernel
theorem dX2_leaveFrom_47 : decode cX2_leaveFrom 47 = .ok (.aload_n 0, 1) := by decide +kernel
theorem dX2_leaveFrom_48 : decode cX2_leaveFrom 48 = .ok (.getfield 31, 3) := by decide +kernel
theorem dX2_leaveFrom_51 : decode cX2_leaveFrom 51 = .ok (.iload_n 3, 1) := by decide +kernel
theorem dX2_leaveFrom_52 : decode cX2_leaveFrom 52 = .ok (.aload_n 0, 1) := by decide +kernel
theorem dX2_leaveFrom_53 : decode cX2_leaveFrom 53 = .ok (.getfield 31, 3) := by decide +kernel
theorem dX2_leaveFrom_56 : decode cX2_leaveFrom 56 = .ok (.iload_n 3, 1) := by decide +kernel
theorem dX2_leaveFrom_57 : decode cX2_leaveFrom 57 = .ok (.iaload, 1) := by decide +kernel
theorem dX2_leaveFrom_58 : decode cX2_leaveFrom 58 = .ok (.iload 4, 2) := by decide +kernel
theorem dX2_leaveFrom_60 : decode cX2_leaveFrom 60 = .ok (.invokestatic 203, 3) := by decide +kernel
theorem dX2_leaveFrom_63 : decode cX2_leaveFrom 63 = .ok (.iastore, 1) := by decide +kernel
theorem dX2_leaveFrom_64 : decode cX2_leaveFrom 64 = .ok (.iinc 3 1, 3) := by decide +kernel
theorem dX2_leaveFrom_67 : decode cX2_leaveFrom 67 = .ok (.goto (-57), 3) := by decide +kernel
theorem dX2_leaveFrom_70 : decode cX2_leaveFrom 70 = .ok (.return_, 1) := by decide +kernel
theorem dX2_cellsReached_0 : decode cX2_cellsReached 0 = .ok (.iconst 0, 1) := by decide +kernel
theorem dX2_cellsReached_1 : decode cX2_cellsReached 1 = .ok (.istore_n 1, 1) := by decide +kernel
theorem dX2_cellsReached_2 : decode cX2_cellsReached 2 = .ok (.iconst 0, 1) := by decide +kernel
theorem dX2_cellsReached_3 : decode cX2_cellsReached 3 = .ok (.istore_n 2, 1) := by decide +kernel
theorem dX2_cellsReached_4 : decode cX2_cellsReached 4 = .ok (.iload_n 2, 1) := by decide +kernel
theorem dX2_cellsReached_5 : decode cX2_cellsReached 5 = .ok (.bipush 36, 2) := by decide +kernel
theorem dX2_cellsReached_7 : decode cX2_cellsReached 7 = .ok (.if_icmp .ge 22, 3) := by decide +kernel
theorem dX2_cellsReached_10 : decode cX2_cellsReached 10 = .ok (.aload_n 0, 1) := by decide +kernel
theorem dX2_cellsReached_11 : decode cX2_cellsReached 11 = .ok (.getfield 27, 3) := by decide +kernel
theorem dX2_cellsReached_14 : decode cX2_cellsReached 14 = .ok (.iload_n 2, 1) := by decide +kernel
theorem dX2_cellsReached_15 : decode cX2_cellsReached 15 = .ok (.iaload, 1) := by decide +kernel
theorem dX2_cellsReached_16 : decode cX2_cellsReached 16 = .ok (.iconst (-1), 1) := by decide +kernel
theorem dX2_cellsReached_17 : decode cX2_cellsReached 17 = .ok (.if_icmp .eq 6, 3) := by decide +kernel
theorem dX2_cellsReached_20 : decode cX2_cellsReached 20 = .ok (.iinc 1 1, 3) := by decide +kernel
theorem dX2_cellsReached_23 : decode cX2_cellsReached 23 = .ok (.iinc 2 1, 3) := by decide +kernel
theorem dX2_cellsReached_26 : decode cX2_cellsReached 26 = .ok (.goto (-22), 3) := by decide +kernel
theorem dX2_cellsReached_29 : decode cX2_cellsReached 29 = .ok (.iload_n 1, 1) := by decide +kernel
theorem dX2_cellsReached_30 : decode cX2_cellsReached 30 = .ok (.ireturn, 1) := by decide +kernel
theorem dX2_gamesBehind_0 : decode cX2_gamesBehind 0 = .ok (.aload_n 0, 1) := by decide +kernel
theorem dX2_gamesBehind_1 : decode cX2_gamesBehind 1 = .ok (.getfield 16, 3) := by decide +kernel
theorem dX2_gamesBehind_4 : decode cX2_gamesBehind 4 = .ok (.aload_n 0, 1) := by decide +kernel
theorem dX2_gamesBehind_5 : decode cX2_gamesBehind 5 = .ok (.getfield 10, 3) := by decide +kernel
theorem dX2_gamesBehind_8 : decode cX2_gamesBehind 8 = .ok (.invokevirtual 140, 3) := by decide +kernel
theorem dX2_gamesBehind_11 : decode cX2_gamesBehind 11 = .ok (.aload_n 0, 1) := by decide +kernel
theorem dX2_gamesBehind_12 : decode cX2_gamesBehind 12 = .ok (.getfield 16, 3) := by decide +kernel
theorem dX2_gamesBehind_15 : decode cX2_gamesBehind 15 = .ok (.iload_n 1, 1) := by decide +kernel
theorem dX2_gamesBehind_16 : decode cX2_gamesBehind 16 = .ok (.iload_n 2, 1) := by decide +kernel
theorem dX2_gamesBehind_17 : decode cX2_gamesBehind 17 = .ok (.invokevirtual 148, 3) := by decide +kernel
theorem dX2_gamesBehind_20 : decode cX2_gamesBehind 20 = .ok (.pop, 1) := by decide +kernel
theorem dX2_gamesBehind_21 : decode cX2_gamesBehind 21 = .ok (.aload_n 0, 1) := by decide +kernel
theorem dX2_gamesBehind_22 : decode cX2_gamesBehind 22 = .ok (.getfield 16, 3) := by decide +kernel
theorem dX2_gamesBehind_25 : decode cX2_gamesBehind 25 = .ok (.invokevirtual 73, 3) := by decide +kernel
theorem dX2_gamesBehind_28 : decode cX2_gamesBehind 28 = .ok (.ifCond .eq 7, 3) := by decide +kernel
theorem dX2_gamesBehind_31 : decode cX2_gamesBehind 31 = .ok (.iconst 1, 1) := by decide +kernel
theorem dX2_gamesBehind_32 : decode cX2_gamesBehind 32 = .ok (.goto 24, 3) := by decide +kernel
theorem dX2_gamesBehind_35 : decode cX2_gamesBehind 35 = .ok (.iconst 1, 1) := by decide +kernel
theorem dX2_gamesBehind_36 : decode cX2_gamesBehind 36 = .ok (.aload_n 0, 1) := by decide +kernel
theorem dX2_gamesBehind_37 : decode cX2_gamesBehind 37 = .ok (.getfield 16, 3) := by decide +kernel
theorem dX2_gamesBehind_40 : decode cX2_gamesBehind 40 = .ok (.getfield 40, 3) := by decide +kernel
theorem dX2_gamesBehind_43 : decode cX2_gamesBehind 43 = .ok (.aload_n 0, 1) := by decide +kernel
theorem dX2_gamesBehind_44 : decode cX2_gamesBehind 44 = .ok (.getfield 16, 3) := by decide +kernel
theorem dX2_gamesBehind_47 : decode cX2_gamesBehind 47 = .ok (.getfield 106, 3) := by decide +kernel
theorem dX2_gamesBehind_50 : decode cX2_gamesBehind 50 = .ok (.invokevirtual 160, 3) := by decide +kernel
theorem dX2_gamesBehind_53 : decode cX2_gamesBehind 53 = .ok (.invokestatic 203, 3) := by decide +kernel
theorem dX2_gamesBehind_56 : decode cX2_gamesBehind 56 = .ok (.ireturn, 1) := by decide +kernel
theorem dX2_worthOf_0 : decode cX2_worthOf 0 = .ok (.aload_n 0, 1) := by decide +kernel
theorem dX2_worthOf_1 : decode cX2_worthOf 1 = .ok (.getfield 16, 3) := by decide +kernel
theorem dX2_worthOf_4 : decode cX2_worthOf 4 = .ok (.aload_n 0, 1) := by decide +kernel
theorem dX2_worthOf_5 : decode cX2_worthOf 5 = .ok (.getfield 10, 3) := by decide +kernel
theorem dX2_worthOf_8 : decode cX2_worthOf 8 = .ok (.invokevirtual 140, 3) := by decide +kernel
theorem dX2_worthOf_11 : decode cX2_worthOf 11 = .ok (.aload_n 0, 1) := by decide +kernel
theorem dX2_worthOf_12 : decode cX2_worthOf 12 = .ok (.getfield 16, 3) := by decide +kernel
theorem dX2_worthOf_15 : decode cX2_worthOf 15 = .ok (.iload_n 1, 1) := by decide +kernel
theorem dX2_worthOf_16 : decode cX2_worthOf 16 = .ok (.iload_n 2, 1) := by decide +kernel
theorem dX2_worthOf_17 : decode cX2_worthOf 17 = .ok (.invokevirtual 208, 3) := by decide +kernel
theorem dX2_worthOf_20 : decode cX2_worthOf 20 = .ok (.pop, 1) := by decide +kernel
theorem dX2_worthOf_21 : decode cX2_worthOf 21 = .ok (.aload_n 0, 1) := by decide +kernel
theorem dX2_worthOf_22 : decode cX2_worthOf 22 = .ok (.getfield 10, 3) := by decide +kernel
theorem dX2_worthOf_25 : decode cX2_worthOf 25 = .ok (.getfield 106, 3) := by decide +kernel
theorem dX2_worthOf_28 : decode cX2_worthOf 28 = .ok (.istore_n 3, 1) := by decide +kernel
theorem dX2_worthOf_29 : decode cX2_worthOf 29 = .ok (.aload_n 0, 1) := by decide +kernel
theorem dX2_worthOf_30 : decode cX2_worthOf 30 = .ok (.getfield 16, 3) := by decide +kernel
theorem dX2_worthOf_33 : decode cX2_worthOf 33 = .ok (.getfield 40, 3) := by decide +kernel
theorem dX2_worthOf_36 : decode cX2_worthOf 36 = .ok (.iload_n 3, 1) := by decide +kernel
theorem dX2_worthOf_37 : decode cX2_worthOf 37 = .ok (.invokevirtual 121, 3) := by decide +kernel
theorem dX2_worthOf_40 : decode cX2_worthOf 40 = .ok (.aload_n 0, 1) := by decide +kernel
theorem dX2_worthOf_41 : decode cX2_worthOf 41 = .ok (.getfield 16, 3) := by decide +kernel
theorem dX2_worthOf_44 : decode cX2_worthOf 44 = .ok (.getfield 40, 3) := by decide +kernel
theorem dX2_worthOf_47 : decode cX2_worthOf 47 = .ok (.iconst 1, 1) := by decide +kernel
theorem dX2_worthOf_48 : decode cX2_worthOf 48 = .ok (.iload_n 3, 1) := by decide +kernel
theorem dX2_worthOf_49 : decode cX2_worthOf 49 = .ok (.isub, 1) := by decide +kernel
theorem dX2_worthOf_50 : decode cX2_worthOf 50 = .ok (.invokevirtual 121, 3) := by decide +kernel
theorem dX2_worthOf_53 : decode cX2_worthOf 53 = .ok (.isub, 1) := by decide +kernel
theorem dX2_worthOf_54 : decode cX2_worthOf 54 = .ok (.istore 4, 2) := by decide +kernel
theorem dX2_worthOf_56 : decode cX2_worthOf 56 = .ok (.aload_n 0, 1) := by decide +kernel
theorem dX2_worthOf_57 : decode cX2_worthOf 57 = .ok (.getfield 16, 3) := by decide +kernel
theorem dX2_worthOf_60 : decode cX2_worthOf 60 = .ok (.invokevirtual 73, 3) := by decide +kernel
theorem dX2_worthOf_63 : decode cX2_worthOf 63 = .ok (.ifCond .eq 12, 3) := by decide +kernel
theorem dX2_worthOf_66 : decode cX2_worthOf 66 = .ok (.iload 4, 2) := by decide +kernel
theorem dX2_worthOf_68 : decode cX2_worthOf 68 = .ok (.sipush 10000, 3) := by decide +kernel
theorem dX2_worthOf_71 : decode cX2_worthOf 71 = .ok (.iadd, 1) := by decide +kernel
theorem dX2_worthOf_72 : decode cX2_worthOf 72 = .ok (.goto 5, 3) := by decide +kernel
theorem dX2_worthOf_75 : decode cX2_worthOf 75 = .ok (.iload 4, 2) := by decide +kernel
theorem dX2_worthOf_77 : decode cX2_worthOf 77 = .ok (.ireturn, 1) := by decide +kernel
theorem dX2_tryText_0 : decode cX2_tryText 0 = .ok (.aload_n 0, 1) := by decide +kernel
theorem dX2_tryText_1 : decode cX2_tryText 1 = .ok (.getfield 16, 3) := by decide +kernel
theorem dX2_tryText_4 : decode cX2_tryText 4 = .ok (.aload_n 0, 1) := by decide +kernel
theorem dX2_tryText_5 : decode cX2_tryText 5 = .ok (.getfield 10, 3) := by decide +kernel
theorem dX2_tryText_8 : decode cX2_tryText 8 = .ok (.invokevirtual 140, 3) := by decide +kernel
theorem dX2_tryText_11 : decode cX2_tryText 11 = .ok (.iconst 0, 1) := by decide +kernel
theorem dX2_tryText_12 : decode cX2_tryText 12 = .ok (.istore_n 1, 1) := by decide +kernel
theorem dX2_tryText_13 : decode cX2_tryText 13 = .ok (.iconst 0, 1) := by decide +kernel
theorem dX2_tryText_14 : decode cX2_tryText 14 = .ok (.istore_n 2, 1) := by decide +kernel
theorem dX2_tryText_15 : decode cX2_tryText 15 = .ok (.iload_n 2, 1) := by decide +kernel
theorem dX2_tryText_16 : decode cX2_tryText 16 = .ok (.bipush 80, 2) := by decide +kernel
theorem dX2_tryText_18 : decode cX2_tryText 18 = .ok (.if_icmp .ge 121, 3) := by decide +kernel
theorem dX2_tryText_21 : decode cX2_tryText 21 = .ok (.iload_n 1, 1) := by decide +kernel
theorem dX2_tryText_22 : decode cX2_tryText 22 = .ok (.aload_n 0, 1) := by decide +kernel
theorem dX2_tryText_23 : decode cX2_tryText 23 = .ok (.getfield 127, 3) := by decide +kernel
theorem dX2_tryText_26 : decode cX2_tryText 26 = .ok (.if_icmp .ge 113, 3) := by decide +kernel
theorem dX2_tryText_29 : decode cX2_tryText 29 = .ok (.aload_n 0, 1) := by decide +kernel
theorem dX2_tryText_30 : decode cX2_tryText 30 = .ok (.iload_n 1, 1) := by decide +kernel
theorem dX2_tryText_31 : decode cX2_tryText 31 = .ok (.invokevirtual 211, 3) := by decide +kernel
theorem dX2_tryText_34 : decode cX2_tryText 34 = .ok (.istore_n 3, 1) := by decide +kernel
theorem dX2_tryText_35 : decode cX2_tryText 35 = .ok (.aload_n 0, 1) := by decide +kernel
theorem dX2_tryText_36 : decode cX2_tryText 36 = .ok (.iload_n 1, 1) := by decide +kernel
theorem dX2_tryText_37 : decode cX2_tryText 37 = .ok (.invokevirtual 214, 3) := by decide +kernel
theorem dX2_tryText_40 : decode cX2_tryText 40 = .ok (.istore 4, 2) := by decide +kernel
theorem dX2_tryText_42 : decode cX2_tryText 42 = .ok (.aload_n 0, 1) := by decide +kernel
theorem dX2_tryText_43 : decode cX2_tryText 43 = .ok (.iload_n 1, 1) := by decide +kernel
theorem dX2_tryText_44 : decode cX2_tryText 44 = .ok (.iconst 2, 1) := by decide +kernel
theorem dX2_tryText_45 : decode cX2_tryText 45 = .ok (.iadd, 1) := by decide +kernel
theorem dX2_tryText_46 : decode cX2_tryText 46 = .ok (.invokevirtual 214, 3) := by decide +kernel
theorem dX2_tryText_49 : decode cX2_tryText 49 = .ok (.istore 5, 2) := by decide +kernel
theorem dX2_tryText_51 : decode cX2_tryText 51 = .ok (.iconst 1, 1) := by decide +kernel
theorem dX2_tryText_52 : decode cX2_tryText 52 = .ok (.istore 6, 2) := by decide +kernel
theorem dX2_tryText_54 : decode cX2_tryText 54 = .ok (.iload_n 3, 1) := by decide +kernel
theorem dX2_tryText_55 : decode cX2_tryText 55 = .ok (.iconst 5, 1) := by decide +kernel
theorem dX2_tryText_56 : decode cX2_tryText 56 = .ok (.if_icmp .ne 19, 3) := by decide +kernel
theorem dX2_tryText_59 : decode cX2_tryText 59 = .ok (.aload_n 0, 1) := by decide +kernel
theorem dX2_tryText_60 : decode cX2_tryText 60 = .ok (.getfield 16, 3) := by decide +kernel
theorem dX2_tryText_63 : decode cX2_tryText 63 = .ok (.iload 4, 2) := by decide +kernel
theorem dX2_tryText_65 : decode cX2_tryText 65 = .ok (.iload 5, 2) := by decide +kernel
theorem dX2_tryText_67 : decode cX2_tryText 67 = .ok (.invokevirtual 144, 3) := by decide +kernel
theorem dX2_tryText_70 : decode cX2_tryText 70 = .ok (.istore 6, 2) := by decide +kernel
theorem dX2_tryText_72 : decode cX2_tryText 72 = .ok (.goto 17, 3) := by decide +kernel
theorem dX2_tryText_75 : decode cX2_tryText 75 = .ok (.iload_n 3, 1) := by decide +kernel
theorem dX2_tryText_76 : decode cX2_tryText 76 = .ok (.iconst 2, 1) := by decide +kernel
theorem dX2_tryText_77 : decode cX2_tryText 77 = .ok (.if_icmp .ne 12, 3) := by decide +kernel
theorem dX2_tryText_80 : decode cX2_tryText 80 = .ok (.aload_n 0, 1) := by decide +kernel
theorem dX2_tryText_81 : decode cX2_tryText 81 = .ok (.getfield 16, 3) := by decide +kernel
theorem dX2_tryText_84 : decode cX2_tryText 84 = .ok (.invokevirtual 151, 3) := by decide +kernel
theorem dX2_tryText_87 : decode cX2_tryText 87 = .ok (.istore 6, 2) := by decide +kernel
theorem dX2_tryText_89 : decode cX2_tryText 89 = .ok (.iload 6, 2) := by decide +kernel
theorem dX2_tryText_91 : decode cX2_tryText 91 = .ok (.ifCond .eq 11, 3) := by decide +kernel
theorem dX2_tryText_94 : decode cX2_tryText 94 = .ok (.bipush 16, 2) := by decide +kernel
theorem dX2_tryText_96 : decode cX2_tryText 96 = .ok (.iload_n 1, 1) := by decide +kernel
theorem dX2_tryText_97 : decode cX2_tryText 97 = .ok (.imul, 1) := by decide +kernel
theorem dX2_tryText_98 : decode cX2_tryText 98 = .ok (.iload 6, 2) := by decide +kernel
theorem dX2_tryText_100 : decode cX2_tryText 100 = .ok (.iadd, 1) := by decide +kernel
theorem dX2_tryText_101 : decode cX2_tryText 101 = .ok (.ireturn, 1) := by decide +kernel
theorem dX2_tryText_102 : decode cX2_tryText 102 = .ok (.iload_n 3, 1) := by decide +kernel
theorem dX2_tryText_103 : decode cX2_tryText 103 = .ok (.iconst 5, 1) := by decide +kernel
theorem dX2_tryText_104 : decode cX2_tryText 104 = .ok (.if_icmp .ne 18, 3) := by decide +kernel
theorem dX2_tryText_107 : decode cX2_tryText 107 = .ok (.aload_n 0, 1) := by decide +kernel
theorem dX2_tryText_108 : decode cX2_tryText 108 = .ok (.getfield 16, 3) := by decide +kernel
theorem dX2_tryText_111 : decode cX2_tryText 111 = .ok (.iload 4, 2) := by decide +kernel
theorem dX2_tryText_113 : decode cX2_tryText 113 = .ok (.iload 5, 2) := by decide +kernel
theorem dX2_tryText_115 : decode cX2_tryText 115 = .ok (.invokevirtual 148, 3) := by decide +kernel
theorem dX2_tryText_118 : decode cX2_tryText 118 = .ok (.pop, 1) := by decide +kernel
theorem dX2_tryText_119 : decode cX2_tryText 119 = .ok (.goto 10, 3) := by decide +kernel
theorem dX2_tryText_122 : decode cX2_tryText 122 = .ok (.aload_n 0, 1) := by decide +kernel
theorem dX2_tryText_123 : decode cX2_tryText 123 = .ok (.getfield 16, 3) := by decide +kernel
theorem dX2_tryText_126 : decode cX2_tryText 126 = .ok (.invokevirtual 154, 3) := by decide +kernel
theorem dX2_tryText_129 : decode cX2_tryText 129 = .ok (.iload_n 1, 1) := by decide +kernel
theorem dX2_tryText_130 : decode cX2_tryText 130 = .ok (.iload_n 3, 1) := by decide +kernel
theorem dX2_tryText_131 : decode cX2_tryText 131 = .ok (.iadd, 1) := by decide +kernel
theorem dX2_tryText_132 : decode cX2_tryText 132 = .ok (.istore_n 1, 1) := by decide +kernel
theorem dX2_tryText_133 : decode cX2_tryText 133 = .ok (.iinc 2 1, 3) := by decide +kernel
theorem dX2_tryText_136 : decode cX2_tryText 136 = .ok (.goto (-121), 3) := by decide +kernel
theorem dX2_tryText_139 : decode cX2_tryText 139 = .ok (.iconst (-1), 1) := by decide +kernel
theorem dX2_tryText_140 : decode cX2_tryText 140 = .ok (.ireturn, 1) := by decide +kernel
theorem dX2_signsOfForm_0 : decode cX2_signsOfForm 0 = .ok (.aload_n 0, 1) := by decide +kernel
theorem dX2_signsOfForm_1 : decode cX2_signsOfForm 1 = .ok (.iload_n 1, 1) := by decide +kernel
theorem dX2_signsOfForm_2 : decode cX2_signsOfForm 2 = .ok (.invokevirtual 217, 3) := by decide +kernel
theorem dX2_signsOfForm_5 : decode cX2_signsOfForm 5 = .ok (.bipush 45, 2) := by decide +kernel
theorem dX2_signsOfForm_7 : decode cX2_signsOfForm 7 = .ok (.if_icmp .ne 17, 3) := by decide +kernel
theorem dX2_signsOfForm_10 : decode cX2_signsOfForm 10 = .ok (.aload_n 0, 1) := by decide +kernel
theorem dX2_signsOfForm_11 : decode cX2_signsOfForm 11 = .ok (.iload_n 1, 1) := by decide +kernel
theorem dX2_signsOfForm_12 : decode cX2_signsOfForm 12 = .ok (.iconst 1, 1) := by decide +kernel
theorem dX2_signsOfForm_13 : decode cX2_signsOfForm 13 = .ok (.iadd, 1) := by decide +kernel
theorem dX2_signsOfForm_14 : decode cX2_signsOfForm 14 = .ok (.invokevirtual 217, 3) := by decide +kernel
theorem dX2_signsOfForm_17 : decode cX2_signsOfForm 17 = .ok (.bipush 59, 2) := by decide +kernel
theorem dX2_signsOfForm_19 : decode cX2_signsOfForm 19 = .ok (.if_icmp .ne 5, 3) := by decide +kernel
theorem dX2_signsOfForm_22 : decode cX2_signsOfForm 22 = .ok (.iconst 2, 1) := by decide +kernel
theorem dX2_signsOfForm_23 : decode cX2_signsOfForm 23 = .ok (.ireturn, 1) := by decide +kernel
theorem dX2_signsOfForm_24 : decode cX2_signsOfForm 24 = .ok (.aload_n 0, 1) := by decide +kernel
theorem dX2_signsOfForm_25 : decode cX2_signsOfForm 25 = .ok (.iload_n 1, 1) := by decide +kernel
theorem dX2_signsOfForm_26 : decode cX2_signsOfForm 26 = .ok (.invokevirtual 214, 3) := by decide +kernel
theorem dX2_signsOfForm_29 : decode cX2_signsOfForm 29 = .ok (.iconst (-1), 1) := by decide +kernel
theorem dX2_signsOfForm_30 : decode cX2_signsOfForm 30 = .ok (.if_icmp .eq 30, 3) := by decide +kernel
theorem dX2_signsOfForm_33 : decode cX2_signsOfForm 33 = .ok (.aload_n 0, 1) := by decide +kernel
theorem dX2_signsOfForm_34 : decode cX2_signsOfForm 34 = .ok (.iload_n 1, 1) := by decide +kernel
theorem dX2_signsOfForm_35 : decode cX2_signsOfForm 35 = .ok (.iconst 2, 1) := by decide +kernel
theorem dX2_signsOfForm_36 : decode cX2_signsOfForm 36 = .ok (.iadd, 1) := by decide +kernel
theorem dX2_signsOfForm_37 : decode cX2_signsOfForm 37 = .ok (.invokevirtual 214, 3) := by decide +kernel
theorem dX2_signsOfForm_40 : decode cX2_signsOfForm 40 = .ok (.iconst (-1), 1) := by decide +kernel
theorem dX2_signsOfForm_41 : decode cX2_signsOfForm 41 = .ok (.if_icmp .eq 19, 3) := by decide +kernel
theorem dX2_signsOfForm_44 : decode cX2_signsOfForm 44 = .ok (.aload_n 0, 1) := by decide +kernel
theorem dX2_signsOfForm_45 : decode cX2_signsOfForm 45 = .ok (.iload_n 1, 1) := by decide +kernel
theorem dX2_signsOfForm_46 : decode cX2_signsOfForm 46 = .ok (.iconst 4, 1) := by decide +kernel
theorem dX2_signsOfForm_47 : decode cX2_signsOfForm 47 = .ok (.iadd, 1) := by decide +kernel
theorem dX2_signsOfForm_48 : decode cX2_signsOfForm 48 = .ok (.invokevirtual 217, 3) := by decide +kernel
theorem dX2_signsOfForm_51 : decode cX2_signsOfForm 51 = .ok (.bipush 59, 2) := by decide +kernel
theorem dX2_signsOfForm_53 : decode cX2_signsOfForm 53 = .ok (.if_icmp .ne 7, 3) := by decide +kernel
theorem dX2_signsOfForm_56 : decode cX2_signsOfForm 56 = .ok (.iconst 1, 1) := by decide +kernel
theorem dX2_signsOfForm_57 : decode cX2_signsOfForm 57 = .ok (.goto 4, 3) := by decide +kernel
theorem dX2_signsOfForm_60 : decode cX2_signsOfForm 60 = .ok (.iconst 0, 1) := by decide +kernel
theorem dX2_signsOfForm_61 : decode cX2_signsOfForm 61 = .ok (.istore_n 2, 1) := by decide +kernel
theorem dX2_signsOfForm_62 : decode cX2_signsOfForm 62 = .ok (.iload_n 2, 1) := by decide +kernel
theorem dX2_signsOfForm_63 : decode cX2_signsOfForm 63 = .ok (.ifCond .eq 7, 3) := by decide +kernel
theorem dX2_signsOfForm_66 : decode cX2_signsOfForm 66 = .ok (.iconst 5, 1) := by decide +kernel
theorem dX2_signsOfForm_67 : decode cX2_signsOfForm 67 = .ok (.goto 4, 3) := by decide +kernel
theorem dX2_signsOfForm_70 : decode cX2_signsOfForm 70 = .ok (.iconst 0, 1) := by decide +kernel
theorem dX2_signsOfForm_71 : decode cX2_signsOfForm 71 = .ok (.ireturn, 1) := by decide +kernel
theorem dX2_cellAt_0 : decode cX2_cellAt 0 = .ok (.aload_n 0, 1) := by decide +kernel
theorem dX2_cellAt_1 : decode cX2_cellAt 1 = .ok (.iload_n 1, 1) := by decide +kernel
theorem dX2_cellAt_2 : decode cX2_cellAt 2 = .ok (.invokevirtual 217, 3) := by decide +kernel
theorem dX2_cellAt_5 : decode cX2_cellAt 5 = .ok (.bipush 97, 2) := by decide +kernel
theorem dX2_cellAt_7 : decode cX2_cellAt 7 = .ok (.isub, 1) := by decide +kernel
theorem dX2_cellAt_8 : decode cX2_cellAt 8 = .ok (.istore_n 2, 1) := by decide +kernel
theorem dX2_cellAt_9 : decode cX2_cellAt 9 = .ok (.aload_n 0, 1) := by decide +kernel
theorem dX2_cellAt_10 : decode cX2_cellAt 10 = .ok (.iload_n 1, 1) := by decide +kernel
theorem dX2_cellAt_11 : decode cX2_cellAt 11 = .ok (.iconst 1, 1) := by decide +kernel
theorem dX2_cellAt_12 : decode cX2_cellAt 12 = .ok (.iadd, 1) := by decide +kernel
theorem dX2_cellAt_13 : decode cX2_cellAt 13 = .ok (.invokevirtual 217, 3) := by decide +kernel
theorem dX2_cellAt_16 : decode cX2_cellAt 16 = .ok (.bipush 49, 2) := by decide +kernel
theorem dX2_cellAt_18 : decode cX2_cellAt 18 = .ok (.isub, 1) := by decide +kernel
theorem dX2_cellAt_19 : decode cX2_cellAt 19 = .ok (.istore_n 3, 1) := by decide +kernel
theorem dX2_cellAt_20 : decode cX2_cellAt 20 = .ok (.iload_n 2, 1) := by decide +kernel
theorem dX2_cellAt_21 : decode cX2_cellAt 21 = .ok (.ifCond .lt 23, 3) := by decide +kernel
theorem dX2_cellAt_24 : decode cX2_cellAt 24 = .ok (.iload_n 2, 1) := by decide +kernel
theorem dX2_cellAt_25 : decode cX2_cellAt 25 = .ok (.bipush 6, 2) := by decide +kernel
theorem dX2_cellAt_27 : decode cX2_cellAt 27 = .ok (.if_icmp .ge 17, 3) := by decide +kernel
theorem dX2_cellAt_30 : decode cX2_cellAt 30 = .ok (.iload_n 3, 1) := by decide +kernel
theorem dX2_cellAt_31 : decode cX2_cellAt 31 = .ok (.ifCond .lt 13, 3) := by decide +kernel
theorem dX2_cellAt_34 : decode cX2_cellAt 34 = .ok (.iload_n 3, 1) := by decide +kernel
theorem dX2_cellAt_35 : decode cX2_cellAt 35 = .ok (.bipush 6, 2) := by decide +kernel
theorem dX2_cellAt_37 : decode cX2_cellAt 37 = .ok (.if_icmp .ge 7, 3) := by decide +kernel
theorem dX2_cellAt_40 : decode cX2_cellAt 40 = .ok (.iconst 1, 1) := by decide +kernel
theorem dX2_cellAt_41 : decode cX2_cellAt 41 = .ok (.goto 4, 3) := by decide +kernel
theorem dX2_cellAt_44 : decode cX2_cellAt 44 = .ok (.iconst 0, 1) := by decide +kernel
theorem dX2_cellAt_45 : decode cX2_cellAt 45 = .ok (.istore 4, 2) := by decide +kernel
theorem dX2_cellAt_47 : decode cX2_cellAt 47 = .ok (.iload 4, 2) := by decide +kernel
theorem dX2_cellAt_49 : decode cX2_cellAt 49 = .ok (.ifCond .eq 12, 3) := by decide +kernel
theorem dX2_cellAt_52 : decode cX2_cellAt 52 = .ok (.bipush 6, 2) := by decide +kernel
theorem dX2_cellAt_54 : decode cX2_cellAt 54 = .ok (.iload_n 3, 1) := by decide +kernel
theorem dX2_cellAt_55 : decode cX2_cellAt 55 = .ok (.imul, 1) := by decide +kernel
theorem dX2_cellAt_56 : decode cX2_cellAt 56 = .ok (.iload_n 2, 1) := by decide +kernel
theorem dX2_cellAt_57 : decode cX2_cellAt 57 = .ok (.iadd, 1) := by decide +kernel
theorem dX2_cellAt_58 : decode cX2_cellAt 58 = .ok (.goto 4, 3) := by decide +kernel
theorem dX2_cellAt_61 : decode cX2_cellAt 61 = .ok (.iconst (-1), 1) := by decide +kernel
theorem dX2_cellAt_62 : decode cX2_cellAt 62 = .ok (.ireturn, 1) := by decide +kernel
theorem dX2_signAt_0 : decode cX2_signAt 0 = .ok (.iload_n 1, 1) := by decide +kernel
theorem dX2_signAt_1 : decode cX2_signAt 1 = .ok (.ifCond .lt 29, 3) := by decide +kernel
theorem dX2_signAt_4 : decode cX2_signAt 4 = .ok (.iload_n 1, 1) := by decide +kernel
theorem dX2_signAt_5 : decode cX2_signAt 5 = .ok (.aload_n 0, 1) := by decide +kernel
theorem dX2_signAt_6 : decode cX2_signAt 6 = .ok (.getfield 127, 3) := by decide +kernel
theorem dX2_signAt_9 : decode cX2_signAt 9 = .ok (.if_icmp .ge 21, 3) := by decide +kernel
theorem dX2_signAt_12 : decode cX2_signAt 12 = .ok (.iload_n 1, 1) := by decide +kernel
theorem dX2_signAt_13 : decode cX2_signAt 13 = .ok (.aload_n 0, 1) := by decide +kernel
theorem dX2_signAt_14 : decode cX2_signAt 14 = .ok (.getfield 23, 3) := by decide +kernel
theorem dX2_signAt_17 : decode cX2_signAt 17 = .ok (.arraylength, 1) := by decide +kernel
theorem dX2_signAt_18 : decode cX2_signAt 18 = .ok (.if_icmp .ge 12, 3) := by decide +kernel
theorem dX2_signAt_21 : decode cX2_signAt 21 = .ok (.aload_n 0, 1) := by decide +kernel
theorem dX2_signAt_22 : decode cX2_signAt 22 = .ok (.getfield 23, 3) := by decide +kernel
theorem dX2_signAt_25 : decode cX2_signAt 25 = .ok (.iload_n 1, 1) := by decide +kernel
theorem dX2_signAt_26 : decode cX2_signAt 26 = .ok (.caload, 1) := by decide +kernel
theorem dX2_signAt_27 : decode cX2_signAt 27 = .ok (.goto 4, 3) := by decide +kernel
theorem dX2_signAt_30 : decode cX2_signAt 30 = .ok (.iconst 0, 1) := by decide +kernel
theorem dX2_signAt_31 : decode cX2_signAt 31 = .ok (.ireturn, 1) := by decide +kernel
theorem dX2_movesInText_0 : decode cX2_movesInText 0 = .ok (.iconst 0, 1) := by decide +kernel
theorem dX2_movesInText_1 : decode cX2_movesInText 1 = .ok (.istore_n 1, 1) := by decide +kernel
theorem dX2_movesInText_2 : decode cX2_movesInText 2 = .ok (.iconst 0, 1) := by decide +kernel
theorem dX2_movesInText_3 : decode cX2_movesInText 3 = .ok (.istore_n 2, 1) := by decide +kernel
theorem dX2_movesInText_4 : decode cX2_movesInText 4 = .ok (.iload_n 2, 1) := by decide +kernel
theorem dX2_movesInText_5 : decode cX2_movesInText 5 = .ok (.aload_n 0, 1) := by decide +kernel
theorem dX2_movesInText_6 : decode cX2_movesInText 6 = .ok (.getfield 127, 3) := by decide +kernel
theorem dX2_movesInText_9 : decode cX2_movesInText 9 = .ok (.if_icmp .ge 22, 3) := by decide +kernel
theorem dX2_movesInText_12 : decode cX2_movesInText 12 = .ok (.aload_n 0, 1) := by decide +kernel
theorem dX2_movesInText_13 : decode cX2_movesInText 13 = .ok (.iload_n 2, 1) := by decide +kernel
theorem dX2_movesInText_14 : decode cX2_movesInText 14 = .ok (.invokevirtual 217, 3) := by decide +kernel
theorem dX2_movesInText_17 : decode cX2_movesInText 17 = .ok (.bipush 59, 2) := by decide +kernel
theorem dX2_movesInText_19 : decode cX2_movesInText 19 = .ok (.if_icmp .ne 6, 3) := by decide +kernel
theorem dX2_movesInText_22 : decode cX2_movesInText 22 = .ok (.iinc 1 1, 3) := by decide +kernel
theorem dX2_movesInText_25 : decode cX2_movesInText 25 = .ok (.iinc 2 1, 3) := by decide +kernel
theorem dX2_movesInText_28 : decode cX2_movesInText 28 = .ok (.goto (-24), 3) := by decide +kernel
theorem dX2_movesInText_31 : decode cX2_movesInText 31 = .ok (.iload_n 1, 1) := by decide +kernel
theorem dX2_movesInText_32 : decode cX2_movesInText 32 = .ok (.ireturn, 1) := by decide +kernel
theorem dX3_init_0 : decode cX3_init 0 = .ok (.aload_n 0, 1) := by decide +kernel
theorem dX3_init_1 : decode cX3_init 1 = .ok (.invokespecial 1, 3) := by decide +kernel
theorem dX3_init_4 : decode cX3_init 4 = .ok (.aload_n 0, 1) := by decide +kernel
theorem dX3_init_5 : decode cX3_init 5 = .ok (.sipush 159, 3) := by decide +kernel
theorem dX3_init_8 : decode cX3_init 8 = .ok (.newarray .int, 2) := by decide +kernel
theorem dX3_init_10 : decode cX3_init 10 = .ok (.putfield 7, 3) := by decide +kernel
theorem dX3_init_13 : decode cX3_init 13 = .ok (.aload_n 0, 1) := by decide +kernel
theorem dX3_init_14 : decode cX3_init 14 = .ok (.sipush 795, 3) := by decide +kernel
theorem dX3_init_17 : decode cX3_init 17 = .ok (.newarray .int, 2) := by decide +kernel
theorem dX3_init_19 : decode cX3_init 19 = .ok (.putfield 13, 3) := by decide +kernel
theorem dX3_init_22 : decode cX3_init 22 = .ok (.aload_n 0, 1) := by decide +kernel
theorem dX3_init_23 : decode cX3_init 23 = .ok (.sipush 159, 3) := by decide +kernel
theorem dX3_init_26 : decode cX3_init 26 = .ok (.newarray .int, 2) := by decide +kernel
theorem dX3_init_28 : decode cX3_init 28 = .ok (.putfield 16, 3) := by decide +kernel
theorem dX3_init_31 : decode cX3_init 31 = .ok (.aload_n 0, 1) := by decide +kernel
theorem dX3_init_32 : decode cX3_init 32 = .ok (.bipush 80, 2) := by decide +kernel
theorem dX3_init_34 : decode cX3_init 34 = .ok (.newarray .int, 2) := by decide +kernel
theorem dX3_init_36 : decode cX3_init 36 = .ok (.putfield 19, 3) := by decide +kernel
theorem dX3_init_39 : decode cX3_init 39 = .ok (.aload_n 0, 1) := by decide +kernel
theorem dX3_init_40 : decode cX3_init 40 = .ok (.bipush 36, 2) := by decide +kernel
theorem dX3_init_42 : decode cX3_init 42 = .ok (.newarray .int, 2) := by decide +kernel
theorem dX3_init_44 : decode cX3_init 44 = .ok (.putfield 22, 3) := by decide +kernel
theorem dX3_init_47 : decode cX3_init 47 = .ok (.aload_n 0, 1) := by decide +kernel
theorem dX3_init_48 : decode cX3_init 48 = .ok (.bipush 36, 2) := by decide +kernel
theorem dX3_init_50 : decode cX3_init 50 = .ok (.newarray .int, 2) := by decide +kernel
theorem dX3_init_52 : decode cX3_init 52 = .ok (.putfield 25, 3) := by decide +kernel
theorem dX3_init_55 : decode cX3_init 55 = .ok (.aload_n 0, 1) := by decide +kernel
theorem dX3_init_56 : decode cX3_init 56 = .ok (.getfield 7, 3) := by decide +kernel
theorem dX3_init_59 : decode cX3_init 59 = .ok (.sipush 149, 3) := by decide +kernel
theorem dX3_init_62 : decode cX3_init 62 = .ok (.bipush 9, 2) := by decide +kernel
theorem dX3_init_64 : decode cX3_init 64 = .ok (.iastore, 1) := by decide +kernel
theorem dX3_init_65 : decode cX3_init 65 = .ok (.aload_n 0, 1) := by decide +kernel
theorem dX3_init_66 : decode cX3_init 66 = .ok (.getfield 7, 3) := by decide +kernel
theorem dX3_init_69 : decode cX3_init 69 = .ok (.sipush 150, 3) := by decide +kernel
theorem dX3_init_72 : decode cX3_init 72 = .ok (.iconst 1, 1) := by decide +kernel
theorem dX3_init_73 : decode cX3_init 73 = .ok (.iastore, 1) := by decide +kernel
theorem dX3_init_74 : decode cX3_init 74 = .ok (.aload_n 0, 1) := by decide +kernel
theorem dX3_init_75 : decode cX3_init 75 = .ok (.getfield 7, 3) := by decide +kernel
theorem dX3_init_78 : decode cX3_init 78 = .ok (.sipush 151, 3) := by decide +kernel
theorem dX3_init_81 : decode cX3_init 81 = .ok (.iconst 2, 1) := by decide +kernel
theorem dX3_init_82 : decode cX3_init 82 = .ok (.iastore, 1) := by decide +kernel
theorem dX3_init_83 : decode cX3_init 83 = .ok (.aload_n 0, 1) := by decide +kernel
theorem dX3_init_84 : decode cX3_init 84 = .ok (.invokevirtual 28, 3) := by decide +kernel
theorem dX3_init_87 : decode cX3_init 87 = .ok (.return_, 1) := by decide +kernel
theorem dX3_in_0 : decode cX3_in 0 = .ok (.iload_n 0, 1) := by decide +kernel
theorem dX3_in_1 : decode cX3_in 1 = .ok (.iload_n 1, 1) := by decide +kernel
theorem dX3_in_2 : decode cX3_in 2 = .ok (.if_icmp .lt 12, 3) := by decide +kernel
theorem dX3_in_5 : decode cX3_in 5 = .ok (.iload_n 0, 1) := by decide +kernel
theorem dX3_in_6 : decode cX3_in 6 = .ok (.iload_n 2, 1) := by decide +kernel
theorem dX3_in_7 : decode cX3_in 7 = .ok (.if_icmp .gt 7, 3) := by decide +kernel
theorem dX3_in_10 : decode cX3_in 10 = .ok (.iconst 1, 1) := by decide +kernel
theorem dX3_in_11 : decode cX3_in 11 = .ok (.goto 4, 3) := by decide +kernel
theorem dX3_in_14 : decode cX3_in 14 = .ok (.iconst 0, 1) := by decide +kernel
theorem dX3_in_15 : decode cX3_in 15 = .ok (.ireturn, 1) := by decide +kernel
theorem dX3_size_0 : decode cX3_size 0 = .ok (.iload_n 0, 1) := by decide +kernel
theorem dX3_size_1 : decode cX3_size 1 = .ok (.ifCond .ge 8, 3) := by decide +kernel
theorem dX3_size_4 : decode cX3_size 4 = .ok (.iload_n 0, 1) := by decide +kernel
theorem dX3_size_5 : decode cX3_size 5 = .ok (.ineg, 1) := by decide +kernel
theorem dX3_size_6 : decode cX3_size 6 = .ok (.goto 4, 3) := by decide +kernel
theorem dX3_size_9 : decode cX3_size 9 = .ok (.iload_n 0, 1) := by decide +kernel
theorem dX3_size_10 : decode cX3_size 10 = .ok (.ireturn, 1) := by decide +kernel
theorem dX3_lesser_0 : decode cX3_lesser 0 = .ok (.iload_n 0, 1) := by decide +kernel
theorem dX3_lesser_1 : decode cX3_lesser 1 = .ok (.iload_n 1, 1) := by decide +kernel
theorem dX3_lesser_2 : decode cX3_lesser 2 = .ok (.if_icmp .ge 7, 3) := by decide +kernel
theorem dX3_lesser_5 : decode cX3_lesser 5 = .ok (.iload_n 0, 1) := by decide +kernel
theorem dX3_lesser_6 : decode cX3_lesser 6 = .ok (.goto 4, 3) := by decide +kernel
theorem dX3_lesser_9 : decode cX3_lesser 9 = .ok (.iload_n 1, 1) := by decide +kernel
theorem dX3_lesser_10 : decode cX3_lesser 10 = .ok (.ireturn, 1) := by decide +kernel
theorem dX3_isCell_0 : decode cX3_isCell 0 = .ok (.iload_n 0, 1) := by decide +kernel
theorem dX3_isCell_1 : decode cX3_isCell 1 = .ok (.iconst 0, 1) := by decide +kernel
theorem dX3_isCell_2 : decode cX3_isCell 2 = .ok (.bipush 35, 2) := by decide +kernel
theorem dX3_isCell_4 : decode cX3_isCell 4 = .ok (.invokestatic 31, 3) := by decide +kernel
theorem dX3_isCell_7 : decode cX3_isCell 7 = .ok (.ireturn, 1) := by decide +kernel
theorem dX3_isSide_0 : decode cX3_isSide 0 = .ok (.iload_n 0, 1) := by decide +kernel
theorem dX3_isSide_1 : decode cX3_isSide 1 = .ok (.iconst 0, 1) := by decide +kernel
theorem dX3_isSide_2 : decode cX3_isSide 2 = .ok (.iconst 1, 1) := by decide +kernel
theorem dX3_isSide_3 : decode cX3_isSide 3 = .ok (.invokestatic 31, 3) := by decide +kernel
theorem dX3_isSide_6 : decode cX3_isSide 6 = .ok (.ireturn, 1) := by decide +kernel
theorem dX3_records_0 : decode cX3_records 0 = .ok (.aload_n 0, 1) := by decide +kernel
theorem dX3_records_1 : decode cX3_records 1 = .ok (.getfield 35, 3) := by decide +kernel
theorem dX3_records_4 : decode cX3_records 4 = .ok (.iconst 5, 1) := by decide +kernel
theorem dX3_records_5 : decode cX3_records 5 = .ok (.if_icmp .ne 44, 3) := by decide +kernel
theorem dX3_records_8 : decode cX3_records 8 = .ok (.iconst 0, 1) := by decide +kernel
theorem dX3_records_9 : decode cX3_records 9 = .ok (.istore_n 1, 1) := by decide +kernel
theorem dX3_records_10 : decode cX3_records 10 = .ok (.iload_n 1, 1) := by decide +kernel
theorem dX3_records_11 : decode cX3_records 11 = .ok (.sipush 636, 3) := by decide +kernel
theorem dX3_records_14 : decode cX3_records 14 = .ok (.if_icmp .ge 25, 3) := by decide +kernel
theorem dX3_records_17 : decode cX3_records 17 = .ok (.aload_n 0, 1) := by decide +kernel
theorem dX3_records_18 : decode cX3_records 18 = .ok (.getfield 13, 3) := by decide +kernel
theorem dX3_records_21 : decode cX3_records 21 = .ok (.iload_n 1, 1) := by decide +kernel
theorem dX3_records_22 : decode cX3_records 22 = .ok (.aload_n 0, 1) := by decide +kernel
theorem dX3_records_23 : decode cX3_records 23 = .ok (.getfield 13, 3) := by decide +kernel
theorem dX3_records_26 : decode cX3_records 26 = .ok (.iload_n 1, 1) := by decide +kernel
theorem dX3_records_27 : decode cX3_records 27 = .ok (.sipush 159, 3) := by decide +kernel
theorem dX3_records_30 : decode cX3_records 30 = .ok (.iadd, 1) := by decide +kernel
theorem dX3_records_31 : decode cX3_records 31 = .ok (.iaload, 1) := by decide +kernel
theorem dX3_records_32 : decode cX3_records 32 = .ok (.iastore, 1) := by decide +kernel
theorem dX3_records_33 : decode cX3_records 33 = .ok (.iinc 1 1, 3) := by decide +kernel
theorem dX3_records_36 : decode cX3_records 36 = .ok (.goto (-26), 3) := by decide +kernel
theorem dX3_records_39 : decode cX3_records 39 = .ok (.aload_n 0, 1) := by decide +kernel
theorem dX3_records_40 : decode cX3_records 40 = .ok (.dup, 1) := by decide +kernel
theorem dX3_records_41 : decode cX3_records 41 = .ok (.getfield 35, 3) := by decide +kernel
theorem dX3_records_44 : decode cX3_records 44 = .ok (.iconst 1, 1) := by decide +kernel
theorem dX3_records_45 : decode cX3_records 45 = .ok (.isub, 1) := by decide +kernel
theorem dX3_records_46 : decode cX3_records 46 = .ok (.putfield 35, 3) := by decide +kernel
theorem dX3_records_49 : decode cX3_records 49 = .ok (.iconst 0, 1) := by decide +kernel
theorem dX3_records_50 : decode cX3_records 50 = .ok (.istore_n 1, 1) := by decide +kernel
theorem dX3_records_51 : decode cX3_records 51 = .ok (.iload_n 1, 1) := by decide +kernel
theorem dX3_records_52 : decode cX3_records 52 = .ok (.sipush 159, 3) := by decide +kernel
theorem dX3_records_55 : decode cX3_records 55 = .ok (.if_icmp .ge 30, 3) := by decide +kernel
theorem dX3_records_58 : decode cX3_records 58 = .ok (.aload_n 0, 1) := by decide +kernel
theorem dX3_records_59 : decode cX3_records 59 = .ok (.getfield 13, 3) := by decide +kernel
theorem dX3_records_62 : decode cX3_records 62 = .ok (.sipush 159, 3) := by decide +kernel
theorem dX3_records_65 : decode cX3_records 65 = .ok (.aload_n 0, 1) := by decide +kernel
theorem dX3_records_66 : decode cX3_records 66 = .ok (.getfield 35, 3) := by decide +kernel
theorem dX3_records_69 : decode cX3_records 69 = .ok (.imul, 1) := by decide +kernel
theorem dX3_records_70 : decode cX3_records 70 = .ok (.iload_n 1, 1) := by decide +kernel
theorem dX3_records_71 : decode cX3_records 71 = .ok (.iadd, 1) := by decide +kernel
theorem dX3_records_72 : decode cX3_records 72 = .ok (.aload_n 0, 1) := by decide +kernel
theorem dX3_records_73 : decode cX3_records 73 = .ok (.getfield 7, 3) := by decide +kernel
theorem dX3_records_76 : decode cX3_records 76 = .ok (.iload_n 1, 1) := by decide +kernel
theorem dX3_records_77 : decode cX3_records 77 = .ok (.iaload, 1) := by decide +kernel
theorem dX3_records_78 : decode cX3_records 78 = .ok (.iastore, 1) := by decide +kernel
theorem dX3_records_79 : decode cX3_records 79 = .ok (.iinc 1 1, 3) := by decide +kernel
theorem dX3_records_82 : decode cX3_records 82 = .ok (.goto (-31), 3) := by decide +kernel
theorem dX3_records_85 : decode cX3_records 85 = .ok (.aload_n 0, 1) := by decide +kernel
theorem dX3_records_86 : decode cX3_records 86 = .ok (.dup, 1) := by decide +kernel
theorem dX3_records_87 : decode cX3_records 87 = .ok (.getfield 35, 3) := by decide +kernel
theorem dX3_records_90 : decode cX3_records 90 = .ok (.iconst 1, 1) := by decide +kernel
theorem dX3_records_91 : decode cX3_records 91 = .ok (.iadd, 1) := by decide +kernel
theorem dX3_records_92 : decode cX3_records 92 = .ok (.putfield 35, 3) := by decide +kernel
theorem dX3_records_95 : decode cX3_records 95 = .ok (.return_, 1) := by decide +kernel
theorem dX3_undo_0 : decode cX3_undo 0 = .ok (.aload_n 0, 1) := by decide +kernel
theorem dX3_undo_1 : decode cX3_undo 1 = .ok (.getfield 35, 3) := by decide +kernel
theorem dX3_undo_4 : decode cX3_undo 4 = .ok (.ifCond .ne 6, 3) := by decide +kernel
theorem dX3_undo_7 : decode cX3_undo 7 = .ok (.bipush (-2), 2) := by decide +kernel
theorem dX3_undo_9 : decode cX3_undo 9 = .ok (.ireturn, 1) := by decide +kernel
theorem dX3_undo_10 : decode cX3_undo 10 = .ok (.aload_n 0, 1) := by decide +kernel
theorem dX3_undo_11 : decode cX3_undo 11 = .ok (.dup, 1) := by decide +kernel
theorem dX3_undo_12 : decode cX3_undo 12 = .ok (.getfield 35, 3) := by decide +kernel
theorem dX3_undo_15 : decode cX3_undo 15 = .ok (.iconst 1, 1) := by decide +kernel
theorem dX3_undo_16 : decode cX3_undo 16 = .ok (.isub, 1) := by decide +kernel
theorem dX3_undo_17 : decode cX3_undo 17 = .ok (.putfield 35, 3) := by decide +kernel
theorem dX3_undo_20 : decode cX3_undo 20 = .ok (.iconst 0, 1) := by decide +kernel
theorem dX3_undo_21 : decode cX3_undo 21 = .ok (.istore_n 1, 1) := by decide +kernel
theorem dX3_undo_22 : decode cX3_undo 22 = .ok (.iload_n 1, 1) := by decide +kernel
theorem dX3_undo_23 : decode cX3_undo 23 = .ok (.sipush 159, 3) := by decide +kernel
theorem dX3_undo_26 : decode cX3_undo 26 = .ok (.if_icmp .ge 30, 3) := by decide +kernel
theorem dX3_undo_29 : decode cX3_undo 29 = .ok (.aload_n 0, 1) := by decide +kernel
theorem dX3_undo_30 : decode cX3_undo 30 = .ok (.getfield 7, 3) := by decide +kernel
theorem dX3_undo_33 : decode cX3_undo 33 = .ok (.iload_n 1, 1) := by decide +kernel
theorem dX3_undo_34 : decode cX3_undo 34 = .ok (.aload_n 0, 1) := by decide +kernel
theorem dX3_undo_35 : decode cX3_undo 35 = .ok (.getfield 13, 3) := by decide +kernel
theorem dX3_undo_38 : decode cX3_undo 38 = .ok (.sipush 159, 3) := by decide +kernel
theorem dX3_undo_41 : decode cX3_undo 41 = .ok (.aload_n 0, 1) := by decide +kernel
theorem dX3_undo_42 : decode cX3_undo 42 = .ok (.getfield 35, 3) := by decide +kernel
theorem dX3_undo_45 : decode cX3_undo 45 = .ok (.imul, 1) := by decide +kernel
theorem dX3_undo_46 : decode cX3_undo 46 = .ok (.iload_n 1, 1) := by decide +kernel
theorem dX3_undo_47 : decode cX3_undo 47 = .ok (.iadd, 1) := by decide +kernel
theorem dX3_undo_48 : decode cX3_undo 48 = .ok (.iaload, 1) := by decide +kernel
theorem dX3_undo_49 : decode cX3_undo 49 = .ok (.iastore, 1) := by decide +kernel
theorem dX3_undo_50 : decode cX3_undo 50 = .ok (.iinc 1 1, 3) := by decide +kernel
theorem dX3_undo_53 : decode cX3_undo 53 = .ok (.goto (-31), 3) := by decide +kernel
theorem dX3_undo_56 : decode cX3_undo 56 = .ok (.aload_n 0, 1) := by decide +kernel
theorem dX3_undo_57 : decode cX3_undo 57 = .ok (.getfield 35, 3) := by decide +kernel
theorem dX3_undo_60 : decode cX3_undo 60 = .ok (.ireturn, 1) := by decide +kernel
theorem dX3_laysAside_0 : decode cX3_laysAside 0 = .ok (.iconst 0, 1) := by decide +kernel
theorem dX3_laysAside_1 : decode cX3_laysAside 1 = .ok (.istore_n 1, 1) := by decide +kernel
theorem dX3_laysAside_2 : decode cX3_laysAside 2 = .ok (.iload_n 1, 1) := by decide +kernel
theorem dX3_laysAside_3 : decode cX3_laysAside 3 = .ok (.sipush 159, 3) := by decide +kernel
theorem dX3_laysAside_6 : decode cX3_laysAside 6 = .ok (.if_icmp .ge 21, 3) := by decide +kernel
theorem dX3_laysAside_9 : decode cX3_laysAside 9 = .ok (.aload_n 0, 1) := by decide +kernel
theorem dX3_laysAside_10 : decode cX3_laysAside 10 = .ok (.getfield 16, 3) := by decide +kernel
theorem dX3_laysAside_13 : decode cX3_laysAside 13 = .ok (.iload_n 1, 1) := by decide +kernel
theorem dX3_laysAside_14 : decode cX3_laysAside 14 = .ok (.aload_n 0, 1) := by decide +kernel
theorem dX3_laysAside_15 : decode cX3_laysAside 15 = .ok (.getfield 7, 3) := by decide +kernel
theorem dX3_laysAside_18 : decode cX3_laysAside 18 = .ok (.iload_n 1, 1) := by decide +kernel
theorem dX3_laysAside_19 : decode cX3_laysAside 19 = .ok (.iaload, 1) := by decide +kernel
theorem dX3_laysAside_20 : decode cX3_laysAside 20 = .ok (.iastore, 1) := by decide +kernel
theorem dX3_laysAside_21 : decode cX3_laysAside 21 = .ok (.iinc 1 1, 3) := by decide +kernel
theorem dX3_laysAside_24 : decode cX3_laysAside 24 = .ok (.goto (-22), 3) := by decide +kernel
theorem dX3_laysAside_27 : decode cX3_laysAside 27 = .ok (.return_, 1) := by decide +kernel
theorem dX3_bringsBack_0 : decode cX3_bringsBack 0 = .ok (.iconst 0, 1) := by decide +kernel
theorem dX3_bringsBack_1 : decode cX3_bringsBack 1 = .ok (.istore_n 1, 1) := by decide +kernel
theorem dX3_bringsBack_2 : decode cX3_bringsBack 2 = .ok (.iload_n 1, 1) := by decide +kernel
theorem dX3_bringsBack_3 : decode cX3_bringsBack 3 = .ok (.sipush 159, 3) := by decide +kernel
theorem dX3_bringsBack_6 : decode cX3_bringsBack 6 = .ok (.if_icmp .ge 21, 3) := by decide +kernel
theorem dX3_bringsBack_9 : decode cX3_bringsBack 9 = .ok (.aload_n 0, 1) := by decide +kernel
theorem dX3_bringsBack_10 : decode cX3_bringsBack 10 = .ok (.getfield 7, 3) := by decide +kernel
theorem dX3_bringsBack_13 : decode cX3_bringsBack 13 = .ok (.iload_n 1, 1) := by decide +kernel
theorem dX3_bringsBack_14 : decode cX3_bringsBack 14 = .ok (.aload_n 0, 1) := by decide +kernel
theorem dX3_bringsBack_15 : decode cX3_bringsBack 15 = .ok (.getfield 16, 3) := by decide +kernel
theorem dX3_bringsBack_18 : decode cX3_bringsBack 18 = .ok (.iload_n 1, 1) := by decide +kernel
theorem dX3_bringsBack_19 : decode cX3_bringsBack 19 = .ok (.iaload, 1) := by decide +kernel
theorem dX3_bringsBack_20 : decode cX3_bringsBack 20 = .ok (.iastore, 1) := by decide +kernel
theorem dX3_bringsBack_21 : decode cX3_bringsBack 21 = .ok (.iinc 1 1, 3) := by decide +kernel
theorem dX3_bringsBack_24 : decode cX3_bringsBack 24 = .ok (.goto (-22), 3) := by decide +kernel
theorem dX3_bringsBack_27 : decode cX3_bringsBack 27 = .ok (.return_, 1) := by decide +kernel
theorem dX3_lays_0 : decode cX3_lays 0 = .ok (.aload_n 0, 1) := by decide +kernel
theorem dX3_lays_1 : decode cX3_lays 1 = .ok (.getfield 7, 3) := by decide +kernel
theorem dX3_lays_4 : decode cX3_lays 4 = .ok (.iconst 0, 1) := by decide +kernel
theorem dX3_lays_5 : decode cX3_lays 5 = .ok (.iload_n 1, 1) := by decide +kernel
theorem dX3_lays_6 : decode cX3_lays 6 = .ok (.iadd, 1) := by decide +kernel
theorem dX3_lays_7 : decode cX3_lays 7 = .ok (.iload_n 2, 1) := by decide +kernel
theorem dX3_lays_8 : decode cX3_lays 8 = .ok (.iastore, 1) := by decide +kernel
theorem dX3_lays_9 : decode cX3_lays 9 = .ok (.aload_n 0, 1) := by decide +kernel
theorem dX3_lays_10 : decode cX3_lays 10 = .ok (.getfield 7, 3) := by decide +kernel
theorem dX3_lays_13 : decode cX3_lays 13 = .ok (.bipush 36, 2) := by decide +kernel
theorem dX3_lays_15 : decode cX3_lays 15 = .ok (.iload_n 1, 1) := by decide +kernel
theorem dX3_lays_16 : decode cX3_lays 16 = .ok (.iadd, 1) := by decide +kernel
theorem dX3_lays_17 : decode cX3_lays 17 = .ok (.iload_n 3, 1) := by decide +kernel
theorem dX3_lays_18 : decode cX3_lays 18 = .ok (.iastore, 1) := by decide +kernel
theorem dX3_lays_19 : decode cX3_lays 19 = .ok (.aload_n 0, 1) := by decide +kernel
theorem dX3_lays_20 : decode cX3_lays 20 = .ok (.getfield 7, 3) := by decide +kernel
theorem dX3_lays_23 : decode cX3_lays 23 = .ok (.bipush 72, 2) := by decide +kernel
theorem dX3_lays_25 : decode cX3_lays 25 = .ok (.iload_n 1, 1) := by decide +kernel
theorem dX3_lays_26 : decode cX3_lays 26 = .ok (.iadd, 1) := by decide +kernel
theorem dX3_lays_27 : decode cX3_lays 27 = .ok (.iload 4, 2) := by decide +kernel
theorem dX3_lays_29 : decode cX3_lays 29 = .ok (.iastore, 1) := by decide +kernel
theorem dX3_lays_30 : decode cX3_lays 30 = .ok (.return_, 1) := by decide +kernel
theorem dX3_springs_0 : decode cX3_springs 0 = .ok (.iconst 0, 1) := by decide +kernel
theorem dX3_springs_1 : decode cX3_springs 1 = .ok (.istore_n 2, 1) := by decide +kernel
theorem dX3_springs_2 : decode cX3_springs 2 = .ok (.iconst 0, 1) := by decide +kernel
theorem dX3_springs_3 : decode cX3_springs 3 = .ok (.istore_n 3, 1) := by decide +kernel
theorem dX3_springs_4 : decode cX3_springs 4 = .ok (.iload_n 3, 1) := by decide +kernel
theorem dX3_springs_5 : decode cX3_springs 5 = .ok (.bipush 36, 2) := by decide +kernel
theorem dX3_springs_7 : decode cX3_springs 7 = .ok (.if_icmp .ge 37, 3) := by decide +kernel
theorem dX3_springs_10 : decode cX3_springs 10 = .ok (.iload_n 2, 1) := by decide +kernel
theorem dX3_springs_11 : decode cX3_springs 11 = .ok (.aload_n 0, 1) := by decide +kernel
theorem dX3_springs_12 : decode cX3_springs 12 = .ok (.getfield 7, 3) := by decide +kernel
theorem dX3_springs_15 : decode cX3_springs 15 = .ok (.iconst 0, 1) := by decide +kernel
theorem dX3_springs_16 : decode cX3_springs 16 = .ok (.iload_n 3, 1) := by decide +kernel
theorem dX3_springs_17 : decode cX3_springs 17 = .ok (.iadd, 1) := by decide +kernel
theorem dX3_springs_18 : decode cX3_springs 18 = .ok (.iaload, 1) := by decide +kernel
theorem dX3_springs_19 : decode cX3_springs 19 = .ok (.iload_n 1, 1) := by decide +kernel
theorem dX3_springs_20 : decode cX3_springs 20 = .ok (.if_icmp .ne 15, 3) := by decide +kernel
theorem dX3_springs_23 : decode cX3_springs 23 = .ok (.aload_n 0, 1) := by decide +kernel
theorem dX3_springs_24 : decode cX3_springs 24 = .ok (.getfield 7, 3) := by decide +kernel
theorem dX3_springs_27 : decode cX3_springs 27 = .ok (.bipush 72, 2) := by decide +kernel
theorem dX3_springs_29 : decode cX3_springs 29 = .ok (.iload_n 3, 1) := by decide +kernel
theorem dX3_springs_30 : decode cX3_springs 30 = .ok (.iadd, 1) := by decide +kernel
theorem dX3_springs_31 : decode cX3_springs 31 = .ok (.iaload, 1) := by decide +kernel
theorem dX3_springs_32 : decode cX3_springs 32 = .ok (.goto 4, 3) := by decide +kernel
theorem dX3_springs_35 : decode cX3_springs 35 = .ok (.iconst 0, 1) := by decide +kernel
theorem dX3_springs_36 : decode cX3_springs 36 = .ok (.iadd, 1) := by decide +kernel
theorem dX3_springs_37 : decode cX3_springs 37 = .ok (.istore_n 2, 1) := by decide +kernel
theorem dX3_springs_38 : decode cX3_springs 38 = .ok (.iinc 3 1, 3) := by decide +kernel
theorem dX3_springs_41 : decode cX3_springs 41 = .ok (.goto (-37), 3) := by decide +kernel
theorem dX3_springs_44 : decode cX3_springs 44 = .ok (.iload_n 2, 1) := by decide +kernel
theorem dX3_springs_45 : decode cX3_springs 45 = .ok (.ireturn, 1) := by decide +kernel
theorem dX3_allSprings_0 : decode cX3_allSprings 0 = .ok (.aload_n 0, 1) := by decide +kernel
theorem dX3_allSprings_1 : decode cX3_allSprings 1 = .ok (.iconst 0, 1) := by decide +kernel
theorem dX3_allSprings_2 : decode cX3_allSprings 2 = .ok (.invokevirtual 39, 3) := by decide +kernel
theorem dX3_allSprings_5 : decode cX3_allSprings 5 = .ok (.aload_n 0, 1) := by decide +kernel
theorem dX3_allSprings_6 : decode cX3_allSprings 6 = .ok (.iconst 1, 1) := by decide +kernel
theorem dX3_allSprings_7 : decode cX3_allSprings 7 = .ok (.invokevirtual 39, 3) := by decide +kernel
theorem dX3_allSprings_10 : decode cX3_allSprings 10 = .ok (.iadd, 1) := by decide +kernel
theorem dX3_allSprings_11 : decode cX3_allSprings 11 = .ok (.ireturn, 1) := by decide +kernel
theorem dX3_begins_0 : decode cX3_begins 0 = .ok (.aload_n 0, 1) := by decide +kernel
theorem dX3_begins_1 : decode cX3_begins 1 = .ok (.getfield 7, 3) := by decide +kernel
theorem dX3_begins_4 : decode cX3_begins 4 = .ok (.sipush 149, 3) := by decide +kernel
theorem dX3_begins_7 : decode cX3_begins 7 = .ok (.iaload, 1) := by decide +kernel
theorem dX3_begins_8 : decode cX3_begins 8 = .ok (.iconst 2, 1) := by decide +kernel
theorem dX3_begins_9 : decode cX3_begins 9 = .ok (.idiv, 1) := by decide +kernel
theorem dX3_begins_10 : decode cX3_begins 10 = .ok (.istore_n 1, 1) := by decide +kernel
theorem dX3_begins_11 : decode cX3_begins 11 = .ok (.iconst 0, 1) := by decide +kernel
theorem dX3_begins_12 : decode cX3_begins 12 = .ok (.istore_n 2, 1) := by decide +kernel
theorem dX3_begins_13 : decode cX3_begins 13 = .ok (.iload_n 2, 1) := by decide +kernel
theorem dX3_begins_14 : decode cX3_begins 14 = .ok (.bipush 36, 2) := by decide +kernel
theorem dX3_begins_16 : decode cX3_begins 16 = .ok (.if_icmp .ge 64, 3) := by decide +kernel
theorem dX3_begins_19 : decode cX3_begins 19 = .ok (.aload_n 0, 1) := by decide +kernel
theorem dX3_begins_20 : decode cX3_begins 20 = .ok (.iload_n 2, 1) := by decide +kernel
theorem dX3_begins_21 : decode cX3_begins 21 = .ok (.iconst (-1), 1) := by decide +kernel
theorem dX3_begins_22 : decode cX3_begins 22 = .ok (.iconst 0, 1) := by decide +kernel
theorem dX3_begins_23 : decode cX3_begins 23 = .ok (.iconst 0, 1) := by decide +kernel
theorem dX3_begins_24 : decode cX3_begins 24 = .ok (.invokevirtual 43, 3) := by decide +kernel
theorem dX3_begins_27 : decode cX3_begins 27 = .ok (.aload_n 0, 1) := by decide +kernel
theorem dX3_begins_28 : decode cX3_begins 28 = .ok (.getfield 7, 3) := by decide +kernel
theorem dX3_begins_31 : decode cX3_begins 31 = .ok (.bipush 108, 2) := by decide +kernel
theorem dX3_begins_33 : decode cX3_begins 33 = .ok (.iload_n 2, 1) := by decide +kernel
theorem dX3_begins_34 : decode cX3_begins 34 = .ok (.iadd, 1) := by decide +kernel
theorem dX3_begins_35 : decode cX3_begins 35 = .ok (.iload_n 2, 1) := by decide +kernel
theorem dX3_begins_36 : decode cX3_begins 36 = .ok (.ifCond .eq 32, 3) := by decide +kernel
theorem dX3_begins_39 : decode cX3_begins 39 = .ok (.iload_n 2, 1) := by decide +kernel
theorem dX3_begins_40 : decode cX3_begins 40 = .ok (.iconst 5, 1) := by decide +kernel
theorem dX3_begins_41 : decode cX3_begins 41 = .ok (.if_icmp .eq 27, 3) := by decide +kernel
theorem dX3_begins_44 : decode cX3_begins 44 = .ok (.iload_n 2, 1) := by decide +kernel
theorem dX3_begins_45 : decode cX3_begins 45 = .ok (.bipush 14, 2) := by decide +kernel
theorem dX3_begins_47 : decode cX3_begins 47 = .ok (.if_icmp .eq 21, 3) := by decide +kernel
theorem dX3_begins_50 : decode cX3_begins 50 = .ok (.iload_n 2, 1) := by decide +kernel
theorem dX3_begins_51 : decode cX3_begins 51 = .ok (.bipush 21, 2) := by decide +kernel
theorem dX3_begins_53 : decode cX3_begins 53 = .ok (.if_icmp .eq 15, 3) := by decide +kernel
theorem dX3_begins_56 : decode cX3_begins 56 = .ok (.iload_n 2, 1) := by decide +kernel
theorem dX3_begins_57 : decode cX3_begins 57 = .ok (.bipush 30, 2) := by decide +kernel
theorem dX3_begins_59 : decode cX3_begins 59 = .ok (.if_icmp .eq 9, 3) := by decide +kernel
theorem dX3_begins_62 : decode cX3_begins 62 = .ok (.iload_n 2, 1) := by decide +kernel
theorem dX3_begins_63 : decode cX3_begins 63 = .ok (.bipush 35, 2) := by decide +kernel
theorem dX3_begins_65 : decode cX3_begins 65 = .ok (.if_icmp .ne 7, 3) := by decide +kernel
theorem dX3_begins_68 : decode cX3_begins 68 = .ok (.iconst 1, 1) := by decide +kernel
theorem dX3_begins_69 : decode cX3_begins 69 = .ok (.goto 4, 3) := by decide +kernel
theorem dX3_begins_72 : decode cX3_begins 72 = .ok (.iconst 0, 1) := by decide +kernel
theorem dX3_begins_73 : decode cX3_begins 73 = .ok (.iastore, 1) := by decide +kernel
theorem dX3_begins_74 : decode cX3_begins 74 = .ok (.iinc 2 1, 3) := by decide +kernel
theorem dX3_begins_77 : decode cX3_begins 77 = .ok (.goto (-64), 3) := by decide +kernel
theorem dX3_begins_80 : decode cX3_begins 80 = .ok (.iconst 0, 1) := by decide +kernel
theorem dX3_begins_81 : decode cX3_begins 81 = .ok (.istore_n 2, 1) := by decide +kernel
theorem dX3_begins_82 : decode cX3_begins 82 = .ok (.iload_n 2, 1) := by decide +kernel
theorem dX3_begins_83 : decode cX3_begins 83 = .ok (.bipush 6, 2) := by decide +kernel
theorem dX3_begins_85 : decode cX3_begins 85 = .ok (.if_icmp .ge 83, 3) := by decide +kernel
theorem dX3_begins_88 : decode cX3_begins 88 = .ok (.iload_n 2, 1) := by decide +kernel
theorem dX3_begins_89 : decode cX3_begins 89 = .ok (.ifCond .eq 8, 3) := by decide +kernel
theorem dX3_begins_92 : decode cX3_begins 92 = .ok (.iload_n 2, 1) := by decide +kernel
theorem dX3_begins_93 : decode cX3_begins 93 = .ok (.iconst 5, 1) := by decide +kernel
theorem dX3_begins_94 : decode cX3_begins 94 = .ok (.if_icmp .ne 7, 3) := by decide +kernel
theorem dX3_begins_97 : decode cX3_begins 97 = .ok (.iconst 1, 1) := by decide +kernel
theorem dX3_begins_98 : decode cX3_begins 98 = .ok (.goto 22, 3) := by decide +kernel
theorem dX3_begins_101 : decode cX3_begins 101 = .ok (.iload_n 2, 1) := by decide +kernel
theorem dX3_begins_102 : decode cX3_begins 102 = .ok (.iconst 2, 1) := by decide +kernel
theorem dX3_begins_103 : decode cX3_begins 103 = .ok (.if_icmp .ne 7, 3) := by decide +kernel
theorem dX3_begins_106 : decode cX3_begins 106 = .ok (.iconst 0, 1) := by decide +kernel
theorem dX3_begins_107 : decode cX3_begins 107 = .ok (.goto 13, 3) := by decide +kernel
theorem dX3_begins_110 : decode cX3_begins 110 = .ok (.iload_n 2, 1) := by decide +kernel
theorem dX3_begins_111 : decode cX3_begins 111 = .ok (.iconst 3, 1) := by decide +kernel
theorem dX3_begins_112 : decode cX3_begins 112 = .ok (.if_icmp .ne 7, 3) := by decide +kernel
theorem dX3_begins_115 : decode cX3_begins 115 = .ok (.iconst 2, 1) := by decide +kernel
theorem dX3_begins_116 : decode cX3_begins 116 = .ok (.goto 4, 3) := by decide +kernel
theorem dX3_begins_119 : decode cX3_begins 119 = .ok (.iconst 3, 1) := by decide +kernel
theorem dX3_begins_120 : decode cX3_begins 120 = .ok (.istore_n 3, 1) := by decide +kernel
theorem dX3_begins_121 : decode cX3_begins 121 = .ok (.aload_n 0, 1) := by decide +kernel
theorem dX3_begins_122 : decode cX3_begins 122 = .ok (.iload_n 2, 1) := by decide +kernel
theorem dX3_begins_123 : decode cX3_begins 123 = .ok (.iconst 0, 1) := by decide +kernel
theorem dX3_begins_124 : decode cX3_begins 124 = .ok (.iload_n 3, 1) := by decide +kernel
theorem dX3_begins_125 : decode cX3_begins 125 = .ok (.iload_n 1, 1) := by decide +kernel
theorem dX3_begins_126 : decode cX3_begins 126 = .ok (.invokevirtual 43, 3) := by decide +kernel
theorem dX3_begins_129 : decode cX3_begins 129 = .ok (.aload_n 0, 1) := by decide +kernel
theorem dX3_begins_130 : decode cX3_begins 130 = .ok (.bipush 6, 2) := by decide +kernel
theorem dX3_begins_132 : decode cX3_begins 132 = .ok (.iload_n 2, 1) := by decide +kernel
theorem dX3_begins_133 : decode cX3_begins 133 = .ok (.iadd, 1) := by decide +kernel
theorem dX3_begins_134 : decode cX3_begins 134 = .ok (.iconst 0, 1) := by decide +kernel
theorem dX3_begins_135 : decode cX3_begins 135 = .ok (.iconst 4, 1) := by decide +kernel
theorem dX3_begins_136 : decode cX3_begins 136 = .ok (.iload_n 1, 1) := by decide +kernel
theorem dX3_begins_137 : decode cX3_begins 137 = .ok (.invokevirtual 43, 3) := by decide +kernel
theorem dX3_begins_140 : decode cX3_begins 140 = .ok (.aload_n 0, 1) := by decide +kernel
theorem dX3_begins_141 : decode cX3_begins 141 = .ok (.bipush 30, 2) := by decide +kernel
theorem dX3_begins_143 : decode cX3_begins 143 = .ok (.iload_n 2, 1) := by decide +kernel
theorem dX3_begins_144 : decode cX3_begins 144 = .ok (.iadd, 1) := by decide +kernel
theorem dX3_begins_145 : decode cX3_begins 145 = .ok (.iconst 1, 1) := by decide +kernel
theorem dX3_begins_146 : decode cX3_begins 146 = .ok (.iload_n 3, 1) := by decide +kernel
theorem dX3_begins_147 : decode cX3_begins 147 = .ok (.iload_n 1, 1) := by decide +kernel
theorem dX3_begins_148 : decode cX3_begins 148 = .ok (.invokevirtual 43, 3) := by decide +kernel
theorem dX3_begins_151 : decode cX3_begins 151 = .ok (.aload_n 0, 1) := by decide +kernel
theorem dX3_begins_152 : decode cX3_begins 152 = .ok (.bipush 24, 2) := by decide +kernel
theorem dX3_begins_154 : decode cX3_begins 154 = .ok (.iload_n 2, 1) := by decide +kernel
theorem dX3_begins_155 : decode cX3_begins 155 = .ok (.iadd, 1) := by decide +kernel
theorem dX3_begins_156 : decode cX3_begins 156 = .ok (.iconst 1, 1) := by decide +kernel
theorem dX3_begins_157 : decode cX3_begins 157 = .ok (.iconst 4, 1) := by decide +kernel
theorem dX3_begins_158 : decode cX3_begins 158 = .ok (.iload_n 1, 1) := by decide +kernel
theorem dX3_begins_159 : decode cX3_begins 159 = .ok (.invokevirtual 43, 3) := by decide +kernel
theorem dX3_begins_162 : decode cX3_begins 162 = .ok (.iinc 2 1, 3) := by decide +kernel
theorem dX3_begins_165 : decode cX3_begins 165 = .ok (.goto (-83), 3) := by decide +kernel
theorem dX3_begins_168 : decode cX3_begins 168 = .ok (.aload_n 0, 1) := by decide +kernel
theorem dX3_begins_169 : decode cX3_begins 169 = .ok (.getfield 7, 3) := by decide +kernel
theorem dX3_begins_172 : decode cX3_begins 172 = .ok (.sipush 144, 3) := by decide +kernel
theorem dX3_begins_175 : decode cX3_begins 175 = .ok (.iconst 0, 1) := by decide +kernel
theorem dX3_begins_176 : decode cX3_begins 176 = .ok (.iastore, 1) := by decide +kernel
theorem dX3_begins_177 : decode cX3_begins 177 = .ok (.aload_n 0, 1) := by decide +kernel
theorem dX3_begins_178 : decode cX3_begins 178 = .ok (.getfield 7, 3) := by decide +kernel
theorem dX3_begins_181 : decode cX3_begins 181 = .ok (.sipush 145, 3) := by decide +kernel
theorem dX3_begins_184 : decode cX3_begins 184 = .ok (.iconst 0, 1) := by decide +kernel
theorem dX3_begins_185 : decode cX3_begins 185 = .ok (.iastore, 1) := by decide +kernel
theorem dX3_begins_186 : decode cX3_begins 186 = .ok (.aload_n 0, 1) := by decide +kernel
theorem dX3_begins_187 : decode cX3_begins 187 = .ok (.getfield 7, 3) := by decide +kernel
theorem dX3_begins_190 : decode cX3_begins 190 = .ok (.sipush 146, 3) := by decide +kernel
theorem dX3_begins_193 : decode cX3_begins 193 = .ok (.iconst (-1), 1) := by decide +kernel
theorem dX3_begins_194 : decode cX3_begins 194 = .ok (.iastore, 1) := by decide +kernel
theorem dX3_begins_195 : decode cX3_begins 195 = .ok (.aload_n 0, 1) := by decide +kernel
theorem dX3_begins_196 : decode cX3_begins 196 = .ok (.getfield 7, 3) := by decide +kernel
theorem dX3_begins_199 : decode cX3_begins 199 = .ok (.sipush 147, 3) := by decide +kernel
theorem dX3_begins_202 : decode cX3_begins 202 = .ok (.iconst 0, 1) := by decide +kernel
theorem dX3_begins_203 : decode cX3_begins 203 = .ok (.iastore, 1) := by decide +kernel
theorem dX3_begins_204 : decode cX3_begins 204 = .ok (.aload_n 0, 1) := by decide +kernel
theorem dX3_begins_205 : decode cX3_begins 205 = .ok (.getfield 7, 3) := by decide +kernel
theorem dX3_begins_208 : decode cX3_begins 208 = .ok (.sipush 148, 3) := by decide +kernel
theorem dX3_begins_211 : decode cX3_begins 211 = .ok (.iconst 0, 1) := by decide +kernel
theorem dX3_begins_212 : decode cX3_begins 212 = .ok (.iastore, 1) := by decide +kernel
theorem dX3_begins_213 : decode cX3_begins 213 = .ok (.iconst 0, 1) := by decide +kernel
theorem dX3_begins_214 : decode cX3_begins 214 = .ok (.istore_n 2, 1) := by decide +kernel
theorem dX3_begins_215 : decode cX3_begins 215 = .ok (.iload_n 2, 1) := by decide +kernel
theorem dX3_begins_216 : decode cX3_begins 216 = .ok (.bipush 7, 2) := by decide +kernel
theorem dX3_begins_218 : decode cX3_begins 218 = .ok (.if_icmp .ge 20, 3) := by decide +kernel
theorem dX3_begins_221 : decode cX3_begins 221 = .ok (.aload_n 0, 1) := by decide +kernel
theorem dX3_begins_222 : decode cX3_begins 222 = .ok (.getfield 7, 3) := by decide +kernel
theorem dX3_begins_225 : decode cX3_begins 225 = .ok (.sipush 152, 3) := by decide +kernel
theorem dX3_begins_228 : decode cX3_begins 228 = .ok (.iload_n 2, 1) := by decide +kernel
theorem dX3_begins_229 : decode cX3_begins 229 = .ok (.iadd, 1) := by decide +kernel
theorem dX3_begins_230 : decode cX3_begins 230 = .ok (.iconst 0, 1) := by decide +kernel
theorem dX3_begins_231 : decode cX3_begins 231 = .ok (.iastore, 1) := by decide +kernel
theorem dX3_begins_232 : decode cX3_begins 232 = .ok (.iinc 2 1, 3) := by decide +kernel
theorem dX3_begins_235 : decode cX3_begins 235 = .ok (.goto (-20), 3) := by decide +kernel
theorem dX3_begins_238 : decode cX3_begins 238 = .ok (.aload_n 0, 1) := by decide +kernel
theorem dX3_begins_239 : decode cX3_begins 239 = .ok (.getfield 7, 3) := by decide +kernel
theorem dX3_begins_242 : decode cX3_begins 242 = .ok (.sipush 152, 3) := by decide +kernel
theorem dX3_begins_245 : decode cX3_begins 245 = .ok (.aload_n 0, 1) := by decide +kernel
theorem dX3_begins_246 : decode cX3_begins 246 = .ok (.invokevirtual 47, 3) := by decide +kernel
theorem dX3_begins_249 : decode cX3_begins 249 = .ok (.iastore, 1) := by decide +kernel
theorem dX3_begins_250 : decode cX3_begins 250 = .ok (.return_, 1) := by decide +kernel
theorem dX3_setUp_0 : decode cX3_setUp 0 = .ok (.aload_n 0, 1) := by decide +kernel
theorem dX3_setUp_1 : decode cX3_setUp 1 = .ok (.invokevirtual 51, 3) := by decide +kernel
theorem dX3_setUp_4 : decode cX3_setUp 4 = .ok (.aload_n 0, 1) := by decide +kernel
theorem dX3_setUp_5 : decode cX3_setUp 5 = .ok (.invokevirtual 28, 3) := by decide +kernel
theorem dX3_setUp_8 : decode cX3_setUp 8 = .ok (.aload_n 0, 1) := by decide +kernel
theorem dX3_setUp_9 : decode cX3_setUp 9 = .ok (.invokevirtual 47, 3) := by decide +kernel
theorem dX3_setUp_12 : decode cX3_setUp 12 = .ok (.ireturn, 1) := by decide +kernel
theorem dX3_canBe_0 : decode cX3_canBe 0 = .ok (.iload_n 0, 1) := by decide +kernel
theorem dX3_canBe_1 : decode cX3_canBe 1 = .ok (.ifCond .ne 13, 3) := by decide +kernel
theorem dX3_canBe_4 : decode cX3_canBe 4 = .ok (.iload_n 1, 1) := by decide +kernel
theorem dX3_canBe_5 : decode cX3_canBe 5 = .ok (.iconst 1, 1) := by decide +kernel
theorem dX3_canBe_6 : decode cX3_canBe 6 = .ok (.bipush 12, 2) := by decide +kernel
theorem dX3_canBe_8 : decode cX3_canBe 8 = .ok (.invokestatic 31, 3) := by decide +kernel
theorem dX3_canBe_11 : decode cX3_canBe 11 = .ok (.goto 26, 3) := by decide +kernel
theorem dX3_canBe_14 : decode cX3_canBe 14 = .ok (.iload_n 0, 1) := by decide +kernel
theorem dX3_canBe_15 : decode cX3_canBe 15 = .ok (.iconst 1, 1) := by decide +kernel
theorem dX3_canBe_16 : decode cX3_canBe 16 = .ok (.iconst 2, 1) := by decide +kernel
theorem dX3_canBe_17 : decode cX3_canBe 17 = .ok (.invokestatic 31, 3) := by decide +kernel
theorem dX3_canBe_20 : decode cX3_canBe 20 = .ok (.ifCond .eq 16, 3) := by decide +kernel
theorem dX3_canBe_23 : decode cX3_canBe 23 = .ok (.iload_n 1, 1) := by decide +kernel
theorem dX3_canBe_24 : decode cX3_canBe 24 = .ok (.iconst 0, 1) := by decide +kernel
theorem dX3_canBe_25 : decode cX3_canBe 25 = .ok (.iconst 5, 1) := by decide +kernel
theorem dX3_canBe_26 : decode cX3_canBe 26 = .ok (.invokestatic 31, 3) := by decide +kernel
theorem dX3_canBe_29 : decode cX3_canBe 29 = .ok (.ifCond .eq 7, 3) := by decide +kernel
theorem dX3_canBe_32 : decode cX3_canBe 32 = .ok (.iconst 1, 1) := by decide +kernel
theorem dX3_canBe_33 : decode cX3_canBe 33 = .ok (.goto 4, 3) := by decide +kernel
theorem dX3_canBe_36 : decode cX3_canBe 36 = .ok (.iconst 0, 1) := by decide +kernel
theorem dX3_canBe_37 : decode cX3_canBe 37 = .ok (.ireturn, 1) := by decide +kernel
theorem dX3_set_0 : decode cX3_set 0 = .ok (.iload_n 1, 1) := by decide +kernel
theorem dX3_set_1 : decode cX3_set 1 = .ok (.iload_n 2, 1) := by decide +kernel
theorem dX3_set_2 : decode cX3_set 2 = .ok (.invokestatic 54, 3) := by decide +kernel
theorem dX3_set_5 : decode cX3_set 5 = .ok (.ifCond .ne 5, 3) := by decide +kernel
theorem dX3_set_8 : decode cX3_set 8 = .ok (.iconst (-1), 1) := by decide +kernel
theorem dX3_set_9 : decode cX3_set 9 = .ok (.ireturn, 1) := by decide +kernel
theorem dX3_set_10 : decode cX3_set 10 = .ok (.aload_n 0, 1) := by decide +kernel
theorem dX3_set_11 : decode cX3_set 11 = .ok (.invokevirtual 51, 3) := by decide +kernel
theorem dX3_set_14 : decode cX3_set 14 = .ok (.aload_n 0, 1) := by decide +kernel
theorem dX3_set_15 : decode cX3_set 15 = .ok (.getfield 7, 3) := by decide +kernel
theorem dX3_set_18 : decode cX3_set 18 = .ok (.sipush 149, 3) := by decide +kernel
theorem dX3_set_21 : decode cX3_set 21 = .ok (.iload_n 1, 1) := by decide +kernel
theorem dX3_set_22 : decode cX3_set 22 = .ok (.iadd, 1) := by decide +kernel
theorem dX3_set_23 : decode cX3_set 23 = .ok (.iaload, 1) := by decide +kernel
theorem dX3_set_24 : decode cX3_set 24 = .ok (.istore_n 3, 1) := by decide +kernel
theorem dX3_set_25 : decode cX3_set 25 = .ok (.aload_n 0, 1) := by decide +kernel
theorem dX3_set_26 : decode cX3_set 26 = .ok (.getfield 7, 3) := by decide +kernel
theorem dX3_set_29 : decode cX3_set 29 = .ok (.sipush 149, 3) := by decide +kernel
theorem dX3_set_32 : decode cX3_set 32 = .ok (.iload_n 1, 1) := by decide +kernel
theorem dX3_set_33 : decode cX3_set 33 = .ok (.iadd, 1) := by decide +kernel
theorem dX3_set_34 : decode cX3_set 34 = .ok (.iload_n 2, 1) := by decide +kernel
theorem dX3_set_35 : decode cX3_set 35 = .ok (.iastore, 1) := by decide +kernel
theorem dX3_set_36 : decode cX3_set 36 = .ok (.iconst 0, 1) := by decide +kernel
theorem dX3_set_37 : decode cX3_set 37 = .ok (.istore 4, 2) := by decide +kernel
theorem dX3_set_39 : decode cX3_set 39 = .ok (.iload 4, 2) := by decide +kernel
theorem dX3_set_41 : decode cX3_set 41 = .ok (.bipush 36, 2) := by decide +kernel
theorem dX3_set_43 : decode cX3_set 43 = .ok (.if_icmp .ge 63, 3) := by decide +kernel
theorem dX3_set_46 : decode cX3_set 46 = .ok (.aload_n 0, 1) := by decide +kernel
theorem dX3_set_47 : decode cX3_set 47 = .ok (.getfield 7, 3) := by decide +kernel
theorem dX3_set_50 : decode cX3_set 50 = .ok (.bipush 72, 2) := by decide +kernel
theorem dX3_set_52 : decode cX3_set 52 = .ok (.iload 4, 2) := by decide +kernel
theorem dX3_set_54 : decode cX3_set 54 = .ok (.iadd, 1) := by decide +kernel
theorem dX3_set_55 : decode cX3_set 55 = .ok (.iaload, 1) := by decide +kernel
theorem dX3_set_56 : decode cX3_set 56 = .ok (.aload_n 0, 1) := by decide +kernel
theorem dX3_set_57 : decode cX3_set 57 = .ok (.getfield 7, 3) := by decide +kernel
theorem dX3_set_60 : decode cX3_set 60 = .ok (.sipush 149, 3) := by decide +kernel
theorem dX3_set_63 : decode cX3_set 63 = .ok (.iaload, 1) := by decide +kernel
theorem dX3_set_64 : decode cX3_set 64 = .ok (.isub, 1) := by decide +kernel
theorem dX3_set_65 : decode cX3_set 65 = .ok (.istore 5, 2) := by decide +kernel
theorem dX3_set_67 : decode cX3_set 67 = .ok (.iload 5, 2) := by decide +kernel
theorem dX3_set_69 : decode cX3_set 69 = .ok (.ifCond .le 31, 3) := by decide +kernel
theorem dX3_set_72 : decode cX3_set 72 = .ok (.aload_n 0, 1) := by decide +kernel
theorem dX3_set_73 : decode cX3_set 73 = .ok (.getfield 7, 3) := by decide +kernel
theorem dX3_set_76 : decode cX3_set 76 = .ok (.bipush 72, 2) := by decide +kernel
theorem dX3_set_78 : decode cX3_set 78 = .ok (.iload 4, 2) := by decide +kernel
theorem dX3_set_80 : decode cX3_set 80 = .ok (.iadd, 1) := by decide +kernel
theorem dX3_set_81 : decode cX3_set 81 = .ok (.dup2, 1) := by decide +kernel
theorem dX3_set_82 : decode cX3_set 82 = .ok (.iaload, 1) := by decide +kernel
theorem dX3_set_83 : decode cX3_set 83 = .ok (.iload 5, 2) := by decide +kernel
theorem dX3_set_85 : decode cX3_set 85 = .ok (.isub, 1) := by decide +kernel
theorem dX3_set_86 : decode cX3_set 86 = .ok (.iastore, 1) := by decide +kernel
theorem dX3_set_87 : decode cX3_set 87 = .ok (.aload_n 0, 1) := by decide +kernel
theorem dX3_set_88 : decode cX3_set 88 = .ok (.getfield 7, 3) := by decide +kernel
theorem dX3_set_91 : decode cX3_set 91 = .ok (.sipush 158, 3) := by decide +kernel
theorem dX3_set_94 : decode cX3_set 94 = .ok (.dup2, 1) := by decide +kernel
theorem dX3_set_95 : decode cX3_set 95 = .ok (.iaload, 1) := by decide +kernel
theorem dX3_set_96 : decode cX3_set 96 = .ok (.iload 5, 2) := by decide +kernel
theorem dX3_set_98 : decode cX3_set 98 = .ok (.isub, 1) := by decide +kernel
theorem dX3_set_99 : decode cX3_set 99 = .ok (.iastore, 1) := by decide +kernel
theorem dX3_set_100 : decode cX3_set 100 = .ok (.iinc 4 1, 3) := by decide +kernel
theorem dX3_set_103 : decode cX3_set 103 = .ok (.goto (-64), 3) := by decide +kernel
theorem dX3_set_106 : decode cX3_set 106 = .ok (.iload_n 3, 1) := by decide +kernel
theorem dX3_set_107 : decode cX3_set 107 = .ok (.ireturn, 1) := by decide +kernel
theorem dX3_put_0 : decode cX3_put 0 = .ok (.iload_n 1, 1) := by decide +kernel
theorem dX3_put_1 : decode cX3_put 1 = .ok (.invokestatic 58, 3) := by decide +kernel
theorem dX3_put_4 : decode cX3_put 4 = .ok (.ifCond .eq 38, 3) := by decide +kernel
theorem dX3_put_7 : decode cX3_put 7 = .ok (.iload_n 2, 1) := by decide +kernel
theorem dX3_put_8 : decode cX3_put 8 = .ok (.iconst (-1), 1) := by decide +kernel
theorem dX3_put_9 : decode cX3_put 9 = .ok (.iconst 1, 1) := by decide +kernel
theorem dX3_put_10 : decode cX3_put 10 = .ok (.invokestatic 31, 3) := by decide +kernel
theorem dX3_put_13 : decode cX3_put 13 = .ok (.ifCond .eq 29, 3) := by decide +kernel
theorem dX3_put_16 : decode cX3_put 16 = .ok (.iload_n 3, 1) := by decide +kernel
theorem dX3_put_17 : decode cX3_put 17 = .ok (.iconst 0, 1) := by decide +kernel
theorem dX3_put_18 : decode cX3_put 18 = .ok (.iconst 4, 1) := by decide +kernel
theorem dX3_put_19 : decode cX3_put 19 = .ok (.invokestatic 31, 3) := by decide +kernel
theorem dX3_put_22 : decode cX3_put 22 = .ok (.ifCond .eq 20, 3) := by decide +kernel
theorem dX3_put_25 : decode cX3_put 25 = .ok (.iload 4, 2) := by decide +kernel
theorem dX3_put_27 : decode cX3_put 27 = .ok (.iconst 0, 1) := by decide +kernel
theorem dX3_put_28 : decode cX3_put 28 = .ok (.aload_n 0, 1) := by decide +kernel
theorem dX3_put_29 : decode cX3_put 29 = .ok (.getfield 7, 3) := by decide +kernel
theorem dX3_put_32 : decode cX3_put 32 = .ok (.sipush 149, 3) := by decide +kernel
theorem dX3_put_35 : decode cX3_put 35 = .ok (.iaload, 1) := by decide +kernel
theorem dX3_put_36 : decode cX3_put 36 = .ok (.invokestatic 31, 3) := by decide +kernel
theorem dX3_put_39 : decode cX3_put 39 = .ok (.ifCond .ne 5, 3) := by decide +kernel
theorem dX3_put_42 : decode cX3_put 42 = .ok (.iconst (-1), 1) := by decide +kernel
theorem dX3_put_43 : decode cX3_put 43 = .ok (.ireturn, 1) := by decide +kernel
theorem dX3_put_44 : decode cX3_put 44 = .ok (.aload_n 0, 1) := by decide +kernel
theorem dX3_put_45 : decode cX3_put 45 = .ok (.getfield 7, 3) := by decide +kernel
theorem dX3_put_48 : decode cX3_put 48 = .ok (.sipush 145, 3) := by decide +kernel
theorem dX3_put_51 : decode cX3_put 51 = .ok (.iaload, 1) := by decide +kernel
theorem dX3_put_52 : decode cX3_put 52 = .ok (.ifCond .le 6, 3) := by decide +kernel
theorem dX3_put_55 : decode cX3_put 55 = .ok (.bipush (-2), 2) := by decide +kernel
theorem dX3_put_57 : decode cX3_put 57 = .ok (.ireturn, 1) := by decide +kernel
theorem dX3_put_58 : decode cX3_put 58 = .ok (.aload_n 0, 1) := by decide +kernel
theorem dX3_put_59 : decode cX3_put 59 = .ok (.invokevirtual 51, 3) := by decide +kernel
theorem dX3_put_62 : decode cX3_put 62 = .ok (.aload_n 0, 1) := by decide +kernel
theorem dX3_put_63 : decode cX3_put 63 = .ok (.getfield 7, 3) := by decide +kernel
theorem dX3_put_66 : decode cX3_put 66 = .ok (.iconst 0, 1) := by decide +kernel
theorem dX3_put_67 : decode cX3_put 67 = .ok (.iload_n 1, 1) := by decide +kernel
theorem dX3_put_68 : decode cX3_put 68 = .ok (.iadd, 1) := by decide +kernel
theorem dX3_put_69 : decode cX3_put 69 = .ok (.iaload, 1) := by decide +kernel
theorem dX3_put_70 : decode cX3_put 70 = .ok (.iconst (-1), 1) := by decide +kernel
theorem dX3_put_71 : decode cX3_put 71 = .ok (.if_icmp .ne 7, 3) := by decide +kernel
theorem dX3_put_74 : decode cX3_put 74 = .ok (.iconst 0, 1) := by decide +kernel
theorem dX3_put_75 : decode cX3_put 75 = .ok (.goto 4, 3) := by decide +kernel
theorem dX3_put_78 : decode cX3_put 78 = .ok (.iconst 1, 1) := by decide +kernel
theorem dX3_put_79 : decode cX3_put 79 = .ok (.istore 5, 2) := by decide +kernel
theorem dX3_put_81 : decode cX3_put 81 = .ok (.aload_n 0, 1) := by decide +kernel
theorem dX3_put_82 : decode cX3_put 82 = .ok (.getfield 7, 3) := by decide +kernel
theorem dX3_put_85 : decode cX3_put 85 = .ok (.bipush 72, 2) := by decide +kernel
theorem dX3_put_87 : decode cX3_put 87 = .ok (.iload_n 1, 1) := by decide +kernel
theorem dX3_put_88 : decode cX3_put 88 = .ok (.iadd, 1) := by decide +kernel
theorem dX3_put_89 : decode cX3_put 89 = .ok (.iaload, 1) := by decide +kernel
theorem dX3_put_90 : decode cX3_put 90 = .ok (.istore 6, 2) := by decide +kernel
theorem dX3_put_92 : decode cX3_put 92 = .ok (.iload_n 2, 1) := by decide +kernel
theorem dX3_put_93 : decode cX3_put 93 = .ok (.iconst (-1), 1) := by decide +kernel
theorem dX3_put_94 : decode cX3_put 94 = .ok (.if_icmp .ne 14, 3) := by decide +kernel
theorem dX3_put_97 : decode cX3_put 97 = .ok (.aload_n 0, 1) := by decide +kernel
theorem dX3_put_98 : decode cX3_put 98 = .ok (.iload_n 1, 1) := by decide +kernel
theorem dX3_put_99 : decode cX3_put 99 = .ok (.iconst (-1), 1) := by decide +kernel
theorem dX3_put_100 : decode cX3_put 100 = .ok (.iconst 0, 1) := by decide +kernel
theorem dX3_put_101 : decode cX3_put 101 = .ok (.iconst 0, 1) := by decide +kernel
theorem dX3_put_102 : decode cX3_put 102 = .ok (.invokevirtual 43, 3) := by decide +kernel
theorem dX3_put_105 : decode cX3_put 105 = .ok (.goto 12, 3) := by decide +kernel
theorem dX3_put_108 : decode cX3_put 108 = .ok (.aload_n 0, 1) := by decide +kernel
theorem dX3_put_109 : decode cX3_put 109 = .ok (.iload_n 1, 1) := by decide +kernel
theorem dX3_put_110 : decode cX3_put 110 = .ok (.iload_n 2, 1) := by decide +kernel
theorem dX3_put_111 : decode cX3_put 111 = .ok (.iload_n 3, 1) := by decide +kernel
theorem dX3_put_112 : decode cX3_put 112 = .ok (.iload 4, 2) := by decide +kernel
theorem dX3_put_114 : decode cX3_put 114 = .ok (.invokevirtual 43, 3) := by decide +kernel
theorem dX3_put_117 : decode cX3_put 117 = .ok (.aload_n 0, 1) := by decide +kernel
theorem dX3_put_118 : decode cX3_put 118 = .ok (.getfield 7, 3) := by decide +kernel
theorem dX3_put_121 : decode cX3_put 121 = .ok (.sipush 158, 3) := by decide +kernel
theorem dX3_put_124 : decode cX3_put 124 = .ok (.dup2, 1) := by decide +kernel
theorem dX3_put_125 : decode cX3_put 125 = .ok (.iaload, 1) := by decide +kernel
theorem dX3_put_126 : decode cX3_put 126 = .ok (.aload_n 0, 1) := by decide +kernel
theorem dX3_put_127 : decode cX3_put 127 = .ok (.getfield 7, 3) := by decide +kernel
theorem dX3_put_130 : decode cX3_put 130 = .ok (.bipush 72, 2) := by decide +kernel
theorem dX3_put_132 : decode cX3_put 132 = .ok (.iload_n 1, 1) := by decide +kernel
theorem dX3_put_133 : decode cX3_put 133 = .ok (.iadd, 1) := by decide +kernel
theorem dX3_put_134 : decode cX3_put 134 = .ok (.iaload, 1) := by decide +kernel
theorem dX3_put_135 : decode cX3_put 135 = .ok (.iload 6, 2) := by decide +kernel
theorem dX3_put_137 : decode cX3_put 137 = .ok (.isub, 1) := by decide +kernel
theorem dX3_put_138 : decode cX3_put 138 = .ok (.iadd, 1) := by decide +kernel
theorem dX3_put_139 : decode cX3_put 139 = .ok (.iastore, 1) := by decide +kernel
theorem dX3_put_140 : decode cX3_put 140 = .ok (.iload 5, 2) := by decide +kernel
theorem dX3_put_142 : decode cX3_put 142 = .ok (.ireturn, 1) := by decide +kernel
theorem dX3_towers_0 : decode cX3_towers 0 = .ok (.iconst 0, 1) := by decide +kernel
theorem dX3_towers_1 : decode cX3_towers 1 = .ok (.istore_n 1, 1) := by decide +kernel
theorem dX3_towers_2 : decode cX3_towers 2 = .ok (.iconst 0, 1) := by decide +kernel
theorem dX3_towers_3 : decode cX3_towers 3 = .ok (.istore_n 2, 1) := by decide +kernel
theorem dX3_towers_4 : decode cX3_towers 4 = .ok (.iload_n 2, 1) := by decide +kernel
theorem dX3_towers_5 : decode cX3_towers 5 = .ok (.bipush 36, 2) := by decide +kernel
theorem dX3_towers_7 : decode cX3_towers 7 = .ok (.if_icmp .ge 21, 3) := by decide +kernel
theorem dX3_towers_10 : decode cX3_towers 10 = .ok (.iload_n 1, 1) := by decide +kernel
theorem dX3_towers_11 : decode cX3_towers 11 = .ok (.aload_n 0, 1) := by decide +kernel
theorem dX3_towers_12 : decode cX3_towers 12 = .ok (.getfield 7, 3) := by decide +kernel
theorem dX3_towers_15 : decode cX3_towers 15 = .ok (.bipush 108, 2) := by decide +kernel
theorem dX3_towers_17 : decode cX3_towers 17 = .ok (.iload_n 2, 1) := by decide +kernel
theorem dX3_towers_18 : decode cX3_towers 18 = .ok (.iadd, 1) := by decide +kernel
theorem dX3_towers_19 : decode cX3_towers 19 = .ok (.iaload, 1) := by decide +kernel
theorem dX3_towers_20 : decode cX3_towers 20 = .ok (.iadd, 1) := by decide +kernel
theorem dX3_towers_21 : decode cX3_towers 21 = .ok (.istore_n 1, 1) := by decide +kernel
theorem dX3_towers_22 : decode cX3_towers 22 = .ok (.iinc 2 1, 3) := by decide +kernel
theorem dX3_towers_25 : decode cX3_towers 25 = .ok (.goto (-21), 3) := by decide +kernel
theorem dX3_towers_28 : decode cX3_towers 28 = .ok (.iload_n 1, 1) := by decide +kernel
theorem dX3_towers_29 : decode cX3_towers 29 = .ok (.ireturn, 1) := by decide +kernel
theorem dX3_tower_0 : decode cX3_tower 0 = .ok (.iload_n 1, 1) := by decide +kernel
theorem dX3_tower_1 : decode cX3_tower 1 = .ok (.invokestatic 58, 3) := by decide +kernel
theorem dX3_tower_4 : decode cX3_tower 4 = .ok (.ifCond .ne 5, 3) := by decide +kernel
theorem dX3_tower_7 : decode cX3_tower 7 = .ok (.iconst (-1), 1) := by decide +kernel
theorem dX3_tower_8 : decode cX3_tower 8 = .ok (.ireturn, 1) := by decide +kernel
theorem dX3_tower_9 : decode cX3_tower 9 = .ok (.aload_n 0, 1) := by decide +kernel
theorem dX3_tower_10 : decode cX3_tower 10 = .ok (.getfield 7, 3) := by decide +kernel
theorem dX3_tower_13 : decode cX3_tower 13 = .ok (.bipush 108, 2) := by decide +kernel
theorem dX3_tower_15 : decode cX3_tower 15 = .ok (.iload_n 1, 1) := by decide +kernel
theorem dX3_tower_16 : decode cX3_tower 16 = .ok (.iadd, 1) := by decide +kernel
theorem dX3_tower_17 : decode cX3_tower 17 = .ok (.iaload, 1) := by decide +kernel
theorem dX3_tower_18 : decode cX3_tower 18 = .ok (.ifCond .ne 15, 3) := by decide +kernel
theorem dX3_tower_21 : decode cX3_tower 21 = .ok (.aload_n 0, 1) := by decide +kernel
theorem dX3_tower_22 : decode cX3_tower 22 = .ok (.invokevirtual 62, 3) := by decide +kernel
theorem dX3_tower_25 : decode cX3_tower 25 = .ok (.bipush 6, 2) := by decide +kernel
theorem dX3_tower_27 : decode cX3_tower 27 = .ok (.if_icmp .ne 6, 3) := by decide +kernel
theorem dX3_tower_30 : decode cX3_tower 30 = .ok (.bipush (-3), 2) := by decide +kernel
theorem dX3_tower_32 : decode cX3_tower 32 = .ok (.ireturn, 1) := by decide +kernel
theorem dX3_tower_33 : decode cX3_tower 33 = .ok (.aload_n 0, 1) := by decide +kernel
theorem dX3_tower_34 : decode cX3_tower 34 = .ok (.invokevirtual 51, 3) := by decide +kernel
theorem dX3_tower_37 : decode cX3_tower 37 = .ok (.aload_n 0, 1) := by decide +kernel
theorem dX3_tower_38 : decode cX3_tower 38 = .ok (.getfield 7, 3) := by decide +kernel
theorem dX3_tower_41 : decode cX3_tower 41 = .ok (.bipush 108, 2) := by decide +kernel
theorem dX3_tower_43 : decode cX3_tower 43 = .ok (.iload_n 1, 1) := by decide +kernel
theorem dX3_tower_44 : decode cX3_tower 44 = .ok (.iadd, 1) := by decide +kernel
theorem dX3_tower_45 : decode cX3_tower 45 = .ok (.iconst 1, 1) := by decide +kernel
theorem dX3_tower_46 : decode cX3_tower 46 = .ok (.aload_n 0, 1) := by decide +kernel
theorem dX3_tower_47 : decode cX3_tower 47 = .ok (.getfield 7, 3) := by decide +kernel
theorem dX3_tower_50 : decode cX3_tower 50 = .ok (.bipush 108, 2) := by decide +kernel
theorem dX3_tower_52 : decode cX3_tower 52 = .ok (.iload_n 1, 1) := by decide +kernel
theorem dX3_tower_53 : decode cX3_tower 53 = .ok (.iadd, 1) := by decide +kernel
theorem dX3_tower_54 : decode cX3_tower 54 = .ok (.iaload, 1) := by decide +kernel
theorem dX3_tower_55 : decode cX3_tower 55 = .ok (.isub, 1) := by decide +kernel
theorem dX3_tower_56 : decode cX3_tower 56 = .ok (.iastore, 1) := by decide +kernel
theorem dX3_tower_57 : decode cX3_tower 57 = .ok (.aload_n 0, 1) := by decide +kernel
theorem dX3_tower_58 : decode cX3_tower 58 = .ok (.invokevirtual 62, 3) := by decide +kernel
theorem dX3_tower_61 : decode cX3_tower 61 = .ok (.ireturn, 1) := by decide +kernel
theorem dX3_cell_0 : decode cX3_cell 0 = .ok (.iload_n 1, 1) := by decide +kernel
theorem dX3_cell_1 : decode cX3_cell 1 = .ok (.invokestatic 58, 3) := by decide +kernel
theorem dX3_cell_4 : decode cX3_cell 4 = .ok (.ifCond .eq 12, 3) := by decide +kernel
theorem dX3_cell_7 : decode cX3_cell 7 = .ok (.iload_n 2, 1) := by decide +kernel
theorem dX3_cell_8 : decode cX3_cell 8 = .ok (.iconst 0, 1) := by decide +kernel
theorem dX3_cell_9 : decode cX3_cell 9 = .ok (.iconst 4, 1) := by decide +kernel
theorem dX3_cell_10 : decode cX3_cell 10 = .ok (.invokestatic 31, 3) := by decide +kernel
theorem dX3_cell_13 : decode cX3_cell 13 = .ok (.ifCond .ne 5, 3) := by decide +kernel
theorem dX3_cell_16 : decode cX3_cell 16 = .ok (.iconst (-1), 1) := by decide +kernel
theorem dX3_cell_17 : decode cX3_cell 17 = .ok (.ireturn, 1) := by decide +kernel
theorem dX3_cell_18 : decode cX3_cell 18 = .ok (.iload_n 2, 1) := by decide +kernel
theorem dX3_cell_19 : decode cX3_cell 19 = .ok (.iconst 3, 1) := by decide +kernel
theorem dX3_cell_20 : decode cX3_cell 20 = .ok (.if_icmp .ne 13, 3) := by decide +kernel
theorem dX3_cell_23 : decode cX3_cell 23 = .ok (.aload_n 0, 1) := by decide +kernel
theorem dX3_cell_24 : decode cX3_cell 24 = .ok (.getfield 7, 3) := by decide +kernel
theorem dX3_cell_27 : decode cX3_cell 27 = .ok (.bipush 108, 2) := by decide +kernel
theorem dX3_cell_29 : decode cX3_cell 29 = .ok (.iload_n 1, 1) := by decide +kernel
theorem dX3_cell_30 : decode cX3_cell 30 = .ok (.iadd, 1) := by decide +kernel
theorem dX3_cell_31 : decode cX3_cell 31 = .ok (.iaload, 1) := by decide +kernel
theorem dX3_cell_32 : decode cX3_cell 32 = .ok (.ireturn, 1) := by decide +kernel
theorem dX3_cell_33 : decode cX3_cell 33 = .ok (.aload_n 0, 1) := by decide +kernel
theorem dX3_cell_34 : decode cX3_cell 34 = .ok (.getfield 7, 3) := by decide +kernel
theorem dX3_cell_37 : decode cX3_cell 37 = .ok (.iconst 0, 1) := by decide +kernel
theorem dX3_cell_38 : decode cX3_cell 38 = .ok (.iload_n 1, 1) := by decide +kernel
theorem dX3_cell_39 : decode cX3_cell 39 = .ok (.iadd, 1) := by decide +kernel
theorem dX3_cell_40 : decode cX3_cell 40 = .ok (.iaload, 1) := by decide +kernel
theorem dX3_cell_41 : decode cX3_cell 41 = .ok (.iconst (-1), 1) := by decide +kernel
theorem dX3_cell_42 : decode cX3_cell 42 = .ok (.if_icmp .ne 6, 3) := by decide +kernel
theorem dX3_cell_45 : decode cX3_cell 45 = .ok (.bipush (-4), 2) := by decide +kernel
theorem dX3_cell_47 : decode cX3_cell 47 = .ok (.ireturn, 1) := by decide +kernel
theorem dX3_cell_48 : decode cX3_cell 48 = .ok (.iload_n 2, 1) := by decide +kernel
theorem dX3_cell_49 : decode cX3_cell 49 = .ok (.ifCond .ne 14, 3) := by decide +kernel
theorem dX3_cell_52 : decode cX3_cell 52 = .ok (.aload_n 0, 1) := by decide +kernel
theorem dX3_cell_53 : decode cX3_cell 53 = .ok (.getfield 7, 3) := by decide +kernel
theorem dX3_cell_56 : decode cX3_cell 56 = .ok (.iconst 0, 1) := by decide +kernel
theorem dX3_cell_57 : decode cX3_cell 57 = .ok (.iload_n 1, 1) := by decide +kernel
theorem dX3_cell_58 : decode cX3_cell 58 = .ok (.iadd, 1) := by decide +kernel
theorem dX3_cell_59 : decode cX3_cell 59 = .ok (.iaload, 1) := by decide +kernel
theorem dX3_cell_60 : decode cX3_cell 60 = .ok (.goto 42, 3) := by decide +kernel
theorem dX3_cell_63 : decode cX3_cell 63 = .ok (.iload_n 2, 1) := by decide +kernel
theorem dX3_cell_64 : decode cX3_cell 64 = .ok (.iconst 1, 1) := by decide +kernel
theorem dX3_cell_65 : decode cX3_cell 65 = .ok (.if_icmp .ne 15, 3) := by decide +kernel
theorem dX3_cell_68 : decode cX3_cell 68 = .ok (.aload_n 0, 1) := by decide +kernel
theorem dX3_cell_69 : decode cX3_cell 69 = .ok (.getfield 7, 3) := by decide +kernel
theorem dX3_cell_72 : decode cX3_cell 72 = .ok (.bipush 36, 2) := by decide +kernel
theorem dX3_cell_74 : decode cX3_cell 74 = .ok (.iload_n 1, 1) := by decide +kernel
theorem dX3_cell_75 : decode cX3_cell 75 = .ok (.iadd, 1) := by decide +kernel
theorem dX3_cell_76 : decode cX3_cell 76 = .ok (.iaload, 1) := by decide +kernel
theorem dX3_cell_77 : decode cX3_cell 77 = .ok (.goto 25, 3) := by decide +kernel
theorem dX3_cell_80 : decode cX3_cell 80 = .ok (.iload_n 2, 1) := by decide +kernel
theorem dX3_cell_81 : decode cX3_cell 81 = .ok (.iconst 2, 1) := by decide +kernel
theorem dX3_cell_82 : decode cX3_cell 82 = .ok (.if_icmp .ne 15, 3) := by decide +kernel
theorem dX3_cell_85 : decode cX3_cell 85 = .ok (.aload_n 0, 1) := by decide +kernel
theorem dX3_cell_86 : decode cX3_cell 86 = .ok (.getfield 7, 3) := by decide +kernel
theorem dX3_cell_89 : decode cX3_cell 89 = .ok (.bipush 72, 2) := by decide +kernel
theorem dX3_cell_91 : decode cX3_cell 91 = .ok (.iload_n 1, 1) := by decide +kernel
theorem dX3_cell_92 : decode cX3_cell 92 = .ok (.iadd, 1) := by decide +kernel
theorem dX3_cell_93 : decode cX3_cell 93 = .ok (.iaload, 1) := by decide +kernel
theorem dX3_cell_94 : decode cX3_cell 94 = .ok (.goto 8, 3) := by decide +kernel
theorem dX3_cell_97 : decode cX3_cell 97 = .ok (.aload_n 0, 1) := by decide +kernel
theorem dX3_cell_98 : decode cX3_cell 98 = .ok (.iload_n 1, 1) := by decide +kernel
theorem dX3_cell_99 : decode cX3_cell 99 = .ok (.invokevirtual 65, 3) := by decide +kernel
theorem dX3_cell_102 : decode cX3_cell 102 = .ok (.ireturn, 1) := by decide +kernel
theorem dX3_pieces_0 : decode cX3_pieces 0 = .ok (.iconst 0, 1) := by decide +kernel
theorem dX3_pieces_1 : decode cX3_pieces 1 = .ok (.istore_n 1, 1) := by decide +kernel
theorem dX3_pieces_2 : decode cX3_pieces 2 = .ok (.iconst 0, 1) := by decide +kernel
theorem dX3_pieces_3 : decode cX3_pieces 3 = .ok (.istore_n 2, 1) := by decide +kernel
theorem dX3_pieces_4 : decode cX3_pieces 4 = .ok (.iload_n 2, 1) := by decide +kernel
theorem dX3_pieces_5 : decode cX3_pieces 5 = .ok (.bipush 36, 2) := by decide +kernel
theorem dX3_pieces_7 : decode cX3_pieces 7 = .ok (.if_icmp .ge 29, 3) := by decide +kernel
theorem dX3_pieces_10 : decode cX3_pieces 10 = .ok (.iload_n 1, 1) := by decide +kernel
theorem dX3_pieces_11 : decode cX3_pieces 11 = .ok (.aload_n 0, 1) := by decide +kernel
theorem dX3_pieces_12 : decode cX3_pieces 12 = .ok (.getfield 7, 3) := by decide +kernel
theorem dX3_pieces_15 : decode cX3_pieces 15 = .ok (.iconst 0, 1) := by decide +kernel
theorem dX3_pieces_16 : decode cX3_pieces 16 = .ok (.iload_n 2, 1) := by decide +kernel
theorem dX3_pieces_17 : decode cX3_pieces 17 = .ok (.iadd, 1) := by decide +kernel
theorem dX3_pieces_18 : decode cX3_pieces 18 = .ok (.iaload, 1) := by decide +kernel
theorem dX3_pieces_19 : decode cX3_pieces 19 = .ok (.iconst (-1), 1) := by decide +kernel
theorem dX3_pieces_20 : decode cX3_pieces 20 = .ok (.if_icmp .ne 7, 3) := by decide +kernel
theorem dX3_pieces_23 : decode cX3_pieces 23 = .ok (.iconst 0, 1) := by decide +kernel
theorem dX3_pieces_24 : decode cX3_pieces 24 = .ok (.goto 4, 3) := by decide +kernel
theorem dX3_pieces_27 : decode cX3_pieces 27 = .ok (.iconst 1, 1) := by decide +kernel
theorem dX3_pieces_28 : decode cX3_pieces 28 = .ok (.iadd, 1) := by decide +kernel
theorem dX3_pieces_29 : decode cX3_pieces 29 = .ok (.istore_n 1, 1) := by decide +kernel
theorem dX3_pieces_30 : decode cX3_pieces 30 = .ok (.iinc 2 1, 3) := by decide +kernel
theorem dX3_pieces_33 : decode cX3_pieces 33 = .ok (.goto (-29), 3) := by decide +kernel
theorem dX3_pieces_36 : decode cX3_pieces 36 = .ok (.iload_n 1, 1) := by decide +kernel
theorem dX3_pieces_37 : decode cX3_pieces 37 = .ok (.ireturn, 1) := by decide +kernel
theorem dX3_count_0 : decode cX3_count 0 = .ok (.iload_n 1, 1) := by decide +kernel
theorem dX3_count_1 : decode cX3_count 1 = .ok (.tableswitch 206 0 25 #[119, 128, 137, 163, 172, 177, 182, 182, 191, 196, 206, 206, 206, 206, 206, 206, 206, 206, 206, 206, 206, 206, 206, 206, 206, 201], 119) := by decide +kernel
theorem dX3_count_120 : decode cX3_count 120 = .ok (.aload_n 0, 1) := by decide +kernel
theorem dX3_count_121 : decode cX3_count 121 = .ok (.getfield 7, 3) := by decide +kernel
theorem dX3_count_124 : decode cX3_count 124 = .ok (.sipush 144, 3) := by decide +kernel
theorem dX3_count_127 : decode cX3_count 127 = .ok (.iaload, 1) := by decide +kernel
theorem dX3_count_128 : decode cX3_count 128 = .ok (.ireturn, 1) := by decide +kernel
theorem dX3_count_129 : decode cX3_count 129 = .ok (.aload_n 0, 1) := by decide +kernel
theorem dX3_count_130 : decode cX3_count 130 = .ok (.getfield 7, 3) := by decide +kernel
theorem dX3_count_133 : decode cX3_count 133 = .ok (.sipush 145, 3) := by decide +kernel
theorem dX3_count_136 : decode cX3_count 136 = .ok (.iaload, 1) := by decide +kernel
theorem dX3_count_137 : decode cX3_count 137 = .ok (.ireturn, 1) := by decide +kernel
theorem dX3_count_138 : decode cX3_count 138 = .ok (.aload_n 0, 1) := by decide +kernel
theorem dX3_count_139 : decode cX3_count 139 = .ok (.getfield 7, 3) := by decide +kernel
theorem dX3_count_142 : decode cX3_count 142 = .ok (.sipush 146, 3) := by decide +kernel
theorem dX3_count_145 : decode cX3_count 145 = .ok (.iaload, 1) := by decide +kernel
theorem dX3_count_146 : decode cX3_count 146 = .ok (.iconst (-1), 1) := by decide +kernel
theorem dX3_count_147 : decode cX3_count 147 = .ok (.if_icmp .ne 8, 3) := by decide +kernel
theorem dX3_count_150 : decode cX3_count 150 = .ok (.bipush (-4), 2) := by decide +kernel
theorem dX3_count_152 : decode cX3_count 152 = .ok (.goto 11, 3) := by decide +kernel
theorem dX3_count_155 : decode cX3_count 155 = .ok (.aload_n 0, 1) := by decide +kernel
theorem dX3_count_156 : decode cX3_count 156 = .ok (.getfield 7, 3) := by decide +kernel
theorem dX3_count_159 : decode cX3_count 159 = .ok (.sipush 146, 3) := by decide +kernel
theorem dX3_count_162 : decode cX3_count 162 = .ok (.iaload, 1) := by decide +kernel
theorem dX3_count_163 : decode cX3_count 163 = .ok (.ireturn, 1) := by decide +kernel
theorem dX3_count_164 : decode cX3_count 164 = .ok (.aload_n 0, 1) := by decide +kernel
theorem dX3_count_165 : decode cX3_count 165 = .ok (.getfield 7, 3) := by decide +kernel
theorem dX3_count_168 : decode cX3_count 168 = .ok (.sipush 147, 3) := by decide +kernel
theorem dX3_count_171 : decode cX3_count 171 = .ok (.iaload, 1) := by decide +kernel
theorem dX3_count_172 : decode cX3_count 172 = .ok (.ireturn, 1) := by decide +kernel
theorem dX3_count_173 : decode cX3_count 173 = .ok (.aload_n 0, 1) := by decide +kernel
theorem dX3_count_174 : decode cX3_count 174 = .ok (.invokevirtual 68, 3) := by decide +kernel
theorem dX3_count_177 : decode cX3_count 177 = .ok (.ireturn, 1) := by decide +kernel
theorem dX3_count_178 : decode cX3_count 178 = .ok (.aload_n 0, 1) := by decide +kernel
theorem dX3_count_179 : decode cX3_count 179 = .ok (.invokevirtual 62, 3) := by decide +kernel
theorem dX3_count_182 : decode cX3_count 182 = .ok (.ireturn, 1) := by decide +kernel
theorem dX3_count_183 : decode cX3_count 183 = .ok (.aload_n 0, 1) := by decide +kernel
theorem dX3_count_184 : decode cX3_count 184 = .ok (.iload_n 1, 1) := by decide +kernel
theorem dX3_count_185 : decode cX3_count 185 = .ok (.bipush 6, 2) := by decide +kernel
theorem dX3_count_187 : decode cX3_count 187 = .ok (.isub, 1) := by decide +kernel
theorem dX3_count_188 : decode cX3_count 188 = .ok (.invokevirtual 39, 3) := by decide +kernel
theorem dX3_count_191 : decode cX3_count 191 = .ok (.ireturn, 1) := by decide +kernel
theorem dX3_count_192 : decode cX3_count 192 = .ok (.aload_n 0, 1) := by decide +kernel
theorem dX3_count_193 : decode cX3_count 193 = .ok (.getfield 35, 3) := by decide +kernel
theorem dX3_count_196 : decode cX3_count 196 = .ok (.ireturn, 1) := by decide +kernel
theorem dX3_count_197 : decode cX3_count 197 = .ok (.aload_n 0, 1) := by decide +kernel
theorem dX3_count_198 : decode cX3_count 198 = .ok (.getfield 71, 3) := by decide +kernel
theorem dX3_count_201 : decode cX3_count 201 = .ok (.ireturn, 1) := by decide +kernel
theorem dX3_count_202 : decode cX3_count 202 = .ok (.aload_n 0, 1) := by decide +kernel
theorem dX3_count_203 : decode cX3_count 203 = .ok (.invokevirtual 47, 3) := by decide +kernel
theorem dX3_count_206 : decode cX3_count 206 = .ok (.ireturn, 1) := by decide +kernel
theorem dX3_count_207 : decode cX3_count 207 = .ok (.iload_n 1, 1) := by decide +kernel
theorem dX3_count_208 : decode cX3_count 208 = .ok (.bipush 10, 2) := by decide +kernel
theorem dX3_count_210 : decode cX3_count 210 = .ok (.bipush 12, 2) := by decide +kernel
theorem dX3_count_212 : decode cX3_count 212 = .ok (.invokestatic 31, 3) := by decide +kernel
theorem dX3_count_215 : decode cX3_count 215 = .ok (.ifCond .eq 19, 3) := by decide +kernel
theorem dX3_count_218 : decode cX3_count 218 = .ok (.aload_n 0, 1) := by decide +kernel
theorem dX3_count_219 : decode cX3_count 219 = .ok (.getfield 7, 3) := by decide +kernel
theorem dX3_count_222 : decode cX3_count 222 = .ok (.sipush 149, 3) := by decide +kernel
theorem dX3_count_225 : decode cX3_count 225 = .ok (.iload_n 1, 1) := by decide +kernel
theorem dX3_count_226 : decode cX3_count 226 = .ok (.iadd, 1) := by decide +kernel
theorem dX3_count_227 : decode cX3_count 227 = .ok (.bipush 10, 2) := by decide +kernel
theorem dX3_count_229 : decode cX3_count 229 = .ok (.isub, 1) := by decide +kernel
theorem dX3_count_230 : decode cX3_count 230 = .ok (.iaload, 1) := by decide +kernel
theorem dX3_count_231 : decode cX3_count 231 = .ok (.goto 31, 3) := by decide +kernel
theorem dX3_count_234 : decode cX3_count 234 = .ok (.iload_n 1, 1) := by decide +kernel
theorem dX3_count_235 : decode cX3_count 235 = .ok (.bipush 20, 2) := by decide +kernel
theorem dX3_count_237 : decode cX3_count 237 = .ok (.bipush 26, 2) := by decide +kernel
theorem dX3_count_239 : decode cX3_count 239 = .ok (.invokestatic 31, 3) := by decide +kernel
theorem dX3_count_242 : decode cX3_count 242 = .ok (.ifCond .eq 19, 3) := by decide +kernel
theorem dX3_count_245 : decode cX3_count 245 = .ok (.aload_n 0, 1) := by decide +kernel
theorem dX3_count_246 : decode cX3_count 246 = .ok (.getfield 7, 3) := by decide +kernel
theorem dX3_count_249 : decode cX3_count 249 = .ok (.sipush 152, 3) := by decide +kernel
theorem dX3_count_252 : decode cX3_count 252 = .ok (.iload_n 1, 1) := by decide +kernel
theorem dX3_count_253 : decode cX3_count 253 = .ok (.iadd, 1) := by decide +kernel
theorem dX3_count_254 : decode cX3_count 254 = .ok (.bipush 20, 2) := by decide +kernel
theorem dX3_count_256 : decode cX3_count 256 = .ok (.isub, 1) := by decide +kernel
theorem dX3_count_257 : decode cX3_count 257 = .ok (.iaload, 1) := by decide +kernel
theorem dX3_count_258 : decode cX3_count 258 = .ok (.goto 4, 3) := by decide +kernel
theorem dX3_count_261 : decode cX3_count 261 = .ok (.iconst (-1), 1) := by decide +kernel
theorem dX3_count_262 : decode cX3_count 262 = .ok (.ireturn, 1) := by decide +kernel
theorem dX3_sign_0 : decode cX3_sign 0 = .ok (.iload_n 0, 1) := by decide +kernel
theorem dX3_sign_1 : decode cX3_sign 1 = .ok (.ifCond .le 7, 3) := by decide +kernel
theorem dX3_sign_4 : decode cX3_sign 4 = .ok (.iconst 1, 1) := by decide +kernel
theorem dX3_sign_5 : decode cX3_sign 5 = .ok (.goto 12, 3) := by decide +kernel
theorem dX3_sign_8 : decode cX3_sign 8 = .ok (.iload_n 0, 1) := by decide +kernel
theorem dX3_sign_9 : decode cX3_sign 9 = .ok (.ifCond .ge 7, 3) := by decide +kernel
theorem dX3_sign_12 : decode cX3_sign 12 = .ok (.iconst (-1), 1) := by decide +kernel
theorem dX3_sign_13 : decode cX3_sign 13 = .ok (.goto 4, 3) := by decide +kernel
theorem dX3_sign_16 : decode cX3_sign 16 = .ok (.iconst 0, 1) := by decide +kernel
theorem dX3_sign_17 : decode cX3_sign 17 = .ok (.ireturn, 1) := by decide +kernel
theorem dX3_isFree_0 : decode cX3_isFree 0 = .ok (.bipush 6, 2) := by decide +kernel
theorem dX3_isFree_2 : decode cX3_isFree 2 = .ok (.iload_n 2, 1) := by decide +kernel
theorem dX3_isFree_3 : decode cX3_isFree 3 = .ok (.bipush 6, 2) := by decide +kernel
theorem dX3_isFree_5 : decode cX3_isFree 5 = .ok (.idiv, 1) := by decide +kernel
theorem dX3_isFree_6 : decode cX3_isFree 6 = .ok (.iload_n 1, 1) := by decide +kernel
theorem dX3_isFree_7 : decode cX3_isFree 7 = .ok (.bipush 6, 2) := by decide +kernel
theorem dX3_isFree_9 : decode cX3_isFree 9 = .ok (.idiv, 1) := by decide +kernel
theorem dX3_isFree_10 : decode cX3_isFree 10 = .ok (.isub, 1) := by decide +kernel
theorem dX3_isFree_11 : decode cX3_isFree 11 = .ok (.invokestatic 74, 3) := by decide +kernel
theorem dX3_isFree_14 : decode cX3_isFree 14 = .ok (.imul, 1) := by decide +kernel
theorem dX3_isFree_15 : decode cX3_isFree 15 = .ok (.iload_n 2, 1) := by decide +kernel
theorem dX3_isFree_16 : decode cX3_isFree 16 = .ok (.bipush 6, 2) := by decide +kernel
theorem dX3_isFree_18 : decode cX3_isFree 18 = .ok (.irem, 1) := by decide +kernel
theorem dX3_isFree_19 : decode cX3_isFree 19 = .ok (.iload_n 1, 1) := by decide +kernel
theorem dX3_isFree_20 : decode cX3_isFree 20 = .ok (.bipush 6, 2) := by decide +kernel
theorem dX3_isFree_22 : decode cX3_isFree 22 = .ok (.irem, 1) := by decide +kernel
theorem dX3_isFree_23 : decode cX3_isFree 23 = .ok (.isub, 1) := by decide +kernel
theorem dX3_isFree_24 : decode cX3_isFree 24 = .ok (.invokestatic 74, 3) := by decide +kernel
theorem dX3_isFree_27 : decode cX3_isFree 27 = .ok (.iadd, 1) := by decide +kernel
theorem dX3_isFree_28 : decode cX3_isFree 28 = .ok (.istore_n 3, 1) := by decide +kernel
theorem dX3_isFree_29 : decode cX3_isFree 29 = .ok (.iload_n 1, 1) := by decide +kernel
theorem dX3_isFree_30 : decode cX3_isFree 30 = .ok (.iload_n 3, 1) := by decide +kernel
theorem dX3_isFree_31 : decode cX3_isFree 31 = .ok (.iadd, 1) := by decide +kernel
theorem dX3_isFree_32 : decode cX3_isFree 32 = .ok (.istore 4, 2) := by decide +kernel
theorem dX3_isFree_34 : decode cX3_isFree 34 = .ok (.iload 4, 2) := by decide +kernel
theorem dX3_isFree_36 : decode cX3_isFree 36 = .ok (.iload_n 2, 1) := by decide +kernel
theorem dX3_isFree_37 : decode cX3_isFree 37 = .ok (.if_icmp .eq 27, 3) := by decide +kernel
theorem dX3_isFree_40 : decode cX3_isFree 40 = .ok (.aload_n 0, 1) := by decide +kernel
theorem dX3_isFree_41 : decode cX3_isFree 41 = .ok (.getfield 7, 3) := by decide +kernel
theorem dX3_isFree_44 : decode cX3_isFree 44 = .ok (.iconst 0, 1) := by decide +kernel
theorem dX3_isFree_45 : decode cX3_isFree 45 = .ok (.iload 4, 2) := by decide +kernel
theorem dX3_isFree_47 : decode cX3_isFree 47 = .ok (.iadd, 1) := by decide +kernel
theorem dX3_isFree_48 : decode cX3_isFree 48 = .ok (.iaload, 1) := by decide +kernel
theorem dX3_isFree_49 : decode cX3_isFree 49 = .ok (.iconst (-1), 1) := by decide +kernel
theorem dX3_isFree_50 : decode cX3_isFree 50 = .ok (.if_icmp .eq 5, 3) := by decide +kernel
theorem dX3_isFree_53 : decode cX3_isFree 53 = .ok (.iconst 0, 1) := by decide +kernel
theorem dX3_isFree_54 : decode cX3_isFree 54 = .ok (.ireturn, 1) := by decide +kernel
theorem dX3_isFree_55 : decode cX3_isFree 55 = .ok (.iload 4, 2) := by decide +kernel
theorem dX3_isFree_57 : decode cX3_isFree 57 = .ok (.iload_n 3, 1) := by decide +kernel
theorem dX3_isFree_58 : decode cX3_isFree 58 = .ok (.iadd, 1) := by decide +kernel
theorem dX3_isFree_59 : decode cX3_isFree 59 = .ok (.istore 4, 2) := by decide +kernel
theorem dX3_isFree_61 : decode cX3_isFree 61 = .ok (.goto (-27), 3) := by decide +kernel
theorem dX3_isFree_64 : decode cX3_isFree 64 = .ok (.iconst 1, 1) := by decide +kernel
theorem dX3_isFree_65 : decode cX3_isFree 65 = .ok (.ireturn, 1) := by decide +kernel
theorem dX3_costBy_0 : decode cX3_costBy 0 = .ok (.iload 4, 2) := by decide +kernel
theorem dX3_costBy_2 : decode cX3_costBy 2 = .ok (.bipush 6, 2) := by decide +kernel
theorem dX3_costBy_4 : decode cX3_costBy 4 = .ok (.irem, 1) := by decide +kernel
theorem dX3_costBy_5 : decode cX3_costBy 5 = .ok (.iload_n 3, 1) := by decide +kernel
theorem dX3_costBy_6 : decode cX3_costBy 6 = .ok (.bipush 6, 2) := by decide +kernel
theorem dX3_costBy_8 : decode cX3_costBy 8 = .ok (.irem, 1) := by decide +kernel
theorem dX3_costBy_9 : decode cX3_costBy 9 = .ok (.isub, 1) := by decide +kernel
theorem dX3_costBy_10 : decode cX3_costBy 10 = .ok (.invokestatic 77, 3) := by decide +kernel
theorem dX3_costBy_13 : decode cX3_costBy 13 = .ok (.istore 5, 2) := by decide +kernel
theorem dX3_costBy_15 : decode cX3_costBy 15 = .ok (.iload 4, 2) := by decide +kernel
theorem dX3_costBy_17 : decode cX3_costBy 17 = .ok (.bipush 6, 2) := by decide +kernel
theorem dX3_costBy_19 : decode cX3_costBy 19 = .ok (.idiv, 1) := by decide +kernel
theorem dX3_costBy_20 : decode cX3_costBy 20 = .ok (.iload_n 3, 1) := by decide +kernel
theorem dX3_costBy_21 : decode cX3_costBy 21 = .ok (.bipush 6, 2) := by decide +kernel
theorem dX3_costBy_23 : decode cX3_costBy 23 = .ok (.idiv, 1) := by decide +kernel
theorem dX3_costBy_24 : decode cX3_costBy 24 = .ok (.isub, 1) := by decide +kernel
theorem dX3_costBy_25 : decode cX3_costBy 25 = .ok (.invokestatic 77, 3) := by decide +kernel
theorem dX3_costBy_28 : decode cX3_costBy 28 = .ok (.istore 6, 2) := by decide +kernel
theorem dX3_costBy_30 : decode cX3_costBy 30 = .ok (.iload 5, 2) := by decide +kernel
theorem dX3_costBy_32 : decode cX3_costBy 32 = .ok (.iload 6, 2) := by decide +kernel
theorem dX3_costBy_34 : decode cX3_costBy 34 = .ok (.iadd, 1) := by decide +kernel
theorem dX3_costBy_35 : decode cX3_costBy 35 = .ok (.ifCond .eq 16, 3) := by decide +kernel
theorem dX3_costBy_38 : decode cX3_costBy 38 = .ok (.aload_n 0, 1) := by decide +kernel
theorem dX3_costBy_39 : decode cX3_costBy 39 = .ok (.getfield 7, 3) := by decide +kernel
theorem dX3_costBy_42 : decode cX3_costBy 42 = .ok (.iconst 0, 1) := by decide +kernel
theorem dX3_costBy_43 : decode cX3_costBy 43 = .ok (.iload 4, 2) := by decide +kernel
theorem dX3_costBy_45 : decode cX3_costBy 45 = .ok (.iadd, 1) := by decide +kernel
theorem dX3_costBy_46 : decode cX3_costBy 46 = .ok (.iaload, 1) := by decide +kernel
theorem dX3_costBy_47 : decode cX3_costBy 47 = .ok (.iload_n 1, 1) := by decide +kernel
theorem dX3_costBy_48 : decode cX3_costBy 48 = .ok (.if_icmp .ne 5, 3) := by decide +kernel
theorem dX3_costBy_51 : decode cX3_costBy 51 = .ok (.iconst (-1), 1) := by decide +kernel
theorem dX3_costBy_52 : decode cX3_costBy 52 = .ok (.ireturn, 1) := by decide +kernel
theorem dX3_costBy_53 : decode cX3_costBy 53 = .ok (.iload_n 2, 1) := by decide +kernel
theorem dX3_costBy_54 : decode cX3_costBy 54 = .ok (.tableswitch 117 0 3 #[30, 48, 78, 102], 30) := by decide +kernel
theorem dX3_costBy_84 : decode cX3_costBy 84 = .ok (.iload 5, 2) := by decide +kernel
theorem dX3_costBy_86 : decode cX3_costBy 86 = .ok (.iconst 2, 1) := by decide +kernel
theorem dX3_costBy_87 : decode cX3_costBy 87 = .ok (.if_icmp .ge 13, 3) := by decide +kernel
theorem dX3_costBy_90 : decode cX3_costBy 90 = .ok (.iload 6, 2) := by decide +kernel
theorem dX3_costBy_92 : decode cX3_costBy 92 = .ok (.iconst 2, 1) := by decide +kernel
theorem dX3_costBy_93 : decode cX3_costBy 93 = .ok (.if_icmp .ge 7, 3) := by decide +kernel
theorem dX3_costBy_96 : decode cX3_costBy 96 = .ok (.iconst 1, 1) := by decide +kernel
theorem dX3_costBy_97 : decode cX3_costBy 97 = .ok (.goto 4, 3) := by decide +kernel
theorem dX3_costBy_100 : decode cX3_costBy 100 = .ok (.iconst (-1), 1) := by decide +kernel
theorem dX3_costBy_101 : decode cX3_costBy 101 = .ok (.ireturn, 1) := by decide +kernel
theorem dX3_costBy_102 : decode cX3_costBy 102 = .ok (.iload 5, 2) := by decide +kernel
theorem dX3_costBy_104 : decode cX3_costBy 104 = .ok (.ifCond .eq 8, 3) := by decide +kernel
theorem dX3_costBy_107 : decode cX3_costBy 107 = .ok (.iload 6, 2) := by decide +kernel
theorem dX3_costBy_109 : decode cX3_costBy 109 = .ok (.ifCond .ne 21, 3) := by decide +kernel
theorem dX3_costBy_112 : decode cX3_costBy 112 = .ok (.aload_n 0, 1) := by decide +kernel
theorem dX3_costBy_113 : decode cX3_costBy 113 = .ok (.iload_n 3, 1) := by decide +kernel
theorem dX3_costBy_114 : decode cX3_costBy 114 = .ok (.iload 4, 2) := by decide +kernel
theorem dX3_costBy_116 : decode cX3_costBy 116 = .ok (.invokevirtual 80, 3) := by decide +kernel
theorem dX3_costBy_119 : decode cX3_costBy 119 = .ok (.ifCond .eq 11, 3) := by decide +kernel
theorem dX3_costBy_122 : decode cX3_costBy 122 = .ok (.iload 5, 2) := by decide +kernel
theorem dX3_costBy_124 : decode cX3_costBy 124 = .ok (.iload 6, 2) := by decide +kernel
theorem dX3_costBy_126 : decode cX3_costBy 126 = .ok (.iadd, 1) := by decide +kernel
theorem dX3_costBy_127 : decode cX3_costBy 127 = .ok (.goto 4, 3) := by decide +kernel
theorem dX3_costBy_130 : decode cX3_costBy 130 = .ok (.iconst (-1), 1) := by decide +kernel
theorem dX3_costBy_131 : decode cX3_costBy 131 = .ok (.ireturn, 1) := by decide +kernel
theorem dX3_costBy_132 : decode cX3_costBy 132 = .ok (.iload 5, 2) := by decide +kernel
theorem dX3_costBy_134 : decode cX3_costBy 134 = .ok (.iload 6, 2) := by decide +kernel
theorem dX3_costBy_136 : decode cX3_costBy 136 = .ok (.if_icmp .ne 18, 3) := by decide +kernel
theorem dX3_costBy_139 : decode cX3_costBy 139 = .ok (.aload_n 0, 1) := by decide +kernel
theorem dX3_costBy_140 : decode cX3_costBy 140 = .ok (.iload_n 3, 1) := by decide +kernel
theorem dX3_costBy_141 : decode cX3_costBy 141 = .ok (.iload 4, 2) := by decide +kernel
theorem dX3_costBy_143 : decode cX3_costBy 143 = .ok (.invokevirtual 80, 3) := by decide +kernel
theorem dX3_costBy_146 : decode cX3_costBy 146 = .ok (.ifCond .eq 8, 3) := by decide +kernel
theorem dX3_costBy_149 : decode cX3_costBy 149 = .ok (.iload 5, 2) := by decide +kernel
theorem dX3_costBy_151 : decode cX3_costBy 151 = .ok (.goto 4, 3) := by decide +kernel
theorem dX3_costBy_154 : decode cX3_costBy 154 = .ok (.iconst (-1), 1) := by decide +kernel
theorem dX3_costBy_155 : decode cX3_costBy 155 = .ok (.ireturn, 1) := by decide +kernel
theorem dX3_costBy_156 : decode cX3_costBy 156 = .ok (.iload 5, 2) := by decide +kernel
theorem dX3_costBy_158 : decode cX3_costBy 158 = .ok (.iload 6, 2) := by decide +kernel
theorem dX3_costBy_160 : decode cX3_costBy 160 = .ok (.imul, 1) := by decide +kernel
theorem dX3_costBy_161 : decode cX3_costBy 161 = .ok (.iconst 2, 1) := by decide +kernel
theorem dX3_costBy_162 : decode cX3_costBy 162 = .ok (.if_icmp .ne 7, 3) := by decide +kernel
theorem dX3_costBy_165 : decode cX3_costBy 165 = .ok (.iconst 2, 1) := by decide +kernel
theorem dX3_costBy_166 : decode cX3_costBy 166 = .ok (.goto 4, 3) := by decide +kernel
theorem dX3_costBy_169 : decode cX3_costBy 169 = .ok (.iconst (-1), 1) := by decide +kernel
theorem dX3_costBy_170 : decode cX3_costBy 170 = .ok (.ireturn, 1) := by decide +kernel
theorem dX3_costBy_171 : decode cX3_costBy 171 = .ok (.iload 4, 2) := by decide +kernel
theorem dX3_costBy_173 : decode cX3_costBy 173 = .ok (.bipush 6, 2) := by decide +kernel
theorem dX3_costBy_175 : decode cX3_costBy 175 = .ok (.idiv, 1) := by decide +kernel
theorem dX3_costBy_176 : decode cX3_costBy 176 = .ok (.iload_n 3, 1) := by decide +kernel
theorem dX3_costBy_177 : decode cX3_costBy 177 = .ok (.bipush 6, 2) := by decide +kernel
theorem dX3_costBy_179 : decode cX3_costBy 179 = .ok (.idiv, 1) := by decide +kernel
theorem dX3_costBy_180 : decode cX3_costBy 180 = .ok (.isub, 1) := by decide +kernel
theorem dX3_costBy_181 : decode cX3_costBy 181 = .ok (.iconst 1, 1) := by decide +kernel
theorem dX3_costBy_182 : decode cX3_costBy 182 = .ok (.iconst 2, 1) := by decide +kernel
theorem dX3_costBy_183 : decode cX3_costBy 183 = .ok (.iload_n 1, 1) := by decide +kernel
theorem dX3_costBy_184 : decode cX3_costBy 184 = .ok (.imul, 1) := by decide +kernel
theorem dX3_costBy_185 : decode cX3_costBy 185 = .ok (.isub, 1) := by decide +kernel
theorem dX3_costBy_186 : decode cX3_costBy 186 = .ok (.if_icmp .ne 7, 3) := by decide +kernel
theorem dX3_costBy_189 : decode cX3_costBy 189 = .ok (.iconst 1, 1) := by decide +kernel
theorem dX3_costBy_190 : decode cX3_costBy 190 = .ok (.goto 4, 3) := by decide +kernel
theorem dX3_costBy_193 : decode cX3_costBy 193 = .ok (.iconst 0, 1) := by decide +kernel
theorem dX3_costBy_194 : decode cX3_costBy 194 = .ok (.istore 7, 2) := by decide +kernel
theorem dX3_costBy_196 : decode cX3_costBy 196 = .ok (.iload 5, 2) := by decide +kernel
theorem dX3_costBy_198 : decode cX3_costBy 198 = .ok (.ifCond .ne 24, 3) := by decide +kernel
theorem dX3_costBy_201 : decode cX3_costBy 201 = .ok (.aload_n 0, 1) := by decide +kernel
theorem dX3_costBy_202 : decode cX3_costBy 202 = .ok (.getfield 7, 3) := by decide +kernel
theorem dX3_costBy_205 : decode cX3_costBy 205 = .ok (.iconst 0, 1) := by decide +kernel
theorem dX3_costBy_206 : decode cX3_costBy 206 = .ok (.iload 4, 2) := by decide +kernel
theorem dX3_costBy_208 : decode cX3_costBy 208 = .ok (.iadd, 1) := by decide +kernel
theorem dX3_costBy_209 : decode cX3_costBy 209 = .ok (.iaload, 1) := by decide +kernel
theorem dX3_costBy_210 : decode cX3_costBy 210 = .ok (.iconst (-1), 1) := by decide +kernel
theorem dX3_costBy_211 : decode cX3_costBy 211 = .ok (.if_icmp .ne 7, 3) := by decide +kernel
theorem dX3_costBy_214 : decode cX3_costBy 214 = .ok (.iconst 1, 1) := by decide +kernel
theorem dX3_costBy_215 : decode cX3_costBy 215 = .ok (.goto 33, 3) := by decide +kernel
theorem dX3_costBy_218 : decode cX3_costBy 218 = .ok (.iconst 0, 1) := by decide +kernel
theorem dX3_costBy_219 : decode cX3_costBy 219 = .ok (.goto 29, 3) := by decide +kernel
theorem dX3_costBy_222 : decode cX3_costBy 222 = .ok (.iload 5, 2) := by decide +kernel
theorem dX3_costBy_224 : decode cX3_costBy 224 = .ok (.iconst 1, 1) := by decide +kernel
theorem dX3_costBy_225 : decode cX3_costBy 225 = .ok (.if_icmp .ne 22, 3) := by decide +kernel
theorem dX3_costBy_228 : decode cX3_costBy 228 = .ok (.aload_n 0, 1) := by decide +kernel
theorem dX3_costBy_229 : decode cX3_costBy 229 = .ok (.getfield 7, 3) := by decide +kernel
theorem dX3_costBy_232 : decode cX3_costBy 232 = .ok (.iconst 0, 1) := by decide +kernel
theorem dX3_costBy_233 : decode cX3_costBy 233 = .ok (.iload 4, 2) := by decide +kernel
theorem dX3_costBy_235 : decode cX3_costBy 235 = .ok (.iadd, 1) := by decide +kernel
theorem dX3_costBy_236 : decode cX3_costBy 236 = .ok (.iaload, 1) := by decide +kernel
theorem dX3_costBy_237 : decode cX3_costBy 237 = .ok (.iconst 1, 1) := by decide +kernel
theorem dX3_costBy_238 : decode cX3_costBy 238 = .ok (.iload_n 1, 1) := by decide +kernel
theorem dX3_costBy_239 : decode cX3_costBy 239 = .ok (.isub, 1) := by decide +kernel
theorem dX3_costBy_240 : decode cX3_costBy 240 = .ok (.if_icmp .ne 7, 3) := by decide +kernel
theorem dX3_costBy_243 : decode cX3_costBy 243 = .ok (.iconst 1, 1) := by decide +kernel
theorem dX3_costBy_244 : decode cX3_costBy 244 = .ok (.goto 4, 3) := by decide +kernel
theorem dX3_costBy_247 : decode cX3_costBy 247 = .ok (.iconst 0, 1) := by decide +kernel
theorem dX3_costBy_248 : decode cX3_costBy 248 = .ok (.istore 8, 2) := by decide +kernel
theorem dX3_costBy_250 : decode cX3_costBy 250 = .ok (.iload 7, 2) := by decide +kernel
theorem dX3_costBy_252 : decode cX3_costBy 252 = .ok (.ifCond .eq 12, 3) := by decide +kernel
theorem dX3_costBy_255 : decode cX3_costBy 255 = .ok (.iload 8, 2) := by decide +kernel
theorem dX3_costBy_257 : decode cX3_costBy 257 = .ok (.ifCond .eq 7, 3) := by decide +kernel
theorem dX3_costBy_260 : decode cX3_costBy 260 = .ok (.iconst 1, 1) := by decide +kernel
theorem dX3_costBy_261 : decode cX3_costBy 261 = .ok (.goto 4, 3) := by decide +kernel
theorem dX3_costBy_264 : decode cX3_costBy 264 = .ok (.iconst (-1), 1) := by decide +kernel
theorem dX3_costBy_265 : decode cX3_costBy 265 = .ok (.ireturn, 1) := by decide +kernel
theorem dX3_costOf_0 : decode cX3_costOf 0 = .ok (.aload_n 0, 1) := by decide +kernel
theorem dX3_costOf_1 : decode cX3_costOf 1 = .ok (.aload_n 0, 1) := by decide +kernel
theorem dX3_costOf_2 : decode cX3_costOf 2 = .ok (.getfield 7, 3) := by decide +kernel
theorem dX3_costOf_5 : decode cX3_costOf 5 = .ok (.iconst 0, 1) := by decide +kernel
theorem dX3_costOf_6 : decode cX3_costOf 6 = .ok (.iload_n 1, 1) := by decide +kernel
theorem dX3_costOf_7 : decode cX3_costOf 7 = .ok (.iadd, 1) := by decide +kernel
theorem dX3_costOf_8 : decode cX3_costOf 8 = .ok (.iaload, 1) := by decide +kernel
theorem dX3_costOf_9 : decode cX3_costOf 9 = .ok (.aload_n 0, 1) := by decide +kernel
theorem dX3_costOf_10 : decode cX3_costOf 10 = .ok (.getfield 7, 3) := by decide +kernel
theorem dX3_costOf_13 : decode cX3_costOf 13 = .ok (.bipush 36, 2) := by decide +kernel
theorem dX3_costOf_15 : decode cX3_costOf 15 = .ok (.iload_n 1, 1) := by decide +kernel
theorem dX3_costOf_16 : decode cX3_costOf 16 = .ok (.iadd, 1) := by decide +kernel
theorem dX3_costOf_17 : decode cX3_costOf 17 = .ok (.iaload, 1) := by decide +kernel
theorem dX3_costOf_18 : decode cX3_costOf 18 = .ok (.iload_n 1, 1) := by decide +kernel
theorem dX3_costOf_19 : decode cX3_costOf 19 = .ok (.iload_n 2, 1) := by decide +kernel
theorem dX3_costOf_20 : decode cX3_costOf 20 = .ok (.invokevirtual 83, 3) := by decide +kernel
theorem dX3_costOf_23 : decode cX3_costOf 23 = .ok (.ireturn, 1) := by decide +kernel
theorem dX3_canGo_0 : decode cX3_canGo 0 = .ok (.aload_n 0, 1) := by decide +kernel
theorem dX3_canGo_1 : decode cX3_canGo 1 = .ok (.iload_n 1, 1) := by decide +kernel
theorem dX3_canGo_2 : decode cX3_canGo 2 = .ok (.iload_n 2, 1) := by decide +kernel
theorem dX3_canGo_3 : decode cX3_canGo 3 = .ok (.invokevirtual 87, 3) := by decide +kernel
theorem dX3_canGo_6 : decode cX3_canGo 6 = .ok (.istore_n 3, 1) := by decide +kernel
theorem dX3_canGo_7 : decode cX3_canGo 7 = .ok (.iload_n 3, 1) := by decide +kernel
theorem dX3_canGo_8 : decode cX3_canGo 8 = .ok (.ifCond .lt 20, 3) := by decide +kernel
theorem dX3_canGo_11 : decode cX3_canGo 11 = .ok (.iload_n 3, 1) := by decide +kernel
theorem dX3_canGo_12 : decode cX3_canGo 12 = .ok (.aload_n 0, 1) := by decide +kernel
theorem dX3_canGo_13 : decode cX3_canGo 13 = .ok (.getfield 7, 3) := by decide +kernel
theorem dX3_canGo_16 : decode cX3_canGo 16 = .ok (.bipush 72, 2) := by decide +kernel
theorem dX3_canGo_18 : decode cX3_canGo 18 = .ok (.iload_n 1, 1) := by decide +kernel
theorem dX3_canGo_19 : decode cX3_canGo 19 = .ok (.iadd, 1) := by decide +kernel
theorem dX3_canGo_20 : decode cX3_canGo 20 = .ok (.iaload, 1) := by decide +kernel
theorem dX3_canGo_21 : decode cX3_canGo 21 = .ok (.if_icmp .gt 7, 3) := by decide +kernel
theorem dX3_canGo_24 : decode cX3_canGo 24 = .ok (.iconst 1, 1) := by decide +kernel
theorem dX3_canGo_25 : decode cX3_canGo 25 = .ok (.goto 4, 3) := by decide +kernel
theorem dX3_canGo_28 : decode cX3_canGo 28 = .ok (.iconst 0, 1) := by decide +kernel
theorem dX3_canGo_29 : decode cX3_canGo 29 = .ok (.ireturn, 1) := by decide +kernel
theorem dX3_movesFrom_0 : decode cX3_movesFrom 0 = .ok (.iconst 0, 1) := by decide +kernel
theorem dX3_movesFrom_1 : decode cX3_movesFrom 1 = .ok (.istore_n 2, 1) := by decide +kernel
theorem dX3_movesFrom_2 : decode cX3_movesFrom 2 = .ok (.iconst 0, 1) := by decide +kernel
theorem dX3_movesFrom_3 : decode cX3_movesFrom 3 = .ok (.istore_n 3, 1) := by decide +kernel
theorem dX3_movesFrom_4 : decode cX3_movesFrom 4 = .ok (.iload_n 3, 1) := by decide +kernel
theorem dX3_movesFrom_5 : decode cX3_movesFrom 5 = .ok (.bipush 36, 2) := by decide +kernel
theorem dX3_movesFrom_7 : decode cX3_movesFrom 7 = .ok (.if_icmp .ge 26, 3) := by decide +kernel
theorem dX3_movesFrom_10 : decode cX3_movesFrom 10 = .ok (.iload_n 2, 1) := by decide +kernel
theorem dX3_movesFrom_11 : decode cX3_movesFrom 11 = .ok (.aload_n 0, 1) := by decide +kernel
theorem dX3_movesFrom_12 : decode cX3_movesFrom 12 = .ok (.iload_n 1, 1) := by decide +kernel
theorem dX3_movesFrom_13 : decode cX3_movesFrom 13 = .ok (.iload_n 3, 1) := by decide +kernel
theorem dX3_movesFrom_14 : decode cX3_movesFrom 14 = .ok (.invokevirtual 91, 3) := by decide +kernel
theorem dX3_movesFrom_17 : decode cX3_movesFrom 17 = .ok (.ifCond .eq 7, 3) := by decide +kernel
theorem dX3_movesFrom_20 : decode cX3_movesFrom 20 = .ok (.iconst 1, 1) := by decide +kernel
theorem dX3_movesFrom_21 : decode cX3_movesFrom 21 = .ok (.goto 4, 3) := by decide +kernel
theorem dX3_movesFrom_24 : decode cX3_movesFrom 24 = .ok (.iconst 0, 1) := by decide +kernel
theorem dX3_movesFrom_25 : decode cX3_movesFrom 25 = .ok (.iadd, 1) := by decide +kernel
theorem dX3_movesFrom_26 : decode cX3_movesFrom 26 = .ok (.istore_n 2, 1) := by decide +kernel
theorem dX3_movesFrom_27 : decode cX3_movesFrom 27 = .ok (.iinc 3 1, 3) := by decide +kernel
theorem dX3_movesFrom_30 : decode cX3_movesFrom 30 = .ok (.goto (-26), 3) := by decide +kernel
theorem dX3_movesFrom_33 : decode cX3_movesFrom 33 = .ok (.iload_n 2, 1) := by decide +kernel
theorem dX3_movesFrom_34 : decode cX3_movesFrom 34 = .ok (.ireturn, 1) := by decide +kernel
theorem dX3_movesOf_0 : decode cX3_movesOf 0 = .ok (.iconst 0, 1) := by decide +kernel
theorem dX3_movesOf_1 : decode cX3_movesOf 1 = .ok (.istore_n 2, 1) := by decide +kernel
theorem dX3_movesOf_2 : decode cX3_movesOf 2 = .ok (.iconst 0, 1) := by decide +kernel
theorem dX3_movesOf_3 : decode cX3_movesOf 3 = .ok (.istore_n 3, 1) := by decide +kernel
theorem dX3_movesOf_4 : decode cX3_movesOf 4 = .ok (.iload_n 3, 1) := by decide +kernel
theorem dX3_movesOf_5 : decode cX3_movesOf 5 = .ok (.bipush 36, 2) := by decide +kernel
theorem dX3_movesOf_7 : decode cX3_movesOf 7 = .ok (.if_icmp .ge 33, 3) := by decide +kernel
theorem dX3_movesOf_10 : decode cX3_movesOf 10 = .ok (.iload_n 2, 1) := by decide +kernel
theorem dX3_movesOf_11 : decode cX3_movesOf 11 = .ok (.aload_n 0, 1) := by decide +kernel
theorem dX3_movesOf_12 : decode cX3_movesOf 12 = .ok (.getfield 7, 3) := by decide +kernel
theorem dX3_movesOf_15 : decode cX3_movesOf 15 = .ok (.iconst 0, 1) := by decide +kernel
theorem dX3_movesOf_16 : decode cX3_movesOf 16 = .ok (.iload_n 3, 1) := by decide +kernel
theorem dX3_movesOf_17 : decode cX3_movesOf 17 = .ok (.iadd, 1) := by decide +kernel
theorem dX3_movesOf_18 : decode cX3_movesOf 18 = .ok (.iaload, 1) := by decide +kernel
theorem dX3_movesOf_19 : decode cX3_movesOf 19 = .ok (.iload_n 1, 1) := by decide +kernel
theorem dX3_movesOf_20 : decode cX3_movesOf 20 = .ok (.if_icmp .ne 11, 3) := by decide +kernel
theorem dX3_movesOf_23 : decode cX3_movesOf 23 = .ok (.aload_n 0, 1) := by decide +kernel
theorem dX3_movesOf_24 : decode cX3_movesOf 24 = .ok (.iload_n 3, 1) := by decide +kernel
theorem dX3_movesOf_25 : decode cX3_movesOf 25 = .ok (.invokevirtual 65, 3) := by decide +kernel
theorem dX3_movesOf_28 : decode cX3_movesOf 28 = .ok (.goto 4, 3) := by decide +kernel
theorem dX3_movesOf_31 : decode cX3_movesOf 31 = .ok (.iconst 0, 1) := by decide +kernel
theorem dX3_movesOf_32 : decode cX3_movesOf 32 = .ok (.iadd, 1) := by decide +kernel
theorem dX3_movesOf_33 : decode cX3_movesOf 33 = .ok (.istore_n 2, 1) := by decide +kernel
theorem dX3_movesOf_34 : decode cX3_movesOf 34 = .ok (.iinc 3 1, 3) := by decide +kernel
theorem dX3_movesOf_37 : decode cX3_movesOf 37 = .ok (.goto (-33), 3) := by decide +kernel
theorem dX3_movesOf_40 : decode cX3_movesOf 40 = .ok (.iload_n 2, 1) := by decide +kernel
theorem dX3_movesOf_41 : decode cX3_movesOf 41 = .ok (.ireturn, 1) := by decide +kernel
theorem dX3_moveAt_0 : decode cX3_moveAt 0 = .ok (.iload_n 2, 1) := by decide +kernel
theorem dX3_moveAt_1 : decode cX3_moveAt 1 = .ok (.istore_n 3, 1) := by decide +kernel
theorem dX3_moveAt_2 : decode cX3_moveAt 2 = .ok (.iconst 0, 1) := by decide +kernel
theorem dX3_moveAt_3 : decode cX3_moveAt 3 = .ok (.istore 4, 2) := by decide +kernel
theorem dX3_moveAt_5 : decode cX3_moveAt 5 = .ok (.iload 4, 2) := by decide +kernel
theorem dX3_moveAt_7 : decode cX3_moveAt 7 = .ok (.sipush 1296, 3) := by decide +kernel
theorem dX3_moveAt_10 : decode cX3_moveAt 10 = .ok (.if_icmp .ge 52, 3) := by decide +kernel
theorem dX3_moveAt_13 : decode cX3_moveAt 13 = .ok (.aload_n 0, 1) := by decide +kernel
theorem dX3_moveAt_14 : decode cX3_moveAt 14 = .ok (.getfield 7, 3) := by decide +kernel
theorem dX3_moveAt_17 : decode cX3_moveAt 17 = .ok (.iconst 0, 1) := by decide +kernel
theorem dX3_moveAt_18 : decode cX3_moveAt 18 = .ok (.iload 4, 2) := by decide +kernel
theorem dX3_moveAt_20 : decode cX3_moveAt 20 = .ok (.bipush 36, 2) := by decide +kernel
theorem dX3_moveAt_22 : decode cX3_moveAt 22 = .ok (.idiv, 1) := by decide +kernel
theorem dX3_moveAt_23 : decode cX3_moveAt 23 = .ok (.iadd, 1) := by decide +kernel
theorem dX3_moveAt_24 : decode cX3_moveAt 24 = .ok (.iaload, 1) := by decide +kernel
theorem dX3_moveAt_25 : decode cX3_moveAt 25 = .ok (.iload_n 1, 1) := by decide +kernel
theorem dX3_moveAt_26 : decode cX3_moveAt 26 = .ok (.if_icmp .ne 30, 3) := by decide +kernel
theorem dX3_moveAt_29 : decode cX3_moveAt 29 = .ok (.aload_n 0, 1) := by decide +kernel
theorem dX3_moveAt_30 : decode cX3_moveAt 30 = .ok (.iload 4, 2) := by decide +kernel
theorem dX3_moveAt_32 : decode cX3_moveAt 32 = .ok (.bipush 36, 2) := by decide +kernel
theorem dX3_moveAt_34 : decode cX3_moveAt 34 = .ok (.idiv, 1) := by decide +kernel
theorem dX3_moveAt_35 : decode cX3_moveAt 35 = .ok (.iload 4, 2) := by decide +kernel
theorem dX3_moveAt_37 : decode cX3_moveAt 37 = .ok (.bipush 36, 2) := by decide +kernel
theorem dX3_moveAt_39 : decode cX3_moveAt 39 = .ok (.irem, 1) := by decide +kernel
theorem dX3_moveAt_40 : decode cX3_moveAt 40 = .ok (.invokevirtual 91, 3) := by decide +kernel
theorem dX3_moveAt_43 : decode cX3_moveAt 43 = .ok (.ifCond .eq 13, 3) := by decide +kernel
theorem dX3_moveAt_46 : decode cX3_moveAt 46 = .ok (.iload_n 3, 1) := by decide +kernel
theorem dX3_moveAt_47 : decode cX3_moveAt 47 = .ok (.ifCond .ne 6, 3) := by decide +kernel
theorem dX3_moveAt_50 : decode cX3_moveAt 50 = .ok (.iload 4, 2) := by decide +kernel
theorem dX3_moveAt_52 : decode cX3_moveAt 52 = .ok (.ireturn, 1) := by decide +kernel
theorem dX3_moveAt_53 : decode cX3_moveAt 53 = .ok (.iinc 3 (-1), 3) := by decide +kernel
theorem dX3_moveAt_56 : decode cX3_moveAt 56 = .ok (.iinc 4 1, 3) := by decide +kernel
theorem dX3_moveAt_59 : decode cX3_moveAt 59 = .ok (.goto (-54), 3) := by decide +kernel
theorem dX3_moveAt_62 : decode cX3_moveAt 62 = .ok (.iconst (-1), 1) := by decide +kernel
theorem dX3_moveAt_63 : decode cX3_moveAt 63 = .ok (.ireturn, 1) := by decide +kernel
theorem dX3_goes_0 : decode cX3_goes 0 = .ok (.aload_n 0, 1) := by decide +kernel
theorem dX3_goes_1 : decode cX3_goes 1 = .ok (.getfield 7, 3) := by decide +kernel
theorem dX3_goes_4 : decode cX3_goes 4 = .ok (.iconst 0, 1) := by decide +kernel
theorem dX3_goes_5 : decode cX3_goes 5 = .ok (.iload_n 1, 1) := by decide +kernel
theorem dX3_goes_6 : decode cX3_goes 6 = .ok (.iadd, 1) := by decide +kernel
theorem dX3_goes_7 : decode cX3_goes 7 = .ok (.iaload, 1) := by decide +kernel
theorem dX3_goes_8 : decode cX3_goes 8 = .ok (.istore_n 3, 1) := by decide +kernel
theorem dX3_goes_9 : decode cX3_goes 9 = .ok (.aload_n 0, 1) := by decide +kernel
theorem dX3_goes_10 : decode cX3_goes 10 = .ok (.getfield 7, 3) := by decide +kernel
theorem dX3_goes_13 : decode cX3_goes 13 = .ok (.bipush 36, 2) := by decide +kernel
theorem dX3_goes_15 : decode cX3_goes 15 = .ok (.iload_n 1, 1) := by decide +kernel
theorem dX3_goes_16 : decode cX3_goes 16 = .ok (.iadd, 1) := by decide +kernel
theorem dX3_goes_17 : decode cX3_goes 17 = .ok (.iaload, 1) := by decide +kernel
theorem dX3_goes_18 : decode cX3_goes 18 = .ok (.istore 4, 2) := by decide +kernel
theorem dX3_goes_20 : decode cX3_goes 20 = .ok (.aload_n 0, 1) := by decide +kernel
theorem dX3_goes_21 : decode cX3_goes 21 = .ok (.iload_n 1, 1) := by decide +kernel
theorem dX3_goes_22 : decode cX3_goes 22 = .ok (.iload_n 2, 1) := by decide +kernel
theorem dX3_goes_23 : decode cX3_goes 23 = .ok (.invokevirtual 87, 3) := by decide +kernel
theorem dX3_goes_26 : decode cX3_goes 26 = .ok (.istore 5, 2) := by decide +kernel
theorem dX3_goes_28 : decode cX3_goes 28 = .ok (.aload_n 0, 1) := by decide +kernel
theorem dX3_goes_29 : decode cX3_goes 29 = .ok (.getfield 7, 3) := by decide +kernel
theorem dX3_goes_32 : decode cX3_goes 32 = .ok (.bipush 72, 2) := by decide +kernel
theorem dX3_goes_34 : decode cX3_goes 34 = .ok (.iload_n 1, 1) := by decide +kernel
theorem dX3_goes_35 : decode cX3_goes 35 = .ok (.iadd, 1) := by decide +kernel
theorem dX3_goes_36 : decode cX3_goes 36 = .ok (.iaload, 1) := by decide +kernel
theorem dX3_goes_37 : decode cX3_goes 37 = .ok (.iload 5, 2) := by decide +kernel
theorem dX3_goes_39 : decode cX3_goes 39 = .ok (.isub, 1) := by decide +kernel
theorem dX3_goes_40 : decode cX3_goes 40 = .ok (.istore 6, 2) := by decide +kernel
theorem dX3_goes_42 : decode cX3_goes 42 = .ok (.aload_n 0, 1) := by decide +kernel
theorem dX3_goes_43 : decode cX3_goes 43 = .ok (.getfield 7, 3) := by decide +kernel
theorem dX3_goes_46 : decode cX3_goes 46 = .ok (.sipush 155, 3) := by decide +kernel
theorem dX3_goes_49 : decode cX3_goes 49 = .ok (.dup2, 1) := by decide +kernel
theorem dX3_goes_50 : decode cX3_goes 50 = .ok (.iaload, 1) := by decide +kernel
theorem dX3_goes_51 : decode cX3_goes 51 = .ok (.iload 5, 2) := by decide +kernel
theorem dX3_goes_53 : decode cX3_goes 53 = .ok (.iadd, 1) := by decide +kernel
theorem dX3_goes_54 : decode cX3_goes 54 = .ok (.iastore, 1) := by decide +kernel
theorem dX3_goes_55 : decode cX3_goes 55 = .ok (.aload_n 0, 1) := by decide +kernel
theorem dX3_goes_56 : decode cX3_goes 56 = .ok (.getfield 7, 3) := by decide +kernel
theorem dX3_goes_59 : decode cX3_goes 59 = .ok (.iconst 0, 1) := by decide +kernel
theorem dX3_goes_60 : decode cX3_goes 60 = .ok (.iload_n 2, 1) := by decide +kernel
theorem dX3_goes_61 : decode cX3_goes 61 = .ok (.iadd, 1) := by decide +kernel
theorem dX3_goes_62 : decode cX3_goes 62 = .ok (.iaload, 1) := by decide +kernel
theorem dX3_goes_63 : decode cX3_goes 63 = .ok (.iconst (-1), 1) := by decide +kernel
theorem dX3_goes_64 : decode cX3_goes 64 = .ok (.if_icmp .eq 127, 3) := by decide +kernel
theorem dX3_goes_67 : decode cX3_goes 67 = .ok (.aload_n 0, 1) := by decide +kernel
theorem dX3_goes_68 : decode cX3_goes 68 = .ok (.getfield 7, 3) := by decide +kernel
theorem dX3_goes_71 : decode cX3_goes 71 = .ok (.bipush 72, 2) := by decide +kernel
theorem dX3_goes_73 : decode cX3_goes 73 = .ok (.iload_n 2, 1) := by decide +kernel
theorem dX3_goes_74 : decode cX3_goes 74 = .ok (.iadd, 1) := by decide +kernel
theorem dX3_goes_75 : decode cX3_goes 75 = .ok (.iaload, 1) := by decide +kernel
theorem dX3_goes_76 : decode cX3_goes 76 = .ok (.istore 7, 2) := by decide +kernel
theorem dX3_goes_78 : decode cX3_goes 78 = .ok (.iload 7, 2) := by decide +kernel
theorem dX3_goes_80 : decode cX3_goes 80 = .ok (.iconst 2, 1) := by decide +kernel
theorem dX3_goes_81 : decode cX3_goes 81 = .ok (.idiv, 1) := by decide +kernel
theorem dX3_goes_82 : decode cX3_goes 82 = .ok (.aload_n 0, 1) := by decide +kernel
theorem dX3_goes_83 : decode cX3_goes 83 = .ok (.getfield 7, 3) := by decide +kernel
theorem dX3_goes_86 : decode cX3_goes 86 = .ok (.sipush 150, 3) := by decide +kernel
theorem dX3_goes_89 : decode cX3_goes 89 = .ok (.iaload, 1) := by decide +kernel
theorem dX3_goes_90 : decode cX3_goes 90 = .ok (.iadd, 1) := by decide +kernel
theorem dX3_goes_91 : decode cX3_goes 91 = .ok (.istore 8, 2) := by decide +kernel
theorem dX3_goes_93 : decode cX3_goes 93 = .ok (.aload_n 0, 1) := by decide +kernel
theorem dX3_goes_94 : decode cX3_goes 94 = .ok (.getfield 7, 3) := by decide +kernel
theorem dX3_goes_97 : decode cX3_goes 97 = .ok (.sipush 149, 3) := by decide +kernel
theorem dX3_goes_100 : decode cX3_goes 100 = .ok (.iaload, 1) := by decide +kernel
theorem dX3_goes_101 : decode cX3_goes 101 = .ok (.iload 6, 2) := by decide +kernel
theorem dX3_goes_103 : decode cX3_goes 103 = .ok (.iload 8, 2) := by decide +kernel
theorem dX3_goes_105 : decode cX3_goes 105 = .ok (.iadd, 1) := by decide +kernel
theorem dX3_goes_106 : decode cX3_goes 106 = .ok (.invokestatic 94, 3) := by decide +kernel
theorem dX3_goes_109 : decode cX3_goes 109 = .ok (.istore 9, 2) := by decide +kernel
theorem dX3_goes_111 : decode cX3_goes 111 = .ok (.aload_n 0, 1) := by decide +kernel
theorem dX3_goes_112 : decode cX3_goes 112 = .ok (.getfield 7, 3) := by decide +kernel
theorem dX3_goes_115 : decode cX3_goes 115 = .ok (.sipush 154, 3) := by decide +kernel
theorem dX3_goes_118 : decode cX3_goes 118 = .ok (.dup2, 1) := by decide +kernel
theorem dX3_goes_119 : decode cX3_goes 119 = .ok (.iaload, 1) := by decide +kernel
theorem dX3_goes_120 : decode cX3_goes 120 = .ok (.aload_n 0, 1) := by decide +kernel
theorem dX3_goes_121 : decode cX3_goes 121 = .ok (.getfield 7, 3) := by decide +kernel
theorem dX3_goes_124 : decode cX3_goes 124 = .ok (.sipush 150, 3) := by decide +kernel
theorem dX3_goes_127 : decode cX3_goes 127 = .ok (.iaload, 1) := by decide +kernel
theorem dX3_goes_128 : decode cX3_goes 128 = .ok (.iadd, 1) := by decide +kernel
theorem dX3_goes_129 : decode cX3_goes 129 = .ok (.iastore, 1) := by decide +kernel
theorem dX3_goes_130 : decode cX3_goes 130 = .ok (.aload_n 0, 1) := by decide +kernel
theorem dX3_goes_131 : decode cX3_goes 131 = .ok (.getfield 7, 3) := by decide +kernel
theorem dX3_goes_134 : decode cX3_goes 134 = .ok (.sipush 156, 3) := by decide +kernel
theorem dX3_goes_137 : decode cX3_goes 137 = .ok (.dup2, 1) := by decide +kernel
theorem dX3_goes_138 : decode cX3_goes 138 = .ok (.iaload, 1) := by decide +kernel
theorem dX3_goes_139 : decode cX3_goes 139 = .ok (.iload 7, 2) := by decide +kernel
theorem dX3_goes_141 : decode cX3_goes 141 = .ok (.iload 7, 2) := by decide +kernel
theorem dX3_goes_143 : decode cX3_goes 143 = .ok (.iconst 2, 1) := by decide +kernel
theorem dX3_goes_144 : decode cX3_goes 144 = .ok (.idiv, 1) := by decide +kernel
theorem dX3_goes_145 : decode cX3_goes 145 = .ok (.isub, 1) := by decide +kernel
theorem dX3_goes_146 : decode cX3_goes 146 = .ok (.iload 6, 2) := by decide +kernel
theorem dX3_goes_148 : decode cX3_goes 148 = .ok (.iadd, 1) := by decide +kernel
theorem dX3_goes_149 : decode cX3_goes 149 = .ok (.iload 8, 2) := by decide +kernel
theorem dX3_goes_151 : decode cX3_goes 151 = .ok (.iadd, 1) := by decide +kernel
theorem dX3_goes_152 : decode cX3_goes 152 = .ok (.iload 9, 2) := by decide +kernel
theorem dX3_goes_154 : decode cX3_goes 154 = .ok (.isub, 1) := by decide +kernel
theorem dX3_goes_155 : decode cX3_goes 155 = .ok (.iadd, 1) := by decide +kernel
theorem dX3_goes_156 : decode cX3_goes 156 = .ok (.iastore, 1) := by decide +kernel
theorem dX3_goes_157 : decode cX3_goes 157 = .ok (.iload 9, 2) := by decide +kernel
theorem dX3_goes_159 : decode cX3_goes 159 = .ok (.istore 6, 2) := by decide +kernel
theorem dX3_goes_161 : decode cX3_goes 161 = .ok (.aload_n 0, 1) := by decide +kernel
theorem dX3_goes_162 : decode cX3_goes 162 = .ok (.getfield 7, 3) := by decide +kernel
theorem dX3_goes_165 : decode cX3_goes 165 = .ok (.bipush 36, 2) := by decide +kernel
theorem dX3_goes_167 : decode cX3_goes 167 = .ok (.iload_n 2, 1) := by decide +kernel
theorem dX3_goes_168 : decode cX3_goes 168 = .ok (.iadd, 1) := by decide +kernel
theorem dX3_goes_169 : decode cX3_goes 169 = .ok (.iaload, 1) := by decide +kernel
theorem dX3_goes_170 : decode cX3_goes 170 = .ok (.ifCond .ne 21, 3) := by decide +kernel
theorem dX3_goes_173 : decode cX3_goes 173 = .ok (.aload_n 0, 1) := by decide +kernel
theorem dX3_goes_174 : decode cX3_goes 174 = .ok (.getfield 7, 3) := by decide +kernel
theorem dX3_goes_177 : decode cX3_goes 177 = .ok (.sipush 145, 3) := by decide +kernel
theorem dX3_goes_180 : decode cX3_goes 180 = .ok (.iconst 1, 1) := by decide +kernel
theorem dX3_goes_181 : decode cX3_goes 181 = .ok (.iastore, 1) := by decide +kernel
theorem dX3_goes_182 : decode cX3_goes 182 = .ok (.aload_n 0, 1) := by decide +kernel
theorem dX3_goes_183 : decode cX3_goes 183 = .ok (.getfield 7, 3) := by decide +kernel
theorem dX3_goes_186 : decode cX3_goes 186 = .ok (.sipush 146, 3) := by decide +kernel
theorem dX3_goes_189 : decode cX3_goes 189 = .ok (.iload_n 3, 1) := by decide +kernel
theorem dX3_goes_190 : decode cX3_goes 190 = .ok (.iastore, 1) := by decide +kernel
theorem dX3_goes_191 : decode cX3_goes 191 = .ok (.iload_n 2, 1) := by decide +kernel
theorem dX3_goes_192 : decode cX3_goes 192 = .ok (.bipush 6, 2) := by decide +kernel
theorem dX3_goes_194 : decode cX3_goes 194 = .ok (.idiv, 1) := by decide +kernel
theorem dX3_goes_195 : decode cX3_goes 195 = .ok (.iconst 5, 1) := by decide +kernel
theorem dX3_goes_196 : decode cX3_goes 196 = .ok (.iconst 5, 1) := by decide +kernel
theorem dX3_goes_197 : decode cX3_goes 197 = .ok (.iload_n 3, 1) := by decide +kernel
theorem dX3_goes_198 : decode cX3_goes 198 = .ok (.imul, 1) := by decide +kernel
theorem dX3_goes_199 : decode cX3_goes 199 = .ok (.isub, 1) := by decide +kernel
theorem dX3_goes_200 : decode cX3_goes 200 = .ok (.if_icmp .ne 7, 3) := by decide +kernel
theorem dX3_goes_203 : decode cX3_goes 203 = .ok (.iconst 1, 1) := by decide +kernel
theorem dX3_goes_204 : decode cX3_goes 204 = .ok (.goto 4, 3) := by decide +kernel
theorem dX3_goes_207 : decode cX3_goes 207 = .ok (.iconst 0, 1) := by decide +kernel
theorem dX3_goes_208 : decode cX3_goes 208 = .ok (.istore 7, 2) := by decide +kernel
theorem dX3_goes_210 : decode cX3_goes 210 = .ok (.aload_n 0, 1) := by decide +kernel
theorem dX3_goes_211 : decode cX3_goes 211 = .ok (.iload_n 1, 1) := by decide +kernel
theorem dX3_goes_212 : decode cX3_goes 212 = .ok (.iconst (-1), 1) := by decide +kernel
theorem dX3_goes_213 : decode cX3_goes 213 = .ok (.iconst 0, 1) := by decide +kernel
theorem dX3_goes_214 : decode cX3_goes 214 = .ok (.iconst 0, 1) := by decide +kernel
theorem dX3_goes_215 : decode cX3_goes 215 = .ok (.invokevirtual 43, 3) := by decide +kernel
theorem dX3_goes_218 : decode cX3_goes 218 = .ok (.aload_n 0, 1) := by decide +kernel
theorem dX3_goes_219 : decode cX3_goes 219 = .ok (.iload_n 2, 1) := by decide +kernel
theorem dX3_goes_220 : decode cX3_goes 220 = .ok (.iload_n 3, 1) := by decide +kernel
theorem dX3_goes_221 : decode cX3_goes 221 = .ok (.iload 4, 2) := by decide +kernel
theorem dX3_goes_223 : decode cX3_goes 223 = .ok (.iconst 4, 1) := by decide +kernel
theorem dX3_goes_224 : decode cX3_goes 224 = .ok (.if_icmp .ne 12, 3) := by decide +kernel
theorem dX3_goes_227 : decode cX3_goes 227 = .ok (.iload 7, 2) := by decide +kernel
theorem dX3_goes_229 : decode cX3_goes 229 = .ok (.ifCond .eq 7, 3) := by decide +kernel
theorem dX3_goes_232 : decode cX3_goes 232 = .ok (.iconst 1, 1) := by decide +kernel
theorem dX3_goes_233 : decode cX3_goes 233 = .ok (.goto 5, 3) := by decide +kernel
theorem dX3_goes_236 : decode cX3_goes 236 = .ok (.iload 4, 2) := by decide +kernel
theorem dX3_goes_238 : decode cX3_goes 238 = .ok (.iload 6, 2) := by decide +kernel
theorem dX3_goes_240 : decode cX3_goes 240 = .ok (.invokevirtual 43, 3) := by decide +kernel
theorem dX3_goes_243 : decode cX3_goes 243 = .ok (.return_, 1) := by decide +kernel
theorem dX3_turns_0 : decode cX3_turns 0 = .ok (.aload_n 0, 1) := by decide +kernel
theorem dX3_turns_1 : decode cX3_turns 1 = .ok (.getfield 7, 3) := by decide +kernel
theorem dX3_turns_4 : decode cX3_turns 4 = .ok (.sipush 144, 3) := by decide +kernel
theorem dX3_turns_7 : decode cX3_turns 7 = .ok (.iconst 1, 1) := by decide +kernel
theorem dX3_turns_8 : decode cX3_turns 8 = .ok (.aload_n 0, 1) := by decide +kernel
theorem dX3_turns_9 : decode cX3_turns 9 = .ok (.getfield 7, 3) := by decide +kernel
theorem dX3_turns_12 : decode cX3_turns 12 = .ok (.sipush 144, 3) := by decide +kernel
theorem dX3_turns_15 : decode cX3_turns 15 = .ok (.iaload, 1) := by decide +kernel
theorem dX3_turns_16 : decode cX3_turns 16 = .ok (.isub, 1) := by decide +kernel
theorem dX3_turns_17 : decode cX3_turns 17 = .ok (.iastore, 1) := by decide +kernel
theorem dX3_turns_18 : decode cX3_turns 18 = .ok (.iconst 0, 1) := by decide +kernel
theorem dX3_turns_19 : decode cX3_turns 19 = .ok (.istore_n 1, 1) := by decide +kernel
theorem dX3_turns_20 : decode cX3_turns 20 = .ok (.iload_n 1, 1) := by decide +kernel
theorem dX3_turns_21 : decode cX3_turns 21 = .ok (.bipush 36, 2) := by decide +kernel
theorem dX3_turns_23 : decode cX3_turns 23 = .ok (.if_icmp .ge 96, 3) := by decide +kernel
theorem dX3_turns_26 : decode cX3_turns 26 = .ok (.aload_n 0, 1) := by decide +kernel
theorem dX3_turns_27 : decode cX3_turns 27 = .ok (.getfield 7, 3) := by decide +kernel
theorem dX3_turns_30 : decode cX3_turns 30 = .ok (.bipush 108, 2) := by decide +kernel
theorem dX3_turns_32 : decode cX3_turns 32 = .ok (.iload_n 1, 1) := by decide +kernel
theorem dX3_turns_33 : decode cX3_turns 33 = .ok (.iadd, 1) := by decide +kernel
theorem dX3_turns_34 : decode cX3_turns 34 = .ok (.iaload, 1) := by decide +kernel
theorem dX3_turns_35 : decode cX3_turns 35 = .ok (.iconst 1, 1) := by decide +kernel
theorem dX3_turns_36 : decode cX3_turns 36 = .ok (.if_icmp .ne 77, 3) := by decide +kernel
theorem dX3_turns_39 : decode cX3_turns 39 = .ok (.aload_n 0, 1) := by decide +kernel
theorem dX3_turns_40 : decode cX3_turns 40 = .ok (.getfield 7, 3) := by decide +kernel
theorem dX3_turns_43 : decode cX3_turns 43 = .ok (.iconst 0, 1) := by decide +kernel
theorem dX3_turns_44 : decode cX3_turns 44 = .ok (.iload_n 1, 1) := by decide +kernel
theorem dX3_turns_45 : decode cX3_turns 45 = .ok (.iadd, 1) := by decide +kernel
theorem dX3_turns_46 : decode cX3_turns 46 = .ok (.iaload, 1) := by decide +kernel
theorem dX3_turns_47 : decode cX3_turns 47 = .ok (.aload_n 0, 1) := by decide +kernel
theorem dX3_turns_48 : decode cX3_turns 48 = .ok (.getfield 7, 3) := by decide +kernel
theorem dX3_turns_51 : decode cX3_turns 51 = .ok (.sipush 144, 3) := by decide +kernel
theorem dX3_turns_54 : decode cX3_turns 54 = .ok (.iaload, 1) := by decide +kernel
theorem dX3_turns_55 : decode cX3_turns 55 = .ok (.if_icmp .ne 58, 3) := by decide +kernel
theorem dX3_turns_58 : decode cX3_turns 58 = .ok (.aload_n 0, 1) := by decide +kernel
theorem dX3_turns_59 : decode cX3_turns 59 = .ok (.getfield 7, 3) := by decide +kernel
theorem dX3_turns_62 : decode cX3_turns 62 = .ok (.sipush 151, 3) := by decide +kernel
theorem dX3_turns_65 : decode cX3_turns 65 = .ok (.iaload, 1) := by decide +kernel
theorem dX3_turns_66 : decode cX3_turns 66 = .ok (.aload_n 0, 1) := by decide +kernel
theorem dX3_turns_67 : decode cX3_turns 67 = .ok (.getfield 7, 3) := by decide +kernel
theorem dX3_turns_70 : decode cX3_turns 70 = .ok (.sipush 149, 3) := by decide +kernel
theorem dX3_turns_73 : decode cX3_turns 73 = .ok (.iaload, 1) := by decide +kernel
theorem dX3_turns_74 : decode cX3_turns 74 = .ok (.aload_n 0, 1) := by decide +kernel
theorem dX3_turns_75 : decode cX3_turns 75 = .ok (.getfield 7, 3) := by decide +kernel
theorem dX3_turns_78 : decode cX3_turns 78 = .ok (.bipush 72, 2) := by decide +kernel
theorem dX3_turns_80 : decode cX3_turns 80 = .ok (.iload_n 1, 1) := by decide +kernel
theorem dX3_turns_81 : decode cX3_turns 81 = .ok (.iadd, 1) := by decide +kernel
theorem dX3_turns_82 : decode cX3_turns 82 = .ok (.iaload, 1) := by decide +kernel
theorem dX3_turns_83 : decode cX3_turns 83 = .ok (.isub, 1) := by decide +kernel
theorem dX3_turns_84 : decode cX3_turns 84 = .ok (.invokestatic 94, 3) := by decide +kernel
theorem dX3_turns_87 : decode cX3_turns 87 = .ok (.istore_n 2, 1) := by decide +kernel
theorem dX3_turns_88 : decode cX3_turns 88 = .ok (.aload_n 0, 1) := by decide +kernel
theorem dX3_turns_89 : decode cX3_turns 89 = .ok (.getfield 7, 3) := by decide +kernel
theorem dX3_turns_92 : decode cX3_turns 92 = .ok (.bipush 72, 2) := by decide +kernel
theorem dX3_turns_94 : decode cX3_turns 94 = .ok (.iload_n 1, 1) := by decide +kernel
theorem dX3_turns_95 : decode cX3_turns 95 = .ok (.iadd, 1) := by decide +kernel
theorem dX3_turns_96 : decode cX3_turns 96 = .ok (.dup2, 1) := by decide +kernel
theorem dX3_turns_97 : decode cX3_turns 97 = .ok (.iaload, 1) := by decide +kernel
theorem dX3_turns_98 : decode cX3_turns 98 = .ok (.iload_n 2, 1) := by decide +kernel
theorem dX3_turns_99 : decode cX3_turns 99 = .ok (.iadd, 1) := by decide +kernel
theorem dX3_turns_100 : decode cX3_turns 100 = .ok (.iastore, 1) := by decide +kernel
theorem dX3_turns_101 : decode cX3_turns 101 = .ok (.aload_n 0, 1) := by decide +kernel
theorem dX3_turns_102 : decode cX3_turns 102 = .ok (.getfield 7, 3) := by decide +kernel
theorem dX3_turns_105 : decode cX3_turns 105 = .ok (.sipush 153, 3) := by decide +kernel
theorem dX3_turns_108 : decode cX3_turns 108 = .ok (.dup2, 1) := by decide +kernel
theorem dX3_turns_109 : decode cX3_turns 109 = .ok (.iaload, 1) := by decide +kernel
theorem dX3_turns_110 : decode cX3_turns 110 = .ok (.iload_n 2, 1) := by decide +kernel
theorem dX3_turns_111 : decode cX3_turns 111 = .ok (.iadd, 1) := by decide +kernel
theorem dX3_turns_112 : decode cX3_turns 112 = .ok (.iastore, 1) := by decide +kernel
theorem dX3_turns_113 : decode cX3_turns 113 = .ok (.iinc 1 1, 3) := by decide +kernel
theorem dX3_turns_116 : decode cX3_turns 116 = .ok (.goto (-96), 3) := by decide +kernel
theorem dX3_turns_119 : decode cX3_turns 119 = .ok (.return_, 1) := by decide +kernel
theorem dX3_makes_0 : decode cX3_makes 0 = .ok (.aload_n 0, 1) := by decide +kernel
theorem dX3_makes_1 : decode cX3_makes 1 = .ok (.iload_n 1, 1) := by decide +kernel
theorem dX3_makes_2 : decode cX3_makes 2 = .ok (.iload_n 2, 1) := by decide +kernel
theorem dX3_makes_3 : decode cX3_makes 3 = .ok (.invokevirtual 97, 3) := by decide +kernel
theorem dX3_makes_6 : decode cX3_makes 6 = .ok (.aload_n 0, 1) := by decide +kernel
theorem dX3_makes_7 : decode cX3_makes 7 = .ok (.getfield 7, 3) := by decide +kernel
theorem dX3_makes_10 : decode cX3_makes 10 = .ok (.sipush 147, 3) := by decide +kernel
theorem dX3_makes_13 : decode cX3_makes 13 = .ok (.dup2, 1) := by decide +kernel
theorem dX3_makes_14 : decode cX3_makes 14 = .ok (.iaload, 1) := by decide +kernel
theorem dX3_makes_15 : decode cX3_makes 15 = .ok (.iconst 1, 1) := by decide +kernel
theorem dX3_makes_16 : decode cX3_makes 16 = .ok (.iadd, 1) := by decide +kernel
theorem dX3_makes_17 : decode cX3_makes 17 = .ok (.iastore, 1) := by decide +kernel
theorem dX3_makes_18 : decode cX3_makes 18 = .ok (.aload_n 0, 1) := by decide +kernel
theorem dX3_makes_19 : decode cX3_makes 19 = .ok (.getfield 7, 3) := by decide +kernel
theorem dX3_makes_22 : decode cX3_makes 22 = .ok (.sipush 148, 3) := by decide +kernel
theorem dX3_makes_25 : decode cX3_makes 25 = .ok (.iconst 0, 1) := by decide +kernel
theorem dX3_makes_26 : decode cX3_makes 26 = .ok (.iastore, 1) := by decide +kernel
theorem dX3_makes_27 : decode cX3_makes 27 = .ok (.aload_n 0, 1) := by decide +kernel
theorem dX3_makes_28 : decode cX3_makes 28 = .ok (.getfield 7, 3) := by decide +kernel
theorem dX3_makes_31 : decode cX3_makes 31 = .ok (.sipush 145, 3) := by decide +kernel
theorem dX3_makes_34 : decode cX3_makes 34 = .ok (.iaload, 1) := by decide +kernel
theorem dX3_makes_35 : decode cX3_makes 35 = .ok (.ifCond .ne 7, 3) := by decide +kernel
theorem dX3_makes_38 : decode cX3_makes 38 = .ok (.aload_n 0, 1) := by decide +kernel
theorem dX3_makes_39 : decode cX3_makes 39 = .ok (.invokevirtual 101, 3) := by decide +kernel
theorem dX3_makes_42 : decode cX3_makes 42 = .ok (.return_, 1) := by decide +kernel
theorem dX3_passes_0 : decode cX3_passes 0 = .ok (.aload_n 0, 1) := by decide +kernel
theorem dX3_passes_1 : decode cX3_passes 1 = .ok (.getfield 7, 3) := by decide +kernel
theorem dX3_passes_4 : decode cX3_passes 4 = .ok (.sipush 147, 3) := by decide +kernel
theorem dX3_passes_7 : decode cX3_passes 7 = .ok (.dup2, 1) := by decide +kernel
theorem dX3_passes_8 : decode cX3_passes 8 = .ok (.iaload, 1) := by decide +kernel
theorem dX3_passes_9 : decode cX3_passes 9 = .ok (.iconst 1, 1) := by decide +kernel
theorem dX3_passes_10 : decode cX3_passes 10 = .ok (.iadd, 1) := by decide +kernel
theorem dX3_passes_11 : decode cX3_passes 11 = .ok (.iastore, 1) := by decide +kernel
theorem dX3_passes_12 : decode cX3_passes 12 = .ok (.aload_n 0, 1) := by decide +kernel
theorem dX3_passes_13 : decode cX3_passes 13 = .ok (.getfield 7, 3) := by decide +kernel
theorem dX3_passes_16 : decode cX3_passes 16 = .ok (.sipush 148, 3) := by decide +kernel
theorem dX3_passes_19 : decode cX3_passes 19 = .ok (.iaload, 1) := by decide +kernel
theorem dX3_passes_20 : decode cX3_passes 20 = .ok (.iconst 1, 1) := by decide +kernel
theorem dX3_passes_21 : decode cX3_passes 21 = .ok (.if_icmp .ne 52, 3) := by decide +kernel
theorem dX3_passes_24 : decode cX3_passes 24 = .ok (.aload_n 0, 1) := by decide +kernel
theorem dX3_passes_25 : decode cX3_passes 25 = .ok (.getfield 7, 3) := by decide +kernel
theorem dX3_passes_28 : decode cX3_passes 28 = .ok (.sipush 145, 3) := by decide +kernel
theorem dX3_passes_31 : decode cX3_passes 31 = .ok (.iconst 2, 1) := by decide +kernel
theorem dX3_passes_32 : decode cX3_passes 32 = .ok (.iastore, 1) := by decide +kernel
theorem dX3_passes_33 : decode cX3_passes 33 = .ok (.aload_n 0, 1) := by decide +kernel
theorem dX3_passes_34 : decode cX3_passes 34 = .ok (.iconst 0, 1) := by decide +kernel
theorem dX3_passes_35 : decode cX3_passes 35 = .ok (.invokevirtual 39, 3) := by decide +kernel
theorem dX3_passes_38 : decode cX3_passes 38 = .ok (.aload_n 0, 1) := by decide +kernel
theorem dX3_passes_39 : decode cX3_passes 39 = .ok (.iconst 1, 1) := by decide +kernel
theorem dX3_passes_40 : decode cX3_passes 40 = .ok (.invokevirtual 39, 3) := by decide +kernel
theorem dX3_passes_43 : decode cX3_passes 43 = .ok (.isub, 1) := by decide +kernel
theorem dX3_passes_44 : decode cX3_passes 44 = .ok (.istore_n 1, 1) := by decide +kernel
theorem dX3_passes_45 : decode cX3_passes 45 = .ok (.aload_n 0, 1) := by decide +kernel
theorem dX3_passes_46 : decode cX3_passes 46 = .ok (.getfield 7, 3) := by decide +kernel
theorem dX3_passes_49 : decode cX3_passes 49 = .ok (.sipush 146, 3) := by decide +kernel
theorem dX3_passes_52 : decode cX3_passes 52 = .ok (.iload_n 1, 1) := by decide +kernel
theorem dX3_passes_53 : decode cX3_passes 53 = .ok (.ifCond .le 7, 3) := by decide +kernel
theorem dX3_passes_56 : decode cX3_passes 56 = .ok (.iconst 0, 1) := by decide +kernel
theorem dX3_passes_57 : decode cX3_passes 57 = .ok (.goto 12, 3) := by decide +kernel
theorem dX3_passes_60 : decode cX3_passes 60 = .ok (.iload_n 1, 1) := by decide +kernel
theorem dX3_passes_61 : decode cX3_passes 61 = .ok (.ifCond .ge 7, 3) := by decide +kernel
theorem dX3_passes_64 : decode cX3_passes 64 = .ok (.iconst 1, 1) := by decide +kernel
theorem dX3_passes_65 : decode cX3_passes 65 = .ok (.goto 4, 3) := by decide +kernel
theorem dX3_passes_68 : decode cX3_passes 68 = .ok (.iconst (-1), 1) := by decide +kernel
theorem dX3_passes_69 : decode cX3_passes 69 = .ok (.iastore, 1) := by decide +kernel
theorem dX3_passes_70 : decode cX3_passes 70 = .ok (.goto 16, 3) := by decide +kernel
theorem dX3_passes_73 : decode cX3_passes 73 = .ok (.aload_n 0, 1) := by decide +kernel
theorem dX3_passes_74 : decode cX3_passes 74 = .ok (.getfield 7, 3) := by decide +kernel
theorem dX3_passes_77 : decode cX3_passes 77 = .ok (.sipush 148, 3) := by decide +kernel
theorem dX3_passes_80 : decode cX3_passes 80 = .ok (.iconst 1, 1) := by decide +kernel
theorem dX3_passes_81 : decode cX3_passes 81 = .ok (.iastore, 1) := by decide +kernel
theorem dX3_passes_82 : decode cX3_passes 82 = .ok (.aload_n 0, 1) := by decide +kernel
theorem dX3_passes_83 : decode cX3_passes 83 = .ok (.invokevirtual 101, 3) := by decide +kernel
theorem dX3_passes_86 : decode cX3_passes 86 = .ok (.return_, 1) := by decide +kernel
theorem dX3_refuses_0 : decode cX3_refuses 0 = .ok (.aload_n 0, 1) := by decide +kernel
theorem dX3_refuses_1 : decode cX3_refuses 1 = .ok (.getfield 7, 3) := by decide +kernel
theorem dX3_refuses_4 : decode cX3_refuses 4 = .ok (.sipush 145, 3) := by decide +kernel
theorem dX3_refuses_7 : decode cX3_refuses 7 = .ok (.iaload, 1) := by decide +kernel
theorem dX3_refuses_8 : decode cX3_refuses 8 = .ok (.ifCond .le 5, 3) := by decide +kernel
theorem dX3_refuses_11 : decode cX3_refuses 11 = .ok (.iconst 2, 1) := by decide +kernel
theorem dX3_refuses_12 : decode cX3_refuses 12 = .ok (.ireturn, 1) := by decide +kernel
theorem dX3_refuses_13 : decode cX3_refuses 13 = .ok (.aload_n 0, 1) := by decide +kernel
theorem dX3_refuses_14 : decode cX3_refuses 14 = .ok (.getfield 7, 3) := by decide +kernel
theorem dX3_refuses_17 : decode cX3_refuses 17 = .ok (.iconst 0, 1) := by decide +kernel
theorem dX3_refuses_18 : decode cX3_refuses 18 = .ok (.iload_n 1, 1) := by decide +kernel
theorem dX3_refuses_19 : decode cX3_refuses 19 = .ok (.iadd, 1) := by decide +kernel
theorem dX3_refuses_20 : decode cX3_refuses 20 = .ok (.iaload, 1) := by decide +kernel
theorem dX3_refuses_21 : decode cX3_refuses 21 = .ok (.iconst (-1), 1) := by decide +kernel
theorem dX3_refuses_22 : decode cX3_refuses 22 = .ok (.if_icmp .ne 5, 3) := by decide +kernel
theorem dX3_refuses_25 : decode cX3_refuses 25 = .ok (.iconst 3, 1) := by decide +kernel
theorem dX3_refuses_26 : decode cX3_refuses 26 = .ok (.ireturn, 1) := by decide +kernel
theorem dX3_refuses_27 : decode cX3_refuses 27 = .ok (.aload_n 0, 1) := by decide +kernel
theorem dX3_refuses_28 : decode cX3_refuses 28 = .ok (.getfield 7, 3) := by decide +kernel
theorem dX3_refuses_31 : decode cX3_refuses 31 = .ok (.iconst 0, 1) := by decide +kernel
theorem dX3_refuses_32 : decode cX3_refuses 32 = .ok (.iload_n 1, 1) := by decide +kernel
theorem dX3_refuses_33 : decode cX3_refuses 33 = .ok (.iadd, 1) := by decide +kernel
theorem dX3_refuses_34 : decode cX3_refuses 34 = .ok (.iaload, 1) := by decide +kernel
theorem dX3_refuses_35 : decode cX3_refuses 35 = .ok (.aload_n 0, 1) := by decide +kernel
theorem dX3_refuses_36 : decode cX3_refuses 36 = .ok (.getfield 7, 3) := by decide +kernel
theorem dX3_refuses_39 : decode cX3_refuses 39 = .ok (.sipush 144, 3) := by decide +kernel
theorem dX3_refuses_42 : decode cX3_refuses 42 = .ok (.iaload, 1) := by decide +kernel
theorem dX3_refuses_43 : decode cX3_refuses 43 = .ok (.if_icmp .eq 5, 3) := by decide +kernel
theorem dX3_refuses_46 : decode cX3_refuses 46 = .ok (.iconst 4, 1) := by decide +kernel
theorem dX3_refuses_47 : decode cX3_refuses 47 = .ok (.ireturn, 1) := by decide +kernel
theorem dX3_refuses_48 : decode cX3_refuses 48 = .ok (.aload_n 0, 1) := by decide +kernel
theorem dX3_refuses_49 : decode cX3_refuses 49 = .ok (.getfield 7, 3) := by decide +kernel
theorem dX3_refuses_52 : decode cX3_refuses 52 = .ok (.iconst 0, 1) := by decide +kernel
theorem dX3_refuses_53 : decode cX3_refuses 53 = .ok (.iload_n 2, 1) := by decide +kernel
theorem dX3_refuses_54 : decode cX3_refuses 54 = .ok (.iadd, 1) := by decide +kernel
theorem dX3_refuses_55 : decode cX3_refuses 55 = .ok (.iaload, 1) := by decide +kernel
theorem dX3_refuses_56 : decode cX3_refuses 56 = .ok (.aload_n 0, 1) := by decide +kernel
theorem dX3_refuses_57 : decode cX3_refuses 57 = .ok (.getfield 7, 3) := by decide +kernel
theorem dX3_refuses_60 : decode cX3_refuses 60 = .ok (.sipush 144, 3) := by decide +kernel
theorem dX3_refuses_63 : decode cX3_refuses 63 = .ok (.iaload, 1) := by decide +kernel
theorem dX3_refuses_64 : decode cX3_refuses 64 = .ok (.if_icmp .ne 5, 3) := by decide +kernel
theorem dX3_refuses_67 : decode cX3_refuses 67 = .ok (.iconst 5, 1) := by decide +kernel
theorem dX3_refuses_68 : decode cX3_refuses 68 = .ok (.ireturn, 1) := by decide +kernel
theorem dX3_refuses_69 : decode cX3_refuses 69 = .ok (.aload_n 0, 1) := by decide +kernel
theorem dX3_refuses_70 : decode cX3_refuses 70 = .ok (.iload_n 1, 1) := by decide +kernel
theorem dX3_refuses_71 : decode cX3_refuses 71 = .ok (.iload_n 2, 1) := by decide +kernel
theorem dX3_refuses_72 : decode cX3_refuses 72 = .ok (.invokevirtual 87, 3) := by decide +kernel
theorem dX3_refuses_75 : decode cX3_refuses 75 = .ok (.ifCond .ge 8, 3) := by decide +kernel
theorem dX3_refuses_78 : decode cX3_refuses 78 = .ok (.bipush 6, 2) := by decide +kernel
theorem dX3_refuses_80 : decode cX3_refuses 80 = .ok (.goto 18, 3) := by decide +kernel
theorem dX3_refuses_83 : decode cX3_refuses 83 = .ok (.aload_n 0, 1) := by decide +kernel
theorem dX3_refuses_84 : decode cX3_refuses 84 = .ok (.iload_n 1, 1) := by decide +kernel
theorem dX3_refuses_85 : decode cX3_refuses 85 = .ok (.iload_n 2, 1) := by decide +kernel
theorem dX3_refuses_86 : decode cX3_refuses 86 = .ok (.invokevirtual 91, 3) := by decide +kernel
theorem dX3_refuses_89 : decode cX3_refuses 89 = .ok (.ifCond .eq 7, 3) := by decide +kernel
theorem dX3_refuses_92 : decode cX3_refuses 92 = .ok (.iconst 0, 1) := by decide +kernel
theorem dX3_refuses_93 : decode cX3_refuses 93 = .ok (.goto 5, 3) := by decide +kernel
theorem dX3_refuses_96 : decode cX3_refuses 96 = .ok (.bipush 7, 2) := by decide +kernel
theorem dX3_refuses_98 : decode cX3_refuses 98 = .ok (.ireturn, 1) := by decide +kernel
theorem dX3_refusesPass_0 : decode cX3_refusesPass 0 = .ok (.aload_n 0, 1) := by decide +kernel
theorem dX3_refusesPass_1 : decode cX3_refusesPass 1 = .ok (.getfield 7, 3) := by decide +kernel
theorem dX3_refusesPass_4 : decode cX3_refusesPass 4 = .ok (.sipush 145, 3) := by decide +kernel
theorem dX3_refusesPass_7 : decode cX3_refusesPass 7 = .ok (.iaload, 1) := by decide +kernel
theorem dX3_refusesPass_8 : decode cX3_refusesPass 8 = .ok (.ifCond .le 7, 3) := by decide +kernel
theorem dX3_refusesPass_11 : decode cX3_refusesPass 11 = .ok (.iconst 2, 1) := by decide +kernel
theorem dX3_refusesPass_12 : decode cX3_refusesPass 12 = .ok (.goto 24, 3) := by decide +kernel
theorem dX3_refusesPass_15 : decode cX3_refusesPass 15 = .ok (.aload_n 0, 1) := by decide +kernel
theorem dX3_refusesPass_16 : decode cX3_refusesPass 16 = .ok (.aload_n 0, 1) := by decide +kernel
theorem dX3_refusesPass_17 : decode cX3_refusesPass 17 = .ok (.getfield 7, 3) := by decide +kernel
theorem dX3_refusesPass_20 : decode cX3_refusesPass 20 = .ok (.sipush 144, 3) := by decide +kernel
theorem dX3_refusesPass_23 : decode cX3_refusesPass 23 = .ok (.iaload, 1) := by decide +kernel
theorem dX3_refusesPass_24 : decode cX3_refusesPass 24 = .ok (.invokevirtual 104, 3) := by decide +kernel
theorem dX3_refusesPass_27 : decode cX3_refusesPass 27 = .ok (.ifCond .le 8, 3) := by decide +kernel
theorem dX3_refusesPass_30 : decode cX3_refusesPass 30 = .ok (.bipush 8, 2) := by decide +kernel
theorem dX3_refusesPass_32 : decode cX3_refusesPass 32 = .ok (.goto 4, 3) := by decide +kernel
theorem dX3_refusesPass_35 : decode cX3_refusesPass 35 = .ok (.iconst 0, 1) := by decide +kernel
theorem dX3_refusesPass_36 : decode cX3_refusesPass 36 = .ok (.ireturn, 1) := by decide +kernel
theorem dX3_move_0 : decode cX3_move 0 = .ok (.iload_n 1, 1) := by decide +kernel
theorem dX3_move_1 : decode cX3_move 1 = .ok (.invokestatic 58, 3) := by decide +kernel
theorem dX3_move_4 : decode cX3_move 4 = .ok (.ifCond .eq 10, 3) := by decide +kernel
theorem dX3_move_7 : decode cX3_move 7 = .ok (.iload_n 2, 1) := by decide +kernel
theorem dX3_move_8 : decode cX3_move 8 = .ok (.invokestatic 58, 3) := by decide +kernel
theorem dX3_move_11 : decode cX3_move 11 = .ok (.ifCond .ne 5, 3) := by decide +kernel
theorem dX3_move_14 : decode cX3_move 14 = .ok (.iconst (-1), 1) := by decide +kernel
theorem dX3_move_15 : decode cX3_move 15 = .ok (.ireturn, 1) := by decide +kernel
theorem dX3_move_16 : decode cX3_move 16 = .ok (.aload_n 0, 1) := by decide +kernel
theorem dX3_move_17 : decode cX3_move 17 = .ok (.iload_n 1, 1) := by decide +kernel
theorem dX3_move_18 : decode cX3_move 18 = .ok (.iload_n 2, 1) := by decide +kernel
theorem dX3_move_19 : decode cX3_move 19 = .ok (.invokevirtual 107, 3) := by decide +kernel
theorem dX3_move_22 : decode cX3_move 22 = .ok (.ifCond .eq 6, 3) := by decide +kernel
theorem dX3_move_25 : decode cX3_move 25 = .ok (.bipush (-2), 2) := by decide +kernel
theorem dX3_move_27 : decode cX3_move 27 = .ok (.ireturn, 1) := by decide +kernel
theorem dX3_move_28 : decode cX3_move 28 = .ok (.aload_n 0, 1) := by decide +kernel
theorem dX3_move_29 : decode cX3_move 29 = .ok (.invokevirtual 51, 3) := by decide +kernel
theorem dX3_move_32 : decode cX3_move 32 = .ok (.aload_n 0, 1) := by decide +kernel
theorem dX3_move_33 : decode cX3_move 33 = .ok (.iload_n 1, 1) := by decide +kernel
theorem dX3_move_34 : decode cX3_move 34 = .ok (.iload_n 2, 1) := by decide +kernel
theorem dX3_move_35 : decode cX3_move 35 = .ok (.invokevirtual 87, 3) := by decide +kernel
theorem dX3_move_38 : decode cX3_move 38 = .ok (.istore_n 3, 1) := by decide +kernel
theorem dX3_move_39 : decode cX3_move 39 = .ok (.aload_n 0, 1) := by decide +kernel
theorem dX3_move_40 : decode cX3_move 40 = .ok (.iload_n 1, 1) := by decide +kernel
theorem dX3_move_41 : decode cX3_move 41 = .ok (.iload_n 2, 1) := by decide +kernel
theorem dX3_move_42 : decode cX3_move 42 = .ok (.invokevirtual 110, 3) := by decide +kernel
theorem dX3_move_45 : decode cX3_move 45 = .ok (.iload_n 3, 1) := by decide +kernel
theorem dX3_move_46 : decode cX3_move 46 = .ok (.ireturn, 1) := by decide +kernel
theorem dX3_pass_0 : decode cX3_pass 0 = .ok (.aload_n 0, 1) := by decide +kernel
theorem dX3_pass_1 : decode cX3_pass 1 = .ok (.invokevirtual 113, 3) := by decide +kernel
theorem dX3_pass_4 : decode cX3_pass 4 = .ok (.ifCond .eq 6, 3) := by decide +kernel
theorem dX3_pass_7 : decode cX3_pass 7 = .ok (.bipush (-2), 2) := by decide +kernel
theorem dX3_pass_9 : decode cX3_pass 9 = .ok (.ireturn, 1) := by decide +kernel
theorem dX3_pass_10 : decode cX3_pass 10 = .ok (.aload_n 0, 1) := by decide +kernel
theorem dX3_pass_11 : decode cX3_pass 11 = .ok (.invokevirtual 51, 3) := by decide +kernel
theorem dX3_pass_14 : decode cX3_pass 14 = .ok (.aload_n 0, 1) := by decide +kernel
theorem dX3_pass_15 : decode cX3_pass 15 = .ok (.invokevirtual 116, 3) := by decide +kernel
theorem dX3_pass_18 : decode cX3_pass 18 = .ok (.aload_n 0, 1) := by decide +kernel
theorem dX3_pass_19 : decode cX3_pass 19 = .ok (.getfield 7, 3) := by decide +kernel
theorem dX3_pass_22 : decode cX3_pass 22 = .ok (.sipush 145, 3) := by decide +kernel
theorem dX3_pass_25 : decode cX3_pass 25 = .ok (.iaload, 1) := by decide +kernel
theorem dX3_pass_26 : decode cX3_pass 26 = .ok (.ifCond .le 7, 3) := by decide +kernel
theorem dX3_pass_29 : decode cX3_pass 29 = .ok (.iconst 1, 1) := by decide +kernel
theorem dX3_pass_30 : decode cX3_pass 30 = .ok (.goto 4, 3) := by decide +kernel
theorem dX3_pass_33 : decode cX3_pass 33 = .ok (.iconst 0, 1) := by decide +kernel
theorem dX3_pass_34 : decode cX3_pass 34 = .ok (.ireturn, 1) := by decide +kernel
theorem dX3_refusal_0 : decode cX3_refusal 0 = .ok (.iload_n 1, 1) := by decide +kernel
theorem dX3_refusal_1 : decode cX3_refusal 1 = .ok (.invokestatic 58, 3) := by decide +kernel
theorem dX3_refusal_4 : decode cX3_refusal 4 = .ok (.ifCond .eq 19, 3) := by decide +kernel
theorem dX3_refusal_7 : decode cX3_refusal 7 = .ok (.iload_n 2, 1) := by decide +kernel
theorem dX3_refusal_8 : decode cX3_refusal 8 = .ok (.invokestatic 58, 3) := by decide +kernel
theorem dX3_refusal_11 : decode cX3_refusal 11 = .ok (.ifCond .eq 12, 3) := by decide +kernel
theorem dX3_refusal_14 : decode cX3_refusal 14 = .ok (.aload_n 0, 1) := by decide +kernel
theorem dX3_refusal_15 : decode cX3_refusal 15 = .ok (.iload_n 1, 1) := by decide +kernel
theorem dX3_refusal_16 : decode cX3_refusal 16 = .ok (.iload_n 2, 1) := by decide +kernel
theorem dX3_refusal_17 : decode cX3_refusal 17 = .ok (.invokevirtual 107, 3) := by decide +kernel
theorem dX3_refusal_20 : decode cX3_refusal 20 = .ok (.goto 4, 3) := by decide +kernel
theorem dX3_refusal_23 : decode cX3_refusal 23 = .ok (.iconst (-1), 1) := by decide +kernel
theorem dX3_refusal_24 : decode cX3_refusal 24 = .ok (.ireturn, 1) := by decide +kernel
theorem dX3_cost_0 : decode cX3_cost 0 = .ok (.iload_n 1, 1) := by decide +kernel
theorem dX3_cost_1 : decode cX3_cost 1 = .ok (.invokestatic 58, 3) := by decide +kernel
theorem dX3_cost_4 : decode cX3_cost 4 = .ok (.ifCond .eq 10, 3) := by decide +kernel
theorem dX3_cost_7 : decode cX3_cost 7 = .ok (.iload_n 2, 1) := by decide +kernel
theorem dX3_cost_8 : decode cX3_cost 8 = .ok (.invokestatic 58, 3) := by decide +kernel
theorem dX3_cost_11 : decode cX3_cost 11 = .ok (.ifCond .ne 5, 3) := by decide +kernel
theorem dX3_cost_14 : decode cX3_cost 14 = .ok (.iconst (-1), 1) := by decide +kernel
theorem dX3_cost_15 : decode cX3_cost 15 = .ok (.ireturn, 1) := by decide +kernel
theorem dX3_cost_16 : decode cX3_cost 16 = .ok (.aload_n 0, 1) := by decide +kernel
theorem dX3_cost_17 : decode cX3_cost 17 = .ok (.getfield 7, 3) := by decide +kernel
theorem dX3_cost_20 : decode cX3_cost 20 = .ok (.iconst 0, 1) := by decide +kernel
theorem dX3_cost_21 : decode cX3_cost 21 = .ok (.iload_n 1, 1) := by decide +kernel
theorem dX3_cost_22 : decode cX3_cost 22 = .ok (.iadd, 1) := by decide +kernel
theorem dX3_cost_23 : decode cX3_cost 23 = .ok (.iaload, 1) := by decide +kernel
theorem dX3_cost_24 : decode cX3_cost 24 = .ok (.iconst (-1), 1) := by decide +kernel
theorem dX3_cost_25 : decode cX3_cost 25 = .ok (.if_icmp .ne 7, 3) := by decide +kernel
theorem dX3_cost_28 : decode cX3_cost 28 = .ok (.iconst (-1), 1) := by decide +kernel
theorem dX3_cost_29 : decode cX3_cost 29 = .ok (.goto 9, 3) := by decide +kernel
theorem dX3_cost_32 : decode cX3_cost 32 = .ok (.aload_n 0, 1) := by decide +kernel
theorem dX3_cost_33 : decode cX3_cost 33 = .ok (.iload_n 1, 1) := by decide +kernel
theorem dX3_cost_34 : decode cX3_cost 34 = .ok (.iload_n 2, 1) := by decide +kernel
theorem dX3_cost_35 : decode cX3_cost 35 = .ok (.invokevirtual 87, 3) := by decide +kernel
theorem dX3_cost_38 : decode cX3_cost 38 = .ok (.istore_n 3, 1) := by decide +kernel
theorem dX3_cost_39 : decode cX3_cost 39 = .ok (.iload_n 3, 1) := by decide +kernel
theorem dX3_cost_40 : decode cX3_cost 40 = .ok (.ifCond .ge 8, 3) := by decide +kernel
theorem dX3_cost_43 : decode cX3_cost 43 = .ok (.bipush (-4), 2) := by decide +kernel
theorem dX3_cost_45 : decode cX3_cost 45 = .ok (.goto 4, 3) := by decide +kernel
theorem dX3_cost_48 : decode cX3_cost 48 = .ok (.iload_n 3, 1) := by decide +kernel
theorem dX3_cost_49 : decode cX3_cost 49 = .ok (.ireturn, 1) := by decide +kernel
theorem dX3_moves_0 : decode cX3_moves 0 = .ok (.iload_n 1, 1) := by decide +kernel
theorem dX3_moves_1 : decode cX3_moves 1 = .ok (.invokestatic 119, 3) := by decide +kernel
theorem dX3_moves_4 : decode cX3_moves 4 = .ok (.ifCond .eq 11, 3) := by decide +kernel
theorem dX3_moves_7 : decode cX3_moves 7 = .ok (.aload_n 0, 1) := by decide +kernel
theorem dX3_moves_8 : decode cX3_moves 8 = .ok (.iload_n 1, 1) := by decide +kernel
theorem dX3_moves_9 : decode cX3_moves 9 = .ok (.invokevirtual 104, 3) := by decide +kernel
theorem dX3_moves_12 : decode cX3_moves 12 = .ok (.goto 4, 3) := by decide +kernel
theorem dX3_moves_15 : decode cX3_moves 15 = .ok (.iconst (-1), 1) := by decide +kernel
theorem dX3_moves_16 : decode cX3_moves 16 = .ok (.ireturn, 1) := by decide +kernel
theorem dX3_listed_0 : decode cX3_listed 0 = .ok (.iload_n 1, 1) := by decide +kernel
theorem dX3_listed_1 : decode cX3_listed 1 = .ok (.invokestatic 119, 3) := by decide +kernel
theorem dX3_listed_4 : decode cX3_listed 4 = .ok (.ifCond .eq 7, 3) := by decide +kernel
theorem dX3_listed_7 : decode cX3_listed 7 = .ok (.iload_n 2, 1) := by decide +kernel
theorem dX3_listed_8 : decode cX3_listed 8 = .ok (.ifCond .ge 5, 3) := by decide +kernel
theorem dX3_listed_11 : decode cX3_listed 11 = .ok (.iconst (-1), 1) := by decide +kernel
theorem dX3_listed_12 : decode cX3_listed 12 = .ok (.ireturn, 1) := by decide +kernel
theorem dX3_listed_13 : decode cX3_listed 13 = .ok (.aload_n 0, 1) := by decide +kernel
theorem dX3_listed_14 : decode cX3_listed 14 = .ok (.iload_n 1, 1) := by decide +kernel
theorem dX3_listed_15 : decode cX3_listed 15 = .ok (.iload_n 2, 1) := by decide +kernel
theorem dX3_listed_16 : decode cX3_listed 16 = .ok (.invokevirtual 122, 3) := by decide +kernel
theorem dX3_listed_19 : decode cX3_listed 19 = .ok (.istore_n 3, 1) := by decide +kernel
theorem dX3_listed_20 : decode cX3_listed 20 = .ok (.iload_n 3, 1) := by decide +kernel
theorem dX3_listed_21 : decode cX3_listed 21 = .ok (.ifCond .ge 8, 3) := by decide +kernel
theorem dX3_listed_24 : decode cX3_listed 24 = .ok (.bipush (-4), 2) := by decide +kernel
theorem dX3_listed_26 : decode cX3_listed 26 = .ok (.goto 4, 3) := by decide +kernel
theorem dX3_listed_29 : decode cX3_listed 29 = .ok (.iload_n 3, 1) := by decide +kernel
theorem dX3_listed_30 : decode cX3_listed 30 = .ok (.ireturn, 1) := by decide +kernel
theorem dX3_struck_0 : decode cX3_struck 0 = .ok (.iload_n 1, 1) := by decide +kernel
theorem dX3_struck_1 : decode cX3_struck 1 = .ok (.invokestatic 58, 3) := by decide +kernel
theorem dX3_struck_4 : decode cX3_struck 4 = .ok (.ifCond .eq 10, 3) := by decide +kernel
theorem dX3_struck_7 : decode cX3_struck 7 = .ok (.iload_n 2, 1) := by decide +kernel
theorem dX3_struck_8 : decode cX3_struck 8 = .ok (.invokestatic 119, 3) := by decide +kernel
theorem dX3_struck_11 : decode cX3_struck 11 = .ok (.ifCond .ne 5, 3) := by decide +kernel
theorem dX3_struck_14 : decode cX3_struck 14 = .ok (.iconst (-1), 1) := by decide +kernel
theorem dX3_struck_15 : decode cX3_struck 15 = .ok (.ireturn, 1) := by decide +kernel
theorem dX3_struck_16 : decode cX3_struck 16 = .ok (.aload_n 0, 1) := by decide +kernel
theorem dX3_struck_17 : decode cX3_struck 17 = .ok (.invokevirtual 125, 3) := by decide +kernel
theorem dX3_struck_20 : decode cX3_struck 20 = .ok (.aload_n 0, 1) := by decide +kernel
theorem dX3_struck_21 : decode cX3_struck 21 = .ok (.iload_n 1, 1) := by decide +kernel
theorem dX3_struck_22 : decode cX3_struck 22 = .ok (.iconst 1, 1) := by decide +kernel
theorem dX3_struck_23 : decode cX3_struck 23 = .ok (.iload_n 2, 1) := by decide +kernel
theorem dX3_struck_24 : decode cX3_struck 24 = .ok (.isub, 1) := by decide +kernel
theorem dX3_struck_25 : decode cX3_struck 25 = .ok (.iconst 1, 1) := by decide +kernel
theorem dX3_struck_26 : decode cX3_struck 26 = .ok (.iconst 0, 1) := by decide +kernel
theorem dX3_struck_27 : decode cX3_struck 27 = .ok (.invokevirtual 43, 3) := by decide +kernel
theorem dX3_struck_30 : decode cX3_struck 30 = .ok (.iconst 0, 1) := by decide +kernel
theorem dX3_struck_31 : decode cX3_struck 31 = .ok (.istore_n 3, 1) := by decide +kernel
theorem dX3_struck_32 : decode cX3_struck 32 = .ok (.iconst 0, 1) := by decide +kernel
theorem dX3_struck_33 : decode cX3_struck 33 = .ok (.istore 4, 2) := by decide +kernel
theorem dX3_struck_35 : decode cX3_struck 35 = .ok (.iload 4, 2) := by decide +kernel
theorem dX3_struck_37 : decode cX3_struck 37 = .ok (.bipush 36, 2) := by decide +kernel
theorem dX3_struck_39 : decode cX3_struck 39 = .ok (.if_icmp .ge 40, 3) := by decide +kernel
theorem dX3_struck_42 : decode cX3_struck 42 = .ok (.iload_n 3, 1) := by decide +kernel
theorem dX3_struck_43 : decode cX3_struck 43 = .ok (.aload_n 0, 1) := by decide +kernel
theorem dX3_struck_44 : decode cX3_struck 44 = .ok (.getfield 7, 3) := by decide +kernel
theorem dX3_struck_47 : decode cX3_struck 47 = .ok (.iconst 0, 1) := by decide +kernel
theorem dX3_struck_48 : decode cX3_struck 48 = .ok (.iload 4, 2) := by decide +kernel
theorem dX3_struck_50 : decode cX3_struck 50 = .ok (.iadd, 1) := by decide +kernel
theorem dX3_struck_51 : decode cX3_struck 51 = .ok (.iaload, 1) := by decide +kernel
theorem dX3_struck_52 : decode cX3_struck 52 = .ok (.iload_n 2, 1) := by decide +kernel
theorem dX3_struck_53 : decode cX3_struck 53 = .ok (.if_icmp .ne 17, 3) := by decide +kernel
theorem dX3_struck_56 : decode cX3_struck 56 = .ok (.aload_n 0, 1) := by decide +kernel
theorem dX3_struck_57 : decode cX3_struck 57 = .ok (.iload 4, 2) := by decide +kernel
theorem dX3_struck_59 : decode cX3_struck 59 = .ok (.iload_n 1, 1) := by decide +kernel
theorem dX3_struck_60 : decode cX3_struck 60 = .ok (.invokevirtual 91, 3) := by decide +kernel
theorem dX3_struck_63 : decode cX3_struck 63 = .ok (.ifCond .eq 7, 3) := by decide +kernel
theorem dX3_struck_66 : decode cX3_struck 66 = .ok (.iconst 1, 1) := by decide +kernel
theorem dX3_struck_67 : decode cX3_struck 67 = .ok (.goto 4, 3) := by decide +kernel
theorem dX3_struck_70 : decode cX3_struck 70 = .ok (.iconst 0, 1) := by decide +kernel
theorem dX3_struck_71 : decode cX3_struck 71 = .ok (.iadd, 1) := by decide +kernel
theorem dX3_struck_72 : decode cX3_struck 72 = .ok (.istore_n 3, 1) := by decide +kernel
theorem dX3_struck_73 : decode cX3_struck 73 = .ok (.iinc 4 1, 3) := by decide +kernel
theorem dX3_struck_76 : decode cX3_struck 76 = .ok (.goto (-41), 3) := by decide +kernel
theorem dX3_struck_79 : decode cX3_struck 79 = .ok (.aload_n 0, 1) := by decide +kernel
theorem dX3_struck_80 : decode cX3_struck 80 = .ok (.invokevirtual 128, 3) := by decide +kernel
theorem dX3_struck_83 : decode cX3_struck 83 = .ok (.iload_n 3, 1) := by decide +kernel
theorem dX3_struck_84 : decode cX3_struck 84 = .ok (.ireturn, 1) := by decide +kernel
theorem dX3_goesOn_0 : decode cX3_goesOn 0 = .ok (.iconst 0, 1) := by decide +kernel
theorem dX3_goesOn_1 : decode cX3_goesOn 1 = .ok (.istore_n 3, 1) := by decide +kernel
theorem dX3_goesOn_2 : decode cX3_goesOn 2 = .ok (.iload_n 3, 1) := by decide +kernel
theorem dX3_goesOn_3 : decode cX3_goesOn 3 = .ok (.bipush 36, 2) := by decide +kernel
theorem dX3_goesOn_5 : decode cX3_goesOn 5 = .ok (.if_icmp .ge 135, 3) := by decide +kernel
theorem dX3_goesOn_8 : decode cX3_goesOn 8 = .ok (.aload_n 0, 1) := by decide +kernel
theorem dX3_goesOn_9 : decode cX3_goesOn 9 = .ok (.getfield 25, 3) := by decide +kernel
theorem dX3_goesOn_12 : decode cX3_goesOn 12 = .ok (.iload_n 3, 1) := by decide +kernel
theorem dX3_goesOn_13 : decode cX3_goesOn 13 = .ok (.aload_n 0, 1) := by decide +kernel
theorem dX3_goesOn_14 : decode cX3_goesOn 14 = .ok (.getfield 22, 3) := by decide +kernel
theorem dX3_goesOn_17 : decode cX3_goesOn 17 = .ok (.iload_n 3, 1) := by decide +kernel
theorem dX3_goesOn_18 : decode cX3_goesOn 18 = .ok (.iaload, 1) := by decide +kernel
theorem dX3_goesOn_19 : decode cX3_goesOn 19 = .ok (.iastore, 1) := by decide +kernel
theorem dX3_goesOn_20 : decode cX3_goesOn 20 = .ok (.iconst 0, 1) := by decide +kernel
theorem dX3_goesOn_21 : decode cX3_goesOn 21 = .ok (.istore 4, 2) := by decide +kernel
theorem dX3_goesOn_23 : decode cX3_goesOn 23 = .ok (.iload 4, 2) := by decide +kernel
theorem dX3_goesOn_25 : decode cX3_goesOn 25 = .ok (.bipush 36, 2) := by decide +kernel
theorem dX3_goesOn_27 : decode cX3_goesOn 27 = .ok (.if_icmp .ge 107, 3) := by decide +kernel
theorem dX3_goesOn_30 : decode cX3_goesOn 30 = .ok (.aload_n 0, 1) := by decide +kernel
theorem dX3_goesOn_31 : decode cX3_goesOn 31 = .ok (.getfield 7, 3) := by decide +kernel
theorem dX3_goesOn_34 : decode cX3_goesOn 34 = .ok (.iconst 0, 1) := by decide +kernel
theorem dX3_goesOn_35 : decode cX3_goesOn 35 = .ok (.iload_n 3, 1) := by decide +kernel
theorem dX3_goesOn_36 : decode cX3_goesOn 36 = .ok (.iadd, 1) := by decide +kernel
theorem dX3_goesOn_37 : decode cX3_goesOn 37 = .ok (.iaload, 1) := by decide +kernel
theorem dX3_goesOn_38 : decode cX3_goesOn 38 = .ok (.iconst (-1), 1) := by decide +kernel
theorem dX3_goesOn_39 : decode cX3_goesOn 39 = .ok (.if_icmp .ne 95, 3) := by decide +kernel
theorem dX3_goesOn_42 : decode cX3_goesOn 42 = .ok (.aload_n 0, 1) := by decide +kernel
theorem dX3_goesOn_43 : decode cX3_goesOn 43 = .ok (.getfield 22, 3) := by decide +kernel
theorem dX3_goesOn_46 : decode cX3_goesOn 46 = .ok (.iload 4, 2) := by decide +kernel
theorem dX3_goesOn_48 : decode cX3_goesOn 48 = .ok (.iaload, 1) := by decide +kernel
theorem dX3_goesOn_49 : decode cX3_goesOn 49 = .ok (.ifCond .ge 7, 3) := by decide +kernel
theorem dX3_goesOn_52 : decode cX3_goesOn 52 = .ok (.iconst (-1), 1) := by decide +kernel
theorem dX3_goesOn_53 : decode cX3_goesOn 53 = .ok (.goto 12, 3) := by decide +kernel
theorem dX3_goesOn_56 : decode cX3_goesOn 56 = .ok (.aload_n 0, 1) := by decide +kernel
theorem dX3_goesOn_57 : decode cX3_goesOn 57 = .ok (.iload_n 1, 1) := by decide +kernel
theorem dX3_goesOn_58 : decode cX3_goesOn 58 = .ok (.iload_n 2, 1) := by decide +kernel
theorem dX3_goesOn_59 : decode cX3_goesOn 59 = .ok (.iload 4, 2) := by decide +kernel
theorem dX3_goesOn_61 : decode cX3_goesOn 61 = .ok (.iload_n 3, 1) := by decide +kernel
theorem dX3_goesOn_62 : decode cX3_goesOn 62 = .ok (.invokevirtual 83, 3) := by decide +kernel
theorem dX3_goesOn_65 : decode cX3_goesOn 65 = .ok (.istore 5, 2) := by decide +kernel
theorem dX3_goesOn_67 : decode cX3_goesOn 67 = .ok (.iload 5, 2) := by decide +kernel
theorem dX3_goesOn_69 : decode cX3_goesOn 69 = .ok (.ifCond .lt 26, 3) := by decide +kernel
theorem dX3_goesOn_72 : decode cX3_goesOn 72 = .ok (.aload_n 0, 1) := by decide +kernel
theorem dX3_goesOn_73 : decode cX3_goesOn 73 = .ok (.getfield 22, 3) := by decide +kernel
theorem dX3_goesOn_76 : decode cX3_goesOn 76 = .ok (.iload 4, 2) := by decide +kernel
theorem dX3_goesOn_78 : decode cX3_goesOn 78 = .ok (.iaload, 1) := by decide +kernel
theorem dX3_goesOn_79 : decode cX3_goesOn 79 = .ok (.iload 5, 2) := by decide +kernel
theorem dX3_goesOn_81 : decode cX3_goesOn 81 = .ok (.isub, 1) := by decide +kernel
theorem dX3_goesOn_82 : decode cX3_goesOn 82 = .ok (.aload_n 0, 1) := by decide +kernel
theorem dX3_goesOn_83 : decode cX3_goesOn 83 = .ok (.getfield 25, 3) := by decide +kernel
theorem dX3_goesOn_86 : decode cX3_goesOn 86 = .ok (.iload_n 3, 1) := by decide +kernel
theorem dX3_goesOn_87 : decode cX3_goesOn 87 = .ok (.iaload, 1) := by decide +kernel
theorem dX3_goesOn_88 : decode cX3_goesOn 88 = .ok (.if_icmp .le 7, 3) := by decide +kernel
theorem dX3_goesOn_91 : decode cX3_goesOn 91 = .ok (.iconst 1, 1) := by decide +kernel
theorem dX3_goesOn_92 : decode cX3_goesOn 92 = .ok (.goto 4, 3) := by decide +kernel
theorem dX3_goesOn_95 : decode cX3_goesOn 95 = .ok (.iconst 0, 1) := by decide +kernel
theorem dX3_goesOn_96 : decode cX3_goesOn 96 = .ok (.istore 6, 2) := by decide +kernel
theorem dX3_goesOn_98 : decode cX3_goesOn 98 = .ok (.aload_n 0, 1) := by decide +kernel
theorem dX3_goesOn_99 : decode cX3_goesOn 99 = .ok (.getfield 25, 3) := by decide +kernel
theorem dX3_goesOn_102 : decode cX3_goesOn 102 = .ok (.iload_n 3, 1) := by decide +kernel
theorem dX3_goesOn_103 : decode cX3_goesOn 103 = .ok (.iload 6, 2) := by decide +kernel
theorem dX3_goesOn_105 : decode cX3_goesOn 105 = .ok (.ifCond .eq 16, 3) := by decide +kernel
theorem dX3_goesOn_108 : decode cX3_goesOn 108 = .ok (.aload_n 0, 1) := by decide +kernel
theorem dX3_goesOn_109 : decode cX3_goesOn 109 = .ok (.getfield 22, 3) := by decide +kernel
theorem dX3_goesOn_112 : decode cX3_goesOn 112 = .ok (.iload 4, 2) := by decide +kernel
theorem dX3_goesOn_114 : decode cX3_goesOn 114 = .ok (.iaload, 1) := by decide +kernel
theorem dX3_goesOn_115 : decode cX3_goesOn 115 = .ok (.iload 5, 2) := by decide +kernel
theorem dX3_goesOn_117 : decode cX3_goesOn 117 = .ok (.isub, 1) := by decide +kernel
theorem dX3_goesOn_118 : decode cX3_goesOn 118 = .ok (.goto 9, 3) := by decide +kernel
theorem dX3_goesOn_121 : decode cX3_goesOn 121 = .ok (.aload_n 0, 1) := by decide +kernel
theorem dX3_goesOn_122 : decode cX3_goesOn 122 = .ok (.getfield 25, 3) := by decide +kernel
theorem dX3_goesOn_125 : decode cX3_goesOn 125 = .ok (.iload_n 3, 1) := by decide +kernel
theorem dX3_goesOn_126 : decode cX3_goesOn 126 = .ok (.iaload, 1) := by decide +kernel
theorem dX3_goesOn_127 : decode cX3_goesOn 127 = .ok (.iastore, 1) := by decide +kernel
theorem dX3_goesOn_128 : decode cX3_goesOn 128 = .ok (.iinc 4 1, 3) := by decide +kernel
theorem dX3_goesOn_131 : decode cX3_goesOn 131 = .ok (.goto (-108), 3) := by decide +kernel
theorem dX3_goesOn_134 : decode cX3_goesOn 134 = .ok (.iinc 3 1, 3) := by decide +kernel
theorem dX3_goesOn_137 : decode cX3_goesOn 137 = .ok (.goto (-135), 3) := by decide +kernel
theorem dX3_goesOn_140 : decode cX3_goesOn 140 = .ok (.iconst 0, 1) := by decide +kernel
theorem dX3_goesOn_141 : decode cX3_goesOn 141 = .ok (.istore_n 3, 1) := by decide +kernel
theorem dX3_goesOn_142 : decode cX3_goesOn 142 = .ok (.iload_n 3, 1) := by decide +kernel
theorem dX3_goesOn_143 : decode cX3_goesOn 143 = .ok (.bipush 36, 2) := by decide +kernel
theorem dX3_goesOn_145 : decode cX3_goesOn 145 = .ok (.if_icmp .ge 21, 3) := by decide +kernel
theorem dX3_goesOn_148 : decode cX3_goesOn 148 = .ok (.aload_n 0, 1) := by decide +kernel
theorem dX3_goesOn_149 : decode cX3_goesOn 149 = .ok (.getfield 22, 3) := by decide +kernel
theorem dX3_goesOn_152 : decode cX3_goesOn 152 = .ok (.iload_n 3, 1) := by decide +kernel
theorem dX3_goesOn_153 : decode cX3_goesOn 153 = .ok (.aload_n 0, 1) := by decide +kernel
theorem dX3_goesOn_154 : decode cX3_goesOn 154 = .ok (.getfield 25, 3) := by decide +kernel
theorem dX3_goesOn_157 : decode cX3_goesOn 157 = .ok (.iload_n 3, 1) := by decide +kernel
theorem dX3_goesOn_158 : decode cX3_goesOn 158 = .ok (.iaload, 1) := by decide +kernel
theorem dX3_goesOn_159 : decode cX3_goesOn 159 = .ok (.iastore, 1) := by decide +kernel
theorem dX3_goesOn_160 : decode cX3_goesOn 160 = .ok (.iinc 3 1, 3) := by decide +kernel
theorem dX3_goesOn_163 : decode cX3_goesOn 163 = .ok (.goto (-21), 3) := by decide +kernel
theorem dX3_goesOn_166 : decode cX3_goesOn 166 = .ok (.return_, 1) := by decide +kernel
theorem dX3_reach_0 : decode cX3_reach 0 = .ok (.iload_n 1, 1) := by decide +kernel
theorem dX3_reach_1 : decode cX3_reach 1 = .ok (.invokestatic 58, 3) := by decide +kernel
theorem dX3_reach_4 : decode cX3_reach 4 = .ok (.ifCond .eq 13, 3) := by decide +kernel
theorem dX3_reach_7 : decode cX3_reach 7 = .ok (.iload_n 2, 1) := by decide +kernel
theorem dX3_reach_8 : decode cX3_reach 8 = .ok (.iconst 0, 1) := by decide +kernel
theorem dX3_reach_9 : decode cX3_reach 9 = .ok (.bipush 12, 2) := by decide +kernel
theorem dX3_reach_11 : decode cX3_reach 11 = .ok (.invokestatic 31, 3) := by decide +kernel
theorem dX3_reach_14 : decode cX3_reach 14 = .ok (.ifCond .ne 5, 3) := by decide +kernel
theorem dX3_reach_17 : decode cX3_reach 17 = .ok (.iconst (-1), 1) := by decide +kernel
theorem dX3_reach_18 : decode cX3_reach 18 = .ok (.ireturn, 1) := by decide +kernel
theorem dX3_reach_19 : decode cX3_reach 19 = .ok (.aload_n 0, 1) := by decide +kernel
theorem dX3_reach_20 : decode cX3_reach 20 = .ok (.getfield 7, 3) := by decide +kernel
theorem dX3_reach_23 : decode cX3_reach 23 = .ok (.iconst 0, 1) := by decide +kernel
theorem dX3_reach_24 : decode cX3_reach 24 = .ok (.iload_n 1, 1) := by decide +kernel
theorem dX3_reach_25 : decode cX3_reach 25 = .ok (.iadd, 1) := by decide +kernel
theorem dX3_reach_26 : decode cX3_reach 26 = .ok (.iaload, 1) := by decide +kernel
theorem dX3_reach_27 : decode cX3_reach 27 = .ok (.istore_n 3, 1) := by decide +kernel
theorem dX3_reach_28 : decode cX3_reach 28 = .ok (.aload_n 0, 1) := by decide +kernel
theorem dX3_reach_29 : decode cX3_reach 29 = .ok (.getfield 7, 3) := by decide +kernel
theorem dX3_reach_32 : decode cX3_reach 32 = .ok (.bipush 36, 2) := by decide +kernel
theorem dX3_reach_34 : decode cX3_reach 34 = .ok (.iload_n 1, 1) := by decide +kernel
theorem dX3_reach_35 : decode cX3_reach 35 = .ok (.iadd, 1) := by decide +kernel
theorem dX3_reach_36 : decode cX3_reach 36 = .ok (.iaload, 1) := by decide +kernel
theorem dX3_reach_37 : decode cX3_reach 37 = .ok (.istore 4, 2) := by decide +kernel
theorem dX3_reach_39 : decode cX3_reach 39 = .ok (.iload_n 3, 1) := by decide +kernel
theorem dX3_reach_40 : decode cX3_reach 40 = .ok (.iconst (-1), 1) := by decide +kernel
theorem dX3_reach_41 : decode cX3_reach 41 = .ok (.if_icmp .ne 6, 3) := by decide +kernel
theorem dX3_reach_44 : decode cX3_reach 44 = .ok (.bipush (-4), 2) := by decide +kernel
theorem dX3_reach_46 : decode cX3_reach 46 = .ok (.ireturn, 1) := by decide +kernel
theorem dX3_reach_47 : decode cX3_reach 47 = .ok (.aload_n 0, 1) := by decide +kernel
theorem dX3_reach_48 : decode cX3_reach 48 = .ok (.invokevirtual 125, 3) := by decide +kernel
theorem dX3_reach_51 : decode cX3_reach 51 = .ok (.iconst 0, 1) := by decide +kernel
theorem dX3_reach_52 : decode cX3_reach 52 = .ok (.istore 5, 2) := by decide +kernel
theorem dX3_reach_54 : decode cX3_reach 54 = .ok (.iload 5, 2) := by decide +kernel
theorem dX3_reach_56 : decode cX3_reach 56 = .ok (.bipush 36, 2) := by decide +kernel
theorem dX3_reach_58 : decode cX3_reach 58 = .ok (.if_icmp .ge 35, 3) := by decide +kernel
theorem dX3_reach_61 : decode cX3_reach 61 = .ok (.aload_n 0, 1) := by decide +kernel
theorem dX3_reach_62 : decode cX3_reach 62 = .ok (.getfield 22, 3) := by decide +kernel
theorem dX3_reach_65 : decode cX3_reach 65 = .ok (.iload 5, 2) := by decide +kernel
theorem dX3_reach_67 : decode cX3_reach 67 = .ok (.iload 5, 2) := by decide +kernel
theorem dX3_reach_69 : decode cX3_reach 69 = .ok (.iload_n 1, 1) := by decide +kernel
theorem dX3_reach_70 : decode cX3_reach 70 = .ok (.if_icmp .ne 15, 3) := by decide +kernel
theorem dX3_reach_73 : decode cX3_reach 73 = .ok (.aload_n 0, 1) := by decide +kernel
theorem dX3_reach_74 : decode cX3_reach 74 = .ok (.getfield 7, 3) := by decide +kernel
theorem dX3_reach_77 : decode cX3_reach 77 = .ok (.bipush 72, 2) := by decide +kernel
theorem dX3_reach_79 : decode cX3_reach 79 = .ok (.iload_n 1, 1) := by decide +kernel
theorem dX3_reach_80 : decode cX3_reach 80 = .ok (.iadd, 1) := by decide +kernel
theorem dX3_reach_81 : decode cX3_reach 81 = .ok (.iaload, 1) := by decide +kernel
theorem dX3_reach_82 : decode cX3_reach 82 = .ok (.goto 4, 3) := by decide +kernel
theorem dX3_reach_85 : decode cX3_reach 85 = .ok (.iconst (-1), 1) := by decide +kernel
theorem dX3_reach_86 : decode cX3_reach 86 = .ok (.iastore, 1) := by decide +kernel
theorem dX3_reach_87 : decode cX3_reach 87 = .ok (.iinc 5 1, 3) := by decide +kernel
theorem dX3_reach_90 : decode cX3_reach 90 = .ok (.goto (-36), 3) := by decide +kernel
theorem dX3_reach_93 : decode cX3_reach 93 = .ok (.aload_n 0, 1) := by decide +kernel
theorem dX3_reach_94 : decode cX3_reach 94 = .ok (.iload_n 1, 1) := by decide +kernel
theorem dX3_reach_95 : decode cX3_reach 95 = .ok (.iconst (-1), 1) := by decide +kernel
theorem dX3_reach_96 : decode cX3_reach 96 = .ok (.iconst 0, 1) := by decide +kernel
theorem dX3_reach_97 : decode cX3_reach 97 = .ok (.iconst 0, 1) := by decide +kernel
theorem dX3_reach_98 : decode cX3_reach 98 = .ok (.invokevirtual 43, 3) := by decide +kernel
theorem dX3_reach_101 : decode cX3_reach 101 = .ok (.iconst 0, 1) := by decide +kernel
theorem dX3_reach_102 : decode cX3_reach 102 = .ok (.istore 5, 2) := by decide +kernel
theorem dX3_reach_104 : decode cX3_reach 104 = .ok (.iload 5, 2) := by decide +kernel
theorem dX3_reach_106 : decode cX3_reach 106 = .ok (.iload_n 2, 1) := by decide +kernel
theorem dX3_reach_107 : decode cX3_reach 107 = .ok (.if_icmp .ge 16, 3) := by decide +kernel
theorem dX3_reach_110 : decode cX3_reach 110 = .ok (.aload_n 0, 1) := by decide +kernel
theorem dX3_reach_111 : decode cX3_reach 111 = .ok (.iload_n 3, 1) := by decide +kernel
theorem dX3_reach_112 : decode cX3_reach 112 = .ok (.iload 4, 2) := by decide +kernel
theorem dX3_reach_114 : decode cX3_reach 114 = .ok (.invokevirtual 131, 3) := by decide +kernel
theorem dX3_reach_117 : decode cX3_reach 117 = .ok (.iinc 5 1, 3) := by decide +kernel
theorem dX3_reach_120 : decode cX3_reach 120 = .ok (.goto (-16), 3) := by decide +kernel
theorem dX3_reach_123 : decode cX3_reach 123 = .ok (.aload_n 0, 1) := by decide +kernel
theorem dX3_reach_124 : decode cX3_reach 124 = .ok (.invokevirtual 128, 3) := by decide +kernel
theorem dX3_reach_127 : decode cX3_reach 127 = .ok (.iconst 0, 1) := by decide +kernel
theorem dX3_reach_128 : decode cX3_reach 128 = .ok (.istore 5, 2) := by decide +kernel
theorem dX3_reach_130 : decode cX3_reach 130 = .ok (.iconst 0, 1) := by decide +kernel
theorem dX3_reach_131 : decode cX3_reach 131 = .ok (.istore 6, 2) := by decide +kernel
theorem dX3_reach_133 : decode cX3_reach 133 = .ok (.iload 6, 2) := by decide +kernel
theorem dX3_reach_135 : decode cX3_reach 135 = .ok (.bipush 36, 2) := by decide +kernel
theorem dX3_reach_137 : decode cX3_reach 137 = .ok (.if_icmp .ge 29, 3) := by decide +kernel
theorem dX3_reach_140 : decode cX3_reach 140 = .ok (.iload 5, 2) := by decide +kernel
theorem dX3_reach_142 : decode cX3_reach 142 = .ok (.aload_n 0, 1) := by decide +kernel
theorem dX3_reach_143 : decode cX3_reach 143 = .ok (.getfield 22, 3) := by decide +kernel
theorem dX3_reach_146 : decode cX3_reach 146 = .ok (.iload 6, 2) := by decide +kernel
theorem dX3_reach_148 : decode cX3_reach 148 = .ok (.iaload, 1) := by decide +kernel
theorem dX3_reach_149 : decode cX3_reach 149 = .ok (.ifCond .lt 7, 3) := by decide +kernel
theorem dX3_reach_152 : decode cX3_reach 152 = .ok (.iconst 1, 1) := by decide +kernel
theorem dX3_reach_153 : decode cX3_reach 153 = .ok (.goto 4, 3) := by decide +kernel
theorem dX3_reach_156 : decode cX3_reach 156 = .ok (.iconst 0, 1) := by decide +kernel
theorem dX3_reach_157 : decode cX3_reach 157 = .ok (.iadd, 1) := by decide +kernel
theorem dX3_reach_158 : decode cX3_reach 158 = .ok (.istore 5, 2) := by decide +kernel
theorem dX3_reach_160 : decode cX3_reach 160 = .ok (.iinc 6 1, 3) := by decide +kernel
theorem dX3_reach_163 : decode cX3_reach 163 = .ok (.goto (-30), 3) := by decide +kernel
theorem dX3_reach_166 : decode cX3_reach 166 = .ok (.iload 5, 2) := by decide +kernel
theorem dX3_reach_168 : decode cX3_reach 168 = .ok (.ireturn, 1) := by decide +kernel
theorem dX3_repliesTo_0 : decode cX3_repliesTo 0 = .ok (.aload_n 0, 1) := by decide +kernel
theorem dX3_repliesTo_1 : decode cX3_repliesTo 1 = .ok (.iload_n 1, 1) := by decide +kernel
theorem dX3_repliesTo_2 : decode cX3_repliesTo 2 = .ok (.bipush 36, 2) := by decide +kernel
theorem dX3_repliesTo_4 : decode cX3_repliesTo 4 = .ok (.idiv, 1) := by decide +kernel
theorem dX3_repliesTo_5 : decode cX3_repliesTo 5 = .ok (.iload_n 1, 1) := by decide +kernel
theorem dX3_repliesTo_6 : decode cX3_repliesTo 6 = .ok (.bipush 36, 2) := by decide +kernel
theorem dX3_repliesTo_8 : decode cX3_repliesTo 8 = .ok (.irem, 1) := by decide +kernel
theorem dX3_repliesTo_9 : decode cX3_repliesTo 9 = .ok (.invokevirtual 110, 3) := by decide +kernel
theorem dX3_repliesTo_12 : decode cX3_repliesTo 12 = .ok (.aload_n 0, 1) := by decide +kernel
theorem dX3_repliesTo_13 : decode cX3_repliesTo 13 = .ok (.getfield 7, 3) := by decide +kernel
theorem dX3_repliesTo_16 : decode cX3_repliesTo 16 = .ok (.sipush 145, 3) := by decide +kernel
theorem dX3_repliesTo_19 : decode cX3_repliesTo 19 = .ok (.iaload, 1) := by decide +kernel
theorem dX3_repliesTo_20 : decode cX3_repliesTo 20 = .ok (.ifCond .le 7, 3) := by decide +kernel
theorem dX3_repliesTo_23 : decode cX3_repliesTo 23 = .ok (.iconst 0, 1) := by decide +kernel
theorem dX3_repliesTo_24 : decode cX3_repliesTo 24 = .ok (.goto 15, 3) := by decide +kernel
theorem dX3_repliesTo_27 : decode cX3_repliesTo 27 = .ok (.aload_n 0, 1) := by decide +kernel
theorem dX3_repliesTo_28 : decode cX3_repliesTo 28 = .ok (.aload_n 0, 1) := by decide +kernel
theorem dX3_repliesTo_29 : decode cX3_repliesTo 29 = .ok (.getfield 7, 3) := by decide +kernel
theorem dX3_repliesTo_32 : decode cX3_repliesTo 32 = .ok (.sipush 144, 3) := by decide +kernel
theorem dX3_repliesTo_35 : decode cX3_repliesTo 35 = .ok (.iaload, 1) := by decide +kernel
theorem dX3_repliesTo_36 : decode cX3_repliesTo 36 = .ok (.invokevirtual 104, 3) := by decide +kernel
theorem dX3_repliesTo_39 : decode cX3_repliesTo 39 = .ok (.istore_n 2, 1) := by decide +kernel
theorem dX3_repliesTo_40 : decode cX3_repliesTo 40 = .ok (.iload_n 2, 1) := by decide +kernel
theorem dX3_repliesTo_41 : decode cX3_repliesTo 41 = .ok (.ifCond .ne 7, 3) := by decide +kernel
theorem dX3_repliesTo_44 : decode cX3_repliesTo 44 = .ok (.iconst 1, 1) := by decide +kernel
theorem dX3_repliesTo_45 : decode cX3_repliesTo 45 = .ok (.goto 4, 3) := by decide +kernel
theorem dX3_repliesTo_48 : decode cX3_repliesTo 48 = .ok (.iload_n 2, 1) := by decide +kernel
theorem dX3_repliesTo_49 : decode cX3_repliesTo 49 = .ok (.ireturn, 1) := by decide +kernel
theorem dX3_replies_0 : decode cX3_replies 0 = .ok (.iconst 0, 1) := by decide +kernel
theorem dX3_replies_1 : decode cX3_replies 1 = .ok (.istore_n 1, 1) := by decide +kernel
theorem dX3_replies_2 : decode cX3_replies 2 = .ok (.aload_n 0, 1) := by decide +kernel
theorem dX3_replies_3 : decode cX3_replies 3 = .ok (.getfield 7, 3) := by decide +kernel
theorem dX3_replies_6 : decode cX3_replies 6 = .ok (.sipush 145, 3) := by decide +kernel
theorem dX3_replies_9 : decode cX3_replies 9 = .ok (.iaload, 1) := by decide +kernel
theorem dX3_replies_10 : decode cX3_replies 10 = .ok (.ifCond .le 7, 3) := by decide +kernel
theorem dX3_replies_13 : decode cX3_replies 13 = .ok (.iconst 0, 1) := by decide +kernel
theorem dX3_replies_14 : decode cX3_replies 14 = .ok (.goto 15, 3) := by decide +kernel
theorem dX3_replies_17 : decode cX3_replies 17 = .ok (.aload_n 0, 1) := by decide +kernel
theorem dX3_replies_18 : decode cX3_replies 18 = .ok (.aload_n 0, 1) := by decide +kernel
theorem dX3_replies_19 : decode cX3_replies 19 = .ok (.getfield 7, 3) := by decide +kernel
theorem dX3_replies_22 : decode cX3_replies 22 = .ok (.sipush 144, 3) := by decide +kernel
theorem dX3_replies_25 : decode cX3_replies 25 = .ok (.iaload, 1) := by decide +kernel
theorem dX3_replies_26 : decode cX3_replies 26 = .ok (.invokevirtual 104, 3) := by decide +kernel
theorem dX3_replies_29 : decode cX3_replies 29 = .ok (.istore_n 2, 1) := by decide +kernel
theorem dX3_replies_30 : decode cX3_replies 30 = .ok (.aload_n 0, 1) := by decide +kernel
theorem dX3_replies_31 : decode cX3_replies 31 = .ok (.invokevirtual 125, 3) := by decide +kernel
theorem dX3_replies_34 : decode cX3_replies 34 = .ok (.iconst 0, 1) := by decide +kernel
theorem dX3_replies_35 : decode cX3_replies 35 = .ok (.istore_n 3, 1) := by decide +kernel
theorem dX3_replies_36 : decode cX3_replies 36 = .ok (.iload_n 3, 1) := by decide +kernel
theorem dX3_replies_37 : decode cX3_replies 37 = .ok (.iload_n 2, 1) := by decide +kernel
theorem dX3_replies_38 : decode cX3_replies 38 = .ok (.if_icmp .ge 33, 3) := by decide +kernel
theorem dX3_replies_41 : decode cX3_replies 41 = .ok (.iload_n 1, 1) := by decide +kernel
theorem dX3_replies_42 : decode cX3_replies 42 = .ok (.aload_n 0, 1) := by decide +kernel
theorem dX3_replies_43 : decode cX3_replies 43 = .ok (.aload_n 0, 1) := by decide +kernel
theorem dX3_replies_44 : decode cX3_replies 44 = .ok (.aload_n 0, 1) := by decide +kernel
theorem dX3_replies_45 : decode cX3_replies 45 = .ok (.getfield 7, 3) := by decide +kernel
theorem dX3_replies_48 : decode cX3_replies 48 = .ok (.sipush 144, 3) := by decide +kernel
theorem dX3_replies_51 : decode cX3_replies 51 = .ok (.iaload, 1) := by decide +kernel
theorem dX3_replies_52 : decode cX3_replies 52 = .ok (.iload_n 3, 1) := by decide +kernel
theorem dX3_replies_53 : decode cX3_replies 53 = .ok (.invokevirtual 122, 3) := by decide +kernel
theorem dX3_replies_56 : decode cX3_replies 56 = .ok (.invokevirtual 134, 3) := by decide +kernel
theorem dX3_replies_59 : decode cX3_replies 59 = .ok (.iadd, 1) := by decide +kernel
theorem dX3_replies_60 : decode cX3_replies 60 = .ok (.istore_n 1, 1) := by decide +kernel
theorem dX3_replies_61 : decode cX3_replies 61 = .ok (.aload_n 0, 1) := by decide +kernel
theorem dX3_replies_62 : decode cX3_replies 62 = .ok (.invokevirtual 128, 3) := by decide +kernel
theorem dX3_replies_65 : decode cX3_replies 65 = .ok (.iinc 3 1, 3) := by decide +kernel
theorem dX3_replies_68 : decode cX3_replies 68 = .ok (.goto (-32), 3) := by decide +kernel
theorem dX3_replies_71 : decode cX3_replies 71 = .ok (.iload_n 1, 1) := by decide +kernel
theorem dX3_replies_72 : decode cX3_replies 72 = .ok (.ireturn, 1) := by decide +kernel
theorem dX3_goodFor_0 : decode cX3_goodFor 0 = .ok (.aload_n 0, 1) := by decide +kernel
theorem dX3_goodFor_1 : decode cX3_goodFor 1 = .ok (.iload_n 1, 1) := by decide +kernel
theorem dX3_goodFor_2 : decode cX3_goodFor 2 = .ok (.invokevirtual 39, 3) := by decide +kernel
theorem dX3_goodFor_5 : decode cX3_goodFor 5 = .ok (.aload_n 0, 1) := by decide +kernel
theorem dX3_goodFor_6 : decode cX3_goodFor 6 = .ok (.iconst 1, 1) := by decide +kernel
theorem dX3_goodFor_7 : decode cX3_goodFor 7 = .ok (.iload_n 1, 1) := by decide +kernel
theorem dX3_goodFor_8 : decode cX3_goodFor 8 = .ok (.isub, 1) := by decide +kernel
theorem dX3_goodFor_9 : decode cX3_goodFor 9 = .ok (.invokevirtual 39, 3) := by decide +kernel
theorem dX3_goodFor_12 : decode cX3_goodFor 12 = .ok (.isub, 1) := by decide +kernel
theorem dX3_goodFor_13 : decode cX3_goodFor 13 = .ok (.aload_n 0, 1) := by decide +kernel
theorem dX3_goodFor_14 : decode cX3_goodFor 14 = .ok (.getfield 7, 3) := by decide +kernel
theorem dX3_goodFor_17 : decode cX3_goodFor 17 = .ok (.sipush 145, 3) := by decide +kernel
theorem dX3_goodFor_20 : decode cX3_goodFor 20 = .ok (.iaload, 1) := by decide +kernel
theorem dX3_goodFor_21 : decode cX3_goodFor 21 = .ok (.ifCond .le 9, 3) := by decide +kernel
theorem dX3_goodFor_24 : decode cX3_goodFor 24 = .ok (.sipush 10000, 3) := by decide +kernel
theorem dX3_goodFor_27 : decode cX3_goodFor 27 = .ok (.goto 4, 3) := by decide +kernel
theorem dX3_goodFor_30 : decode cX3_goodFor 30 = .ok (.iconst 0, 1) := by decide +kernel
theorem dX3_goodFor_31 : decode cX3_goodFor 31 = .ok (.iadd, 1) := by decide +kernel
theorem dX3_goodFor_32 : decode cX3_goodFor 32 = .ok (.ireturn, 1) := by decide +kernel
theorem dX3_best_0 : decode cX3_best 0 = .ok (.aload_n 0, 1) := by decide +kernel
theorem dX3_best_1 : decode cX3_best 1 = .ok (.getfield 7, 3) := by decide +kernel
theorem dX3_best_4 : decode cX3_best 4 = .ok (.sipush 145, 3) := by decide +kernel
theorem dX3_best_7 : decode cX3_best 7 = .ok (.iaload, 1) := by decide +kernel
theorem dX3_best_8 : decode cX3_best 8 = .ok (.ifCond .le 7, 3) := by decide +kernel
theorem dX3_best_11 : decode cX3_best 11 = .ok (.iconst 0, 1) := by decide +kernel
theorem dX3_best_12 : decode cX3_best 12 = .ok (.goto 15, 3) := by decide +kernel
theorem dX3_best_15 : decode cX3_best 15 = .ok (.aload_n 0, 1) := by decide +kernel
theorem dX3_best_16 : decode cX3_best 16 = .ok (.aload_n 0, 1) := by decide +kernel
theorem dX3_best_17 : decode cX3_best 17 = .ok (.getfield 7, 3) := by decide +kernel
theorem dX3_best_20 : decode cX3_best 20 = .ok (.sipush 144, 3) := by decide +kernel
theorem dX3_best_23 : decode cX3_best 23 = .ok (.iaload, 1) := by decide +kernel
theorem dX3_best_24 : decode cX3_best 24 = .ok (.invokevirtual 104, 3) := by decide +kernel
theorem dX3_best_27 : decode cX3_best 27 = .ok (.istore_n 1, 1) := by decide +kernel
theorem dX3_best_28 : decode cX3_best 28 = .ok (.bipush (-4), 2) := by decide +kernel
theorem dX3_best_30 : decode cX3_best 30 = .ok (.istore_n 2, 1) := by decide +kernel
theorem dX3_best_31 : decode cX3_best 31 = .ok (.iconst 0, 1) := by decide +kernel
theorem dX3_best_32 : decode cX3_best 32 = .ok (.istore_n 3, 1) := by decide +kernel
theorem dX3_best_33 : decode cX3_best 33 = .ok (.aload_n 0, 1) := by decide +kernel
theorem dX3_best_34 : decode cX3_best 34 = .ok (.invokevirtual 125, 3) := by decide +kernel
theorem dX3_best_37 : decode cX3_best 37 = .ok (.iconst 0, 1) := by decide +kernel
theorem dX3_best_38 : decode cX3_best 38 = .ok (.istore 4, 2) := by decide +kernel
theorem dX3_best_40 : decode cX3_best 40 = .ok (.iload 4, 2) := by decide +kernel
theorem dX3_best_42 : decode cX3_best 42 = .ok (.iload_n 1, 1) := by decide +kernel
theorem dX3_best_43 : decode cX3_best 43 = .ok (.if_icmp .ge 96, 3) := by decide +kernel
theorem dX3_best_46 : decode cX3_best 46 = .ok (.aload_n 0, 1) := by decide +kernel
theorem dX3_best_47 : decode cX3_best 47 = .ok (.getfield 7, 3) := by decide +kernel
theorem dX3_best_50 : decode cX3_best 50 = .ok (.sipush 144, 3) := by decide +kernel
theorem dX3_best_53 : decode cX3_best 53 = .ok (.iaload, 1) := by decide +kernel
theorem dX3_best_54 : decode cX3_best 54 = .ok (.istore 5, 2) := by decide +kernel
theorem dX3_best_56 : decode cX3_best 56 = .ok (.aload_n 0, 1) := by decide +kernel
theorem dX3_best_57 : decode cX3_best 57 = .ok (.iload 5, 2) := by decide +kernel
theorem dX3_best_59 : decode cX3_best 59 = .ok (.iload 4, 2) := by decide +kernel
theorem dX3_best_61 : decode cX3_best 61 = .ok (.invokevirtual 122, 3) := by decide +kernel
theorem dX3_best_64 : decode cX3_best 64 = .ok (.istore 6, 2) := by decide +kernel
theorem dX3_best_66 : decode cX3_best 66 = .ok (.aload_n 0, 1) := by decide +kernel
theorem dX3_best_67 : decode cX3_best 67 = .ok (.iload 6, 2) := by decide +kernel
theorem dX3_best_69 : decode cX3_best 69 = .ok (.bipush 36, 2) := by decide +kernel
theorem dX3_best_71 : decode cX3_best 71 = .ok (.idiv, 1) := by decide +kernel
theorem dX3_best_72 : decode cX3_best 72 = .ok (.iload 6, 2) := by decide +kernel
theorem dX3_best_74 : decode cX3_best 74 = .ok (.bipush 36, 2) := by decide +kernel
theorem dX3_best_76 : decode cX3_best 76 = .ok (.irem, 1) := by decide +kernel
theorem dX3_best_77 : decode cX3_best 77 = .ok (.invokevirtual 97, 3) := by decide +kernel
theorem dX3_best_80 : decode cX3_best 80 = .ok (.aload_n 0, 1) := by decide +kernel
theorem dX3_best_81 : decode cX3_best 81 = .ok (.iload 5, 2) := by decide +kernel
theorem dX3_best_83 : decode cX3_best 83 = .ok (.invokevirtual 137, 3) := by decide +kernel
theorem dX3_best_86 : decode cX3_best 86 = .ok (.istore 7, 2) := by decide +kernel
theorem dX3_best_88 : decode cX3_best 88 = .ok (.aload_n 0, 1) := by decide +kernel
theorem dX3_best_89 : decode cX3_best 89 = .ok (.invokevirtual 128, 3) := by decide +kernel
theorem dX3_best_92 : decode cX3_best 92 = .ok (.iload_n 2, 1) := by decide +kernel
theorem dX3_best_93 : decode cX3_best 93 = .ok (.ifCond .lt 9, 3) := by decide +kernel
theorem dX3_best_96 : decode cX3_best 96 = .ok (.iload 7, 2) := by decide +kernel
theorem dX3_best_98 : decode cX3_best 98 = .ok (.iload_n 3, 1) := by decide +kernel
theorem dX3_best_99 : decode cX3_best 99 = .ok (.if_icmp .le 7, 3) := by decide +kernel
theorem dX3_best_102 : decode cX3_best 102 = .ok (.iconst 1, 1) := by decide +kernel
theorem dX3_best_103 : decode cX3_best 103 = .ok (.goto 4, 3) := by decide +kernel
theorem dX3_best_106 : decode cX3_best 106 = .ok (.iconst 0, 1) := by decide +kernel
theorem dX3_best_107 : decode cX3_best 107 = .ok (.istore 8, 2) := by decide +kernel
theorem dX3_best_109 : decode cX3_best 109 = .ok (.iload 8, 2) := by decide +kernel
theorem dX3_best_111 : decode cX3_best 111 = .ok (.ifCond .eq 8, 3) := by decide +kernel
theorem dX3_best_114 : decode cX3_best 114 = .ok (.iload 6, 2) := by decide +kernel
theorem dX3_best_116 : decode cX3_best 116 = .ok (.goto 4, 3) := by decide +kernel
theorem dX3_best_119 : decode cX3_best 119 = .ok (.iload_n 2, 1) := by decide +kernel
theorem dX3_best_120 : decode cX3_best 120 = .ok (.istore_n 2, 1) := by decide +kernel
theorem dX3_best_121 : decode cX3_best 121 = .ok (.iload 8, 2) := by decide +kernel
theorem dX3_best_123 : decode cX3_best 123 = .ok (.ifCond .eq 8, 3) := by decide +kernel
theorem dX3_best_126 : decode cX3_best 126 = .ok (.iload 7, 2) := by decide +kernel
theorem dX3_best_128 : decode cX3_best 128 = .ok (.goto 4, 3) := by decide +kernel
theorem dX3_best_131 : decode cX3_best 131 = .ok (.iload_n 3, 1) := by decide +kernel
theorem dX3_best_132 : decode cX3_best 132 = .ok (.istore_n 3, 1) := by decide +kernel
theorem dX3_best_133 : decode cX3_best 133 = .ok (.iinc 4 1, 3) := by decide +kernel
theorem dX3_best_136 : decode cX3_best 136 = .ok (.goto (-96), 3) := by decide +kernel
theorem dX3_best_139 : decode cX3_best 139 = .ok (.iload_n 2, 1) := by decide +kernel
theorem dX3_best_140 : decode cX3_best 140 = .ok (.ireturn, 1) := by decide +kernel
theorem dX3_type_0 : decode cX3_type 0 = .ok (.iload_n 1, 1) := by decide +kernel
theorem dX3_type_1 : decode cX3_type 1 = .ok (.bipush 32, 2) := by decide +kernel
theorem dX3_type_3 : decode cX3_type 3 = .ok (.bipush 126, 2) := by decide +kernel
theorem dX3_type_5 : decode cX3_type 5 = .ok (.invokestatic 31, 3) := by decide +kernel
theorem dX3_type_8 : decode cX3_type 8 = .ok (.ifCond .ne 5, 3) := by decide +kernel
theorem dX3_type_11 : decode cX3_type 11 = .ok (.iconst (-1), 1) := by decide +kernel
theorem dX3_type_12 : decode cX3_type 12 = .ok (.ireturn, 1) := by decide +kernel
theorem dX3_type_13 : decode cX3_type 13 = .ok (.aload_n 0, 1) := by decide +kernel
theorem dX3_type_14 : decode cX3_type 14 = .ok (.getfield 71, 3) := by decide +kernel
theorem dX3_type_17 : decode cX3_type 17 = .ok (.bipush 80, 2) := by decide +kernel
theorem dX3_type_19 : decode cX3_type 19 = .ok (.if_icmp .ne 6, 3) := by decide +kernel
theorem dX3_type_22 : decode cX3_type 22 = .ok (.bipush (-3), 2) := by decide +kernel
theorem dX3_type_24 : decode cX3_type 24 = .ok (.ireturn, 1) := by decide +kernel
theorem dX3_type_25 : decode cX3_type 25 = .ok (.aload_n 0, 1) := by decide +kernel
theorem dX3_type_26 : decode cX3_type 26 = .ok (.getfield 19, 3) := by decide +kernel
theorem dX3_type_29 : decode cX3_type 29 = .ok (.aload_n 0, 1) := by decide +kernel
theorem dX3_type_30 : decode cX3_type 30 = .ok (.getfield 71, 3) := by decide +kernel
theorem dX3_type_33 : decode cX3_type 33 = .ok (.iload_n 1, 1) := by decide +kernel
theorem dX3_type_34 : decode cX3_type 34 = .ok (.iastore, 1) := by decide +kernel
theorem dX3_type_35 : decode cX3_type 35 = .ok (.aload_n 0, 1) := by decide +kernel
theorem dX3_type_36 : decode cX3_type 36 = .ok (.dup, 1) := by decide +kernel
theorem dX3_type_37 : decode cX3_type 37 = .ok (.getfield 71, 3) := by decide +kernel
theorem dX3_type_40 : decode cX3_type 40 = .ok (.iconst 1, 1) := by decide +kernel
theorem dX3_type_41 : decode cX3_type 41 = .ok (.iadd, 1) := by decide +kernel
theorem dX3_type_42 : decode cX3_type 42 = .ok (.putfield 71, 3) := by decide +kernel
theorem dX3_type_45 : decode cX3_type 45 = .ok (.aload_n 0, 1) := by decide +kernel
theorem dX3_type_46 : decode cX3_type 46 = .ok (.getfield 71, 3) := by decide +kernel
theorem dX3_type_49 : decode cX3_type 49 = .ok (.ireturn, 1) := by decide +kernel
theorem dX3_clearText_0 : decode cX3_clearText 0 = .ok (.aload_n 0, 1) := by decide +kernel
theorem dX3_clearText_1 : decode cX3_clearText 1 = .ok (.getfield 71, 3) := by decide +kernel
theorem dX3_clearText_4 : decode cX3_clearText 4 = .ok (.istore_n 1, 1) := by decide +kernel
theorem dX3_clearText_5 : decode cX3_clearText 5 = .ok (.aload_n 0, 1) := by decide +kernel
theorem dX3_clearText_6 : decode cX3_clearText 6 = .ok (.iconst 0, 1) := by decide +kernel
theorem dX3_clearText_7 : decode cX3_clearText 7 = .ok (.putfield 71, 3) := by decide +kernel
theorem dX3_clearText_10 : decode cX3_clearText 10 = .ok (.iload_n 1, 1) := by decide +kernel
theorem dX3_clearText_11 : decode cX3_clearText 11 = .ok (.ireturn, 1) := by decide +kernel
theorem dX3_takes_0 : decode cX3_takes 0 = .ok (.aload_n 0, 1) := by decide +kernel
theorem dX3_takes_1 : decode cX3_takes 1 = .ok (.getfield 140, 3) := by decide +kernel
theorem dX3_takes_4 : decode cX3_takes 4 = .ok (.aload_n 0, 1) := by decide +kernel
theorem dX3_takes_5 : decode cX3_takes 5 = .ok (.getfield 71, 3) := by decide +kernel
theorem dX3_takes_8 : decode cX3_takes 8 = .ok (.if_icmp .ge 20, 3) := by decide +kernel
theorem dX3_takes_11 : decode cX3_takes 11 = .ok (.aload_n 0, 1) := by decide +kernel
theorem dX3_takes_12 : decode cX3_takes 12 = .ok (.getfield 19, 3) := by decide +kernel
theorem dX3_takes_15 : decode cX3_takes 15 = .ok (.aload_n 0, 1) := by decide +kernel
theorem dX3_takes_16 : decode cX3_takes 16 = .ok (.getfield 140, 3) := by decide +kernel
theorem dX3_takes_19 : decode cX3_takes 19 = .ok (.iaload, 1) := by decide +kernel
theorem dX3_takes_20 : decode cX3_takes 20 = .ok (.iload_n 1, 1) := by decide +kernel
theorem dX3_takes_21 : decode cX3_takes 21 = .ok (.if_icmp .ne 7, 3) := by decide +kernel
theorem dX3_takes_24 : decode cX3_takes 24 = .ok (.iconst 1, 1) := by decide +kernel
theorem dX3_takes_25 : decode cX3_takes 25 = .ok (.goto 4, 3) := by decide +kernel
theorem dX3_takes_28 : decode cX3_takes 28 = .ok (.iconst 0, 1) := by decide +kernel
theorem dX3_takes_29 : decode cX3_takes 29 = .ok (.istore_n 2, 1) := by decide +kernel
theorem dX3_takes_30 : decode cX3_takes 30 = .ok (.aload_n 0, 1) := by decide +kernel
theorem dX3_takes_31 : decode cX3_takes 31 = .ok (.dup, 1) := by decide +kernel
theorem dX3_takes_32 : decode cX3_takes 32 = .ok (.getfield 140, 3) := by decide +kernel
theorem dX3_takes_35 : decode cX3_takes 35 = .ok (.iload_n 2, 1) := by decide +kernel
theorem dX3_takes_36 : decode cX3_takes 36 = .ok (.ifCond .eq 7, 3) := by decide +kernel
theorem dX3_takes_39 : decode cX3_takes 39 = .ok (.iconst 1, 1) := by decide +kernel
theorem dX3_takes_40 : decode cX3_takes 40 = .ok (.goto 4, 3) := by decide +kernel
theorem dX3_takes_43 : decode cX3_takes 43 = .ok (.iconst 0, 1) := by decide +kernel
theorem dX3_takes_44 : decode cX3_takes 44 = .ok (.iadd, 1) := by decide +kernel
theorem dX3_takes_45 : decode cX3_takes 45 = .ok (.putfield 140, 3) := by decide +kernel
theorem dX3_takes_48 : decode cX3_takes 48 = .ok (.iload_n 2, 1) := by decide +kernel
theorem dX3_takes_49 : decode cX3_takes 49 = .ok (.ireturn, 1) := by decide +kernel
theorem dX3_takesCell_0 : decode cX3_takesCell 0 = .ok (.aload_n 0, 1) := by decide +kernel
theorem dX3_takesCell_1 : decode cX3_takesCell 1 = .ok (.getfield 140, 3) := by decide +kernel
theorem dX3_takesCell_4 : decode cX3_takesCell 4 = .ok (.iconst 1, 1) := by decide +kernel
theorem dX3_takesCell_5 : decode cX3_takesCell 5 = .ok (.iadd, 1) := by decide +kernel
theorem dX3_takesCell_6 : decode cX3_takesCell 6 = .ok (.aload_n 0, 1) := by decide +kernel
theorem dX3_takesCell_7 : decode cX3_takesCell 7 = .ok (.getfield 71, 3) := by decide +kernel
theorem dX3_takesCell_10 : decode cX3_takesCell 10 = .ok (.if_icmp .ge 43, 3) := by decide +kernel
theorem dX3_takesCell_13 : decode cX3_takesCell 13 = .ok (.aload_n 0, 1) := by decide +kernel
theorem dX3_takesCell_14 : decode cX3_takesCell 14 = .ok (.getfield 19, 3) := by decide +kernel
theorem dX3_takesCell_17 : decode cX3_takesCell 17 = .ok (.aload_n 0, 1) := by decide +kernel
theorem dX3_takesCell_18 : decode cX3_takesCell 18 = .ok (.getfield 140, 3) := by decide +kernel
theorem dX3_takesCell_21 : decode cX3_takesCell 21 = .ok (.iaload, 1) := by decide +kernel
theorem dX3_takesCell_22 : decode cX3_takesCell 22 = .ok (.bipush 97, 2) := by decide +kernel
theorem dX3_takesCell_24 : decode cX3_takesCell 24 = .ok (.bipush 102, 2) := by decide +kernel
theorem dX3_takesCell_26 : decode cX3_takesCell 26 = .ok (.invokestatic 31, 3) := by decide +kernel
theorem dX3_takesCell_29 : decode cX3_takesCell 29 = .ok (.ifCond .eq 24, 3) := by decide +kernel
theorem dX3_takesCell_32 : decode cX3_takesCell 32 = .ok (.aload_n 0, 1) := by decide +kernel
theorem dX3_takesCell_33 : decode cX3_takesCell 33 = .ok (.getfield 19, 3) := by decide +kernel
theorem dX3_takesCell_36 : decode cX3_takesCell 36 = .ok (.aload_n 0, 1) := by decide +kernel
theorem dX3_takesCell_37 : decode cX3_takesCell 37 = .ok (.getfield 140, 3) := by decide +kernel
theorem dX3_takesCell_40 : decode cX3_takesCell 40 = .ok (.iconst 1, 1) := by decide +kernel
theorem dX3_takesCell_41 : decode cX3_takesCell 41 = .ok (.iadd, 1) := by decide +kernel
theorem dX3_takesCell_42 : decode cX3_takesCell 42 = .ok (.iaload, 1) := by decide +kernel
theorem dX3_takesCell_43 : decode cX3_takesCell 43 = .ok (.bipush 49, 2) := by decide +kernel
theorem dX3_takesCell_45 : decode cX3_takesCell 45 = .ok (.bipush 54, 2) := by decide +kernel
theorem dX3_takesCell_47 : decode cX3_takesCell 47 = .ok (.invokestatic 31, 3) := by decide +kernel
theorem dX3_takesCell_50 : decode cX3_takesCell 50 = .ok (.ifCond .ne 5, 3) := by decide +kernel
theorem dX3_takesCell_53 : decode cX3_takesCell 53 = .ok (.iconst (-1), 1) := by decide +kernel
theorem dX3_takesCell_54 : decode cX3_takesCell 54 = .ok (.ireturn, 1) := by decide +kernel
theorem dX3_takesCell_55 : decode cX3_takesCell 55 = .ok (.bipush 6, 2) := by decide +kernel
theorem dX3_takesCell_57 : decode cX3_takesCell 57 = .ok (.aload_n 0, 1) := by decide +kernel
theorem dX3_takesCell_58 : decode cX3_takesCell 58 = .ok (.getfield 19, 3) := by decide +kernel
theorem dX3_takesCell_61 : decode cX3_takesCell 61 = .ok (.aload_n 0, 1) := by decide +kernel
theorem dX3_takesCell_62 : decode cX3_takesCell 62 = .ok (.getfield 140, 3) := by decide +kernel
theorem dX3_takesCell_65 : decode cX3_takesCell 65 = .ok (.iconst 1, 1) := by decide +kernel
theorem dX3_takesCell_66 : decode cX3_takesCell 66 = .ok (.iadd, 1) := by decide +kernel
theorem dX3_takesCell_67 : decode cX3_takesCell 67 = .ok (.iaload, 1) := by decide +kernel
theorem dX3_takesCell_68 : decode cX3_takesCell 68 = .ok (.bipush 49, 2) := by decide +kernel
theorem dX3_takesCell_70 : decode cX3_takesCell 70 = .ok (.isub, 1) := by decide +kernel
theorem dX3_takesCell_71 : decode cX3_takesCell 71 = .ok (.imul, 1) := by decide +kernel
theorem dX3_takesCell_72 : decode cX3_takesCell 72 = .ok (.aload_n 0, 1) := by decide +kernel
theorem dX3_takesCell_73 : decode cX3_takesCell 73 = .ok (.getfield 19, 3) := by decide +kernel
theorem dX3_takesCell_76 : decode cX3_takesCell 76 = .ok (.aload_n 0, 1) := by decide +kernel
theorem dX3_takesCell_77 : decode cX3_takesCell 77 = .ok (.getfield 140, 3) := by decide +kernel
theorem dX3_takesCell_80 : decode cX3_takesCell 80 = .ok (.iaload, 1) := by decide +kernel
theorem dX3_takesCell_81 : decode cX3_takesCell 81 = .ok (.iadd, 1) := by decide +kernel
theorem dX3_takesCell_82 : decode cX3_takesCell 82 = .ok (.bipush 97, 2) := by decide +kernel
theorem dX3_takesCell_84 : decode cX3_takesCell 84 = .ok (.isub, 1) := by decide +kernel
theorem dX3_takesCell_85 : decode cX3_takesCell 85 = .ok (.istore_n 1, 1) := by decide +kernel
theorem dX3_takesCell_86 : decode cX3_takesCell 86 = .ok (.aload_n 0, 1) := by decide +kernel
theorem dX3_takesCell_87 : decode cX3_takesCell 87 = .ok (.dup, 1) := by decide +kernel
theorem dX3_takesCell_88 : decode cX3_takesCell 88 = .ok (.getfield 140, 3) := by decide +kernel
theorem dX3_takesCell_91 : decode cX3_takesCell 91 = .ok (.iconst 2, 1) := by decide +kernel
theorem dX3_takesCell_92 : decode cX3_takesCell 92 = .ok (.iadd, 1) := by decide +kernel
theorem dX3_takesCell_93 : decode cX3_takesCell 93 = .ok (.putfield 140, 3) := by decide +kernel
theorem dX3_takesCell_96 : decode cX3_takesCell 96 = .ok (.iload_n 1, 1) := by decide +kernel
theorem dX3_takesCell_97 : decode cX3_takesCell 97 = .ok (.ireturn, 1) := by decide +kernel
theorem dX3_isFormed_0 : decode cX3_isFormed 0 = .ok (.aload_n 0, 1) := by decide +kernel
theorem dX3_isFormed_1 : decode cX3_isFormed 1 = .ok (.iconst (-1), 1) := by decide +kernel
theorem dX3_isFormed_2 : decode cX3_isFormed 2 = .ok (.putfield 143, 3) := by decide +kernel
theorem dX3_isFormed_5 : decode cX3_isFormed 5 = .ok (.aload_n 0, 1) := by decide +kernel
theorem dX3_isFormed_6 : decode cX3_isFormed 6 = .ok (.bipush 45, 2) := by decide +kernel
theorem dX3_isFormed_8 : decode cX3_isFormed 8 = .ok (.invokevirtual 146, 3) := by decide +kernel
theorem dX3_isFormed_11 : decode cX3_isFormed 11 = .ok (.ifCond .eq 10, 3) := by decide +kernel
theorem dX3_isFormed_14 : decode cX3_isFormed 14 = .ok (.aload_n 0, 1) := by decide +kernel
theorem dX3_isFormed_15 : decode cX3_isFormed 15 = .ok (.bipush 59, 2) := by decide +kernel
theorem dX3_isFormed_17 : decode cX3_isFormed 17 = .ok (.invokevirtual 146, 3) := by decide +kernel
theorem dX3_isFormed_20 : decode cX3_isFormed 20 = .ok (.ireturn, 1) := by decide +kernel
theorem dX3_isFormed_21 : decode cX3_isFormed 21 = .ok (.aload_n 0, 1) := by decide +kernel
theorem dX3_isFormed_22 : decode cX3_isFormed 22 = .ok (.aload_n 0, 1) := by decide +kernel
theorem dX3_isFormed_23 : decode cX3_isFormed 23 = .ok (.invokevirtual 149, 3) := by decide +kernel
theorem dX3_isFormed_26 : decode cX3_isFormed 26 = .ok (.putfield 143, 3) := by decide +kernel
theorem dX3_isFormed_29 : decode cX3_isFormed 29 = .ok (.aload_n 0, 1) := by decide +kernel
theorem dX3_isFormed_30 : decode cX3_isFormed 30 = .ok (.aload_n 0, 1) := by decide +kernel
theorem dX3_isFormed_31 : decode cX3_isFormed 31 = .ok (.getfield 143, 3) := by decide +kernel
theorem dX3_isFormed_34 : decode cX3_isFormed 34 = .ok (.ifCond .ge 7, 3) := by decide +kernel
theorem dX3_isFormed_37 : decode cX3_isFormed 37 = .ok (.iconst (-1), 1) := by decide +kernel
theorem dX3_isFormed_38 : decode cX3_isFormed 38 = .ok (.goto 7, 3) := by decide +kernel
theorem dX3_isFormed_41 : decode cX3_isFormed 41 = .ok (.aload_n 0, 1) := by decide +kernel
theorem dX3_isFormed_42 : decode cX3_isFormed 42 = .ok (.invokevirtual 149, 3) := by decide +kernel
theorem dX3_isFormed_45 : decode cX3_isFormed 45 = .ok (.putfield 152, 3) := by decide +kernel
theorem dX3_isFormed_48 : decode cX3_isFormed 48 = .ok (.aload_n 0, 1) := by decide +kernel
theorem dX3_isFormed_49 : decode cX3_isFormed 49 = .ok (.getfield 152, 3) := by decide +kernel
theorem dX3_isFormed_52 : decode cX3_isFormed 52 = .ok (.ifCond .lt 16, 3) := by decide +kernel
theorem dX3_isFormed_55 : decode cX3_isFormed 55 = .ok (.aload_n 0, 1) := by decide +kernel
theorem dX3_isFormed_56 : decode cX3_isFormed 56 = .ok (.bipush 59, 2) := by decide +kernel
theorem dX3_isFormed_58 : decode cX3_isFormed 58 = .ok (.invokevirtual 146, 3) := by decide +kernel
theorem dX3_isFormed_61 : decode cX3_isFormed 61 = .ok (.ifCond .eq 7, 3) := by decide +kernel
theorem dX3_isFormed_64 : decode cX3_isFormed 64 = .ok (.iconst 1, 1) := by decide +kernel
theorem dX3_isFormed_65 : decode cX3_isFormed 65 = .ok (.goto 4, 3) := by decide +kernel
theorem dX3_isFormed_68 : decode cX3_isFormed 68 = .ok (.iconst 0, 1) := by decide +kernel
theorem dX3_isFormed_69 : decode cX3_isFormed 69 = .ok (.ireturn, 1) := by decide +kernel
theorem dX3_does_0 : decode cX3_does 0 = .ok (.aload_n 0, 1) := by decide +kernel
theorem dX3_does_1 : decode cX3_does 1 = .ok (.getfield 143, 3) := by decide +kernel
theorem dX3_does_4 : decode cX3_does 4 = .ok (.ifCond .ge 10, 3) := by decide +kernel
theorem dX3_does_7 : decode cX3_does 7 = .ok (.aload_n 0, 1) := by decide +kernel
theorem dX3_does_8 : decode cX3_does 8 = .ok (.invokevirtual 113, 3) := by decide +kernel
theorem dX3_does_11 : decode cX3_does 11 = .ok (.goto 15, 3) := by decide +kernel
theorem dX3_does_14 : decode cX3_does 14 = .ok (.aload_n 0, 1) := by decide +kernel
theorem dX3_does_15 : decode cX3_does 15 = .ok (.aload_n 0, 1) := by decide +kernel
theorem dX3_does_16 : decode cX3_does 16 = .ok (.getfield 143, 3) := by decide +kernel
theorem dX3_does_19 : decode cX3_does 19 = .ok (.aload_n 0, 1) := by decide +kernel
theorem dX3_does_20 : decode cX3_does 20 = .ok (.getfield 152, 3) := by decide +kernel
theorem dX3_does_23 : decode cX3_does 23 = .ok (.invokevirtual 107, 3) := by decide +kernel
theorem dX3_does_26 : decode cX3_does 26 = .ok (.istore_n 1, 1) := by decide +kernel
theorem dX3_does_27 : decode cX3_does 27 = .ok (.iload_n 1, 1) := by decide +kernel
theorem dX3_does_28 : decode cX3_does 28 = .ok (.ifCond .ne 17, 3) := by decide +kernel
theorem dX3_does_31 : decode cX3_does 31 = .ok (.aload_n 0, 1) := by decide +kernel
theorem dX3_does_32 : decode cX3_does 32 = .ok (.getfield 143, 3) := by decide +kernel
theorem dX3_does_35 : decode cX3_does 35 = .ok (.ifCond .ge 10, 3) := by decide +kernel
theorem dX3_does_38 : decode cX3_does 38 = .ok (.aload_n 0, 1) := by decide +kernel
theorem dX3_does_39 : decode cX3_does 39 = .ok (.invokevirtual 116, 3) := by decide +kernel
theorem dX3_does_42 : decode cX3_does 42 = .ok (.goto 19, 3) := by decide +kernel
theorem dX3_does_45 : decode cX3_does 45 = .ok (.iload_n 1, 1) := by decide +kernel
theorem dX3_does_46 : decode cX3_does 46 = .ok (.ifCond .ne 15, 3) := by decide +kernel
theorem dX3_does_49 : decode cX3_does 49 = .ok (.aload_n 0, 1) := by decide +kernel
theorem dX3_does_50 : decode cX3_does 50 = .ok (.aload_n 0, 1) := by decide +kernel
theorem dX3_does_51 : decode cX3_does 51 = .ok (.getfield 143, 3) := by decide +kernel
theorem dX3_does_54 : decode cX3_does 54 = .ok (.aload_n 0, 1) := by decide +kernel
theorem dX3_does_55 : decode cX3_does 55 = .ok (.getfield 152, 3) := by decide +kernel
theorem dX3_does_58 : decode cX3_does 58 = .ok (.invokevirtual 110, 3) := by decide +kernel
theorem dX3_does_61 : decode cX3_does 61 = .ok (.iload_n 1, 1) := by decide +kernel
theorem dX3_does_62 : decode cX3_does 62 = .ok (.ireturn, 1) := by decide +kernel
theorem dX3_reasonOfText_0 : decode cX3_reasonOfText 0 = .ok (.aload_n 0, 1) := by decide +kernel
theorem dX3_reasonOfText_1 : decode cX3_reasonOfText 1 = .ok (.iconst 0, 1) := by decide +kernel
theorem dX3_reasonOfText_2 : decode cX3_reasonOfText 2 = .ok (.putfield 140, 3) := by decide +kernel
theorem dX3_reasonOfText_5 : decode cX3_reasonOfText 5 = .ok (.aload_n 0, 1) := by decide +kernel
theorem dX3_reasonOfText_6 : decode cX3_reasonOfText 6 = .ok (.iconst 0, 1) := by decide +kernel
theorem dX3_reasonOfText_7 : decode cX3_reasonOfText 7 = .ok (.putfield 155, 3) := by decide +kernel
theorem dX3_reasonOfText_10 : decode cX3_reasonOfText 10 = .ok (.iconst 0, 1) := by decide +kernel
theorem dX3_reasonOfText_11 : decode cX3_reasonOfText 11 = .ok (.istore_n 1, 1) := by decide +kernel
theorem dX3_reasonOfText_12 : decode cX3_reasonOfText 12 = .ok (.aload_n 0, 1) := by decide +kernel
theorem dX3_reasonOfText_13 : decode cX3_reasonOfText 13 = .ok (.getfield 140, 3) := by decide +kernel
theorem dX3_reasonOfText_16 : decode cX3_reasonOfText 16 = .ok (.aload_n 0, 1) := by decide +kernel
theorem dX3_reasonOfText_17 : decode cX3_reasonOfText 17 = .ok (.getfield 71, 3) := by decide +kernel
theorem dX3_reasonOfText_20 : decode cX3_reasonOfText 20 = .ok (.if_icmp .ge 44, 3) := by decide +kernel
theorem dX3_reasonOfText_23 : decode cX3_reasonOfText 23 = .ok (.iload_n 1, 1) := by decide +kernel
theorem dX3_reasonOfText_24 : decode cX3_reasonOfText 24 = .ok (.ifCond .ne 40, 3) := by decide +kernel
theorem dX3_reasonOfText_27 : decode cX3_reasonOfText 27 = .ok (.aload_n 0, 1) := by decide +kernel
theorem dX3_reasonOfText_28 : decode cX3_reasonOfText 28 = .ok (.aload_n 0, 1) := by decide +kernel
theorem dX3_reasonOfText_29 : decode cX3_reasonOfText 29 = .ok (.getfield 140, 3) := by decide +kernel
theorem dX3_reasonOfText_32 : decode cX3_reasonOfText 32 = .ok (.putfield 158, 3) := by decide +kernel
theorem dX3_reasonOfText_35 : decode cX3_reasonOfText 35 = .ok (.aload_n 0, 1) := by decide +kernel
theorem dX3_reasonOfText_36 : decode cX3_reasonOfText 36 = .ok (.invokevirtual 161, 3) := by decide +kernel
theorem dX3_reasonOfText_39 : decode cX3_reasonOfText 39 = .ok (.ifCond .eq 10, 3) := by decide +kernel
theorem dX3_reasonOfText_42 : decode cX3_reasonOfText 42 = .ok (.aload_n 0, 1) := by decide +kernel
theorem dX3_reasonOfText_43 : decode cX3_reasonOfText 43 = .ok (.invokevirtual 165, 3) := by decide +kernel
theorem dX3_reasonOfText_46 : decode cX3_reasonOfText 46 = .ok (.goto 4, 3) := by decide +kernel
theorem dX3_reasonOfText_49 : decode cX3_reasonOfText 49 = .ok (.iconst 1, 1) := by decide +kernel
theorem dX3_reasonOfText_50 : decode cX3_reasonOfText 50 = .ok (.istore_n 1, 1) := by decide +kernel
theorem dX3_reasonOfText_51 : decode cX3_reasonOfText 51 = .ok (.aload_n 0, 1) := by decide +kernel
theorem dX3_reasonOfText_52 : decode cX3_reasonOfText 52 = .ok (.dup, 1) := by decide +kernel
theorem dX3_reasonOfText_53 : decode cX3_reasonOfText 53 = .ok (.getfield 155, 3) := by decide +kernel
theorem dX3_reasonOfText_56 : decode cX3_reasonOfText 56 = .ok (.iconst 1, 1) := by decide +kernel
theorem dX3_reasonOfText_57 : decode cX3_reasonOfText 57 = .ok (.iadd, 1) := by decide +kernel
theorem dX3_reasonOfText_58 : decode cX3_reasonOfText 58 = .ok (.putfield 155, 3) := by decide +kernel
theorem dX3_reasonOfText_61 : decode cX3_reasonOfText 61 = .ok (.goto (-49), 3) := by decide +kernel
theorem dX3_reasonOfText_64 : decode cX3_reasonOfText 64 = .ok (.iload_n 1, 1) := by decide +kernel
theorem dX3_reasonOfText_65 : decode cX3_reasonOfText 65 = .ok (.ireturn, 1) := by decide +kernel
theorem dX3_fault_0 : decode cX3_fault 0 = .ok (.iload_n 1, 1) := by decide +kernel
theorem dX3_fault_1 : decode cX3_fault 1 = .ok (.iconst 0, 1) := by decide +kernel
theorem dX3_fault_2 : decode cX3_fault 2 = .ok (.iconst 1, 1) := by decide +kernel
theorem dX3_fault_3 : decode cX3_fault 3 = .ok (.invokestatic 31, 3) := by decide +kernel
theorem dX3_fault_6 : decode cX3_fault 6 = .ok (.ifCond .ne 5, 3) := by decide +kernel
theorem dX3_fault_9 : decode cX3_fault 9 = .ok (.iconst (-1), 1) := by decide +kernel
theorem dX3_fault_10 : decode cX3_fault 10 = .ok (.ireturn, 1) := by decide +kernel
theorem dX3_fault_11 : decode cX3_fault 11 = .ok (.aload_n 0, 1) := by decide +kernel
theorem dX3_fault_12 : decode cX3_fault 12 = .ok (.invokevirtual 125, 3) := by decide +kernel
theorem dX3_fault_15 : decode cX3_fault 15 = .ok (.aload_n 0, 1) := by decide +kernel
theorem dX3_fault_16 : decode cX3_fault 16 = .ok (.invokevirtual 168, 3) := by decide +kernel
theorem dX3_fault_19 : decode cX3_fault 19 = .ok (.istore_n 2, 1) := by decide +kernel
theorem dX3_fault_20 : decode cX3_fault 20 = .ok (.aload_n 0, 1) := by decide +kernel
theorem dX3_fault_21 : decode cX3_fault 21 = .ok (.invokevirtual 128, 3) := by decide +kernel
theorem dX3_fault_24 : decode cX3_fault 24 = .ok (.iload_n 2, 1) := by decide +kernel
theorem dX3_fault_25 : decode cX3_fault 25 = .ok (.ifCond .ne 8, 3) := by decide +kernel
theorem dX3_fault_28 : decode cX3_fault 28 = .ok (.bipush (-4), 2) := by decide +kernel
theorem dX3_fault_30 : decode cX3_fault 30 = .ok (.goto 15, 3) := by decide +kernel
theorem dX3_fault_33 : decode cX3_fault 33 = .ok (.iload_n 1, 1) := by decide +kernel
theorem dX3_fault_34 : decode cX3_fault 34 = .ok (.ifCond .ne 10, 3) := by decide +kernel
theorem dX3_fault_37 : decode cX3_fault 37 = .ok (.aload_n 0, 1) := by decide +kernel
theorem dX3_fault_38 : decode cX3_fault 38 = .ok (.getfield 158, 3) := by decide +kernel
theorem dX3_fault_41 : decode cX3_fault 41 = .ok (.goto 4, 3) := by decide +kernel
theorem dX3_fault_44 : decode cX3_fault 44 = .ok (.iload_n 2, 1) := by decide +kernel
theorem dX3_fault_45 : decode cX3_fault 45 = .ok (.ireturn, 1) := by decide +kernel
theorem dX3_play_0 : decode cX3_play 0 = .ok (.aload_n 0, 1) := by decide +kernel
theorem dX3_play_1 : decode cX3_play 1 = .ok (.invokevirtual 125, 3) := by decide +kernel
theorem dX3_play_4 : decode cX3_play 4 = .ok (.aload_n 0, 1) := by decide +kernel
theorem dX3_play_5 : decode cX3_play 5 = .ok (.invokevirtual 168, 3) := by decide +kernel
theorem dX3_play_8 : decode cX3_play 8 = .ok (.istore_n 1, 1) := by decide +kernel
theorem dX3_play_9 : decode cX3_play 9 = .ok (.aload_n 0, 1) := by decide +kernel
theorem dX3_play_10 : decode cX3_play 10 = .ok (.invokevirtual 128, 3) := by decide +kernel
theorem dX3_play_13 : decode cX3_play 13 = .ok (.iload_n 1, 1) := by decide +kernel
theorem dX3_play_14 : decode cX3_play 14 = .ok (.ifCond .eq 6, 3) := by decide +kernel
theorem dX3_play_17 : decode cX3_play 17 = .ok (.bipush (-2), 2) := by decide +kernel
theorem dX3_play_19 : decode cX3_play 19 = .ok (.ireturn, 1) := by decide +kernel
theorem dX3_play_20 : decode cX3_play 20 = .ok (.aload_n 0, 1) := by decide +kernel
theorem dX3_play_21 : decode cX3_play 21 = .ok (.invokevirtual 51, 3) := by decide +kernel
theorem dX3_play_24 : decode cX3_play 24 = .ok (.aload_n 0, 1) := by decide +kernel
theorem dX3_play_25 : decode cX3_play 25 = .ok (.invokevirtual 168, 3) := by decide +kernel
theorem dX3_play_28 : decode cX3_play 28 = .ok (.istore_n 2, 1) := by decide +kernel
theorem dX3_play_29 : decode cX3_play 29 = .ok (.aload_n 0, 1) := by decide +kernel
theorem dX3_play_30 : decode cX3_play 30 = .ok (.getfield 155, 3) := by decide +kernel
theorem dX3_play_33 : decode cX3_play 33 = .ok (.ireturn, 1) := by decide +kernel
theorem dJ6_compare_7cf53_0 : decode cJ6_compare_7cf53 0 = .ok (.iload_n 0, 1) := by decide +kernel
theorem dJ6_compare_7cf53_1 : decode cJ6_compare_7cf53 1 = .ok (.iload_n 1, 1) := by decide +kernel
theorem dJ6_compare_7cf53_2 : decode cJ6_compare_7cf53 2 = .ok (.if_icmp .ge 7, 3) := by decide +kernel
theorem dJ6_compare_7cf53_5 : decode cJ6_compare_7cf53 5 = .ok (.iconst (-1), 1) := by decide +kernel
theorem dJ6_compare_7cf53_6 : decode cJ6_compare_7cf53 6 = .ok (.goto 13, 3) := by decide +kernel
theorem dJ6_compare_7cf53_9 : decode cJ6_compare_7cf53 9 = .ok (.iload_n 0, 1) := by decide +kernel
theorem dJ6_compare_7cf53_10 : decode cJ6_compare_7cf53 10 = .ok (.iload_n 1, 1) := by decide +kernel
theorem dJ6_compare_7cf53_11 : decode cJ6_compare_7cf53 11 = .ok (.if_icmp .ne 7, 3) := by decide +kernel
theorem dJ6_compare_7cf53_14 : decode cJ6_compare_7cf53 14 = .ok (.iconst 0, 1) := by decide +kernel
theorem dJ6_compare_7cf53_15 : decode cJ6_compare_7cf53 15 = .ok (.goto 4, 3) := by decide +kernel
theorem dJ6_compare_7cf53_18 : decode cJ6_compare_7cf53 18 = .ok (.iconst 1, 1) := by decide +kernel
theorem dJ6_compare_7cf53_19 : decode cJ6_compare_7cf53 19 = .ok (.ireturn, 1) := by decide +kernel
theorem dJ9_abs_0f7a4_0 : decode cJ9_abs_0f7a4 0 = .ok (.iload_n 0, 1) := by decide +kernel
theorem dJ9_abs_0f7a4_1 : decode cJ9_abs_0f7a4 1 = .ok (.ifCond .ge 8, 3) := by decide +kernel
theorem dJ9_abs_0f7a4_4 : decode cJ9_abs_0f7a4 4 = .ok (.iload_n 0, 1) := by decide +kernel
theorem dJ9_abs_0f7a4_5 : decode cJ9_abs_0f7a4 5 = .ok (.ineg, 1) := by decide +kernel
theorem dJ9_abs_0f7a4_6 : decode cJ9_abs_0f7a4 6 = .ok (.goto 4, 3) := by decide +kernel
theorem dJ9_abs_0f7a4_9 : decode cJ9_abs_0f7a4 9 = .ok (.iload_n 0, 1) := by decide +kernel
theorem dJ9_abs_0f7a4_10 : decode cJ9_abs_0f7a4 10 = .ok (.ireturn, 1) := by decide +kernel
theorem dJ9_max_7cf53_0 : decode cJ9_max_7cf53 0 = .ok (.iload_n 0, 1) := by decide +kernel
theorem dJ9_max_7cf53_1 : decode cJ9_max_7cf53 1 = .ok (.iload_n 1, 1) := by decide +kernel
theorem dJ9_max_7cf53_2 : decode cJ9_max_7cf53 2 = .ok (.if_icmp .lt 7, 3) := by decide +kernel
theorem dJ9_max_7cf53_5 : decode cJ9_max_7cf53 5 = .ok (.iload_n 0, 1) := by decide +kernel
theorem dJ9_max_7cf53_6 : decode cJ9_max_7cf53 6 = .ok (.goto 4, 3) := by decide +kernel
theorem dJ9_max_7cf53_9 : decode cJ9_max_7cf53 9 = .ok (.iload_n 1, 1) := by decide +kernel
theorem dJ9_max_7cf53_10 : decode cJ9_max_7cf53 10 = .ok (.ireturn, 1) := by decide +kernel
theorem dJ9_min_7cf53_0 : decode cJ9_min_7cf53 0 = .ok (.iload_n 0, 1) := by decide +kernel
theorem dJ9_min_7cf53_1 : decode cJ9_min_7cf53 1 = .ok (.iload_n 1, 1) := by decide +kernel
theorem dJ9_min_7cf53_2 : decode cJ9_min_7cf53 2 = .ok (.if_icmp .gt 7, 3) := by decide +kernel
theorem dJ9_min_7cf53_5 : decode cJ9_min_7cf53 5 = .ok (.iload_n 0, 1) := by decide +kernel
theorem dJ9_min_7cf53_6 : decode cJ9_min_7cf53 6 = .ok (.goto 4, 3) := by decide +kernel
theorem dJ9_min_7cf53_9 : decode cJ9_min_7cf53 9 = .ok (.iload_n 1, 1) := by decide +kernel
theorem dJ9_min_7cf53_10 : decode cJ9_min_7cf53 10 = .ok (.ireturn, 1) := by decide +kernel
theorem dL_law_0 : decode cL_law 0 = .ok (.new 7, 3) := by decide +kernel
theorem dL_law_3 : decode cL_law 3 = .ok (.dup, 1) := by decide +kernel
theorem dL_law_4 : decode cL_law 4 = .ok (.invokespecial 9, 3) := by decide +kernel
theorem dL_law_7 : decode cL_law 7 = .ok (.astore_n 1, 1) := by decide +kernel
theorem dL_law_8 : decode cL_law 8 = .ok (.new 10, 3) := by decide +kernel
theorem dL_law_11 : decode cL_law 11 = .ok (.dup, 1) := by decide +kernel
theorem dL_law_12 : decode cL_law 12 = .ok (.invokespecial 12, 3) := by decide +kernel
theorem dL_law_15 : decode cL_law 15 = .ok (.astore_n 2, 1) := by decide +kernel
theorem dL_law_16 : decode cL_law 16 = .ok (.iconst 0, 1) := by decide +kernel
theorem dL_law_17 : decode cL_law 17 = .ok (.istore_n 3, 1) := by decide +kernel
theorem dL_law_18 : decode cL_law 18 = .ok (.iload_n 3, 1) := by decide +kernel
theorem dL_law_19 : decode cL_law 19 = .ok (.aload_n 0, 1) := by decide +kernel
theorem dL_law_20 : decode cL_law 20 = .ok (.arraylength, 1) := by decide +kernel
theorem dL_law_21 : decode cL_law 21 = .ok (.iconst 5, 1) := by decide +kernel
theorem dL_law_22 : decode cL_law 22 = .ok (.isub, 1) := by decide +kernel
theorem dL_law_23 : decode cL_law 23 = .ok (.if_icmp .gt 638, 3) := by decide +kernel
theorem dL_law_26 : decode cL_law 26 = .ok (.aload_n 0, 1) := by decide +kernel
theorem dL_law_27 : decode cL_law 27 = .ok (.iload_n 3, 1) := by decide +kernel
theorem dL_law_28 : decode cL_law 28 = .ok (.iaload, 1) := by decide +kernel
theorem dL_law_29 : decode cL_law 29 = .ok (.bipush 31, 2) := by decide +kernel
theorem dL_law_31 : decode cL_law 31 = .ok (.iand, 1) := by decide +kernel
theorem dL_law_32 : decode cL_law 32 = .ok (.tableswitch 623 0 20 #[100, 113, 146, 199, 222, 255, 278, 291, 324, 337, 370, 403, 426, 459, 492, 525, 538, 551, 574, 587, 610], 100) := by decide +kernel
theorem dL_law_132 : decode cL_law 132 = .ok (.aload_n 1, 1) := by decide +kernel
theorem dL_law_133 : decode cL_law 133 = .ok (.invokevirtual 13, 3) := by decide +kernel
theorem dL_law_136 : decode cL_law 136 = .ok (.aload_n 2, 1) := by decide +kernel
theorem dL_law_137 : decode cL_law 137 = .ok (.invokevirtual 17, 3) := by decide +kernel
theorem dL_law_140 : decode cL_law 140 = .ok (.if_icmp .eq 515, 3) := by decide +kernel
theorem dL_law_143 : decode cL_law 143 = .ok (.iconst 0, 1) := by decide +kernel
theorem dL_law_144 : decode cL_law 144 = .ok (.ireturn, 1) := by decide +kernel
theorem dL_law_145 : decode cL_law 145 = .ok (.aload_n 1, 1) := by decide +kernel
theorem dL_law_146 : decode cL_law 146 = .ok (.aload_n 0, 1) := by decide +kernel
theorem dL_law_147 : decode cL_law 147 = .ok (.iload_n 3, 1) := by decide +kernel
theorem dL_law_148 : decode cL_law 148 = .ok (.iconst 1, 1) := by decide +kernel
theorem dL_law_149 : decode cL_law 149 = .ok (.iadd, 1) := by decide +kernel
theorem dL_law_150 : decode cL_law 150 = .ok (.iaload, 1) := by decide +kernel
theorem dL_law_151 : decode cL_law 151 = .ok (.aload_n 0, 1) := by decide +kernel
theorem dL_law_152 : decode cL_law 152 = .ok (.iload_n 3, 1) := by decide +kernel
theorem dL_law_153 : decode cL_law 153 = .ok (.iconst 2, 1) := by decide +kernel
theorem dL_law_154 : decode cL_law 154 = .ok (.iadd, 1) := by decide +kernel
theorem dL_law_155 : decode cL_law 155 = .ok (.iaload, 1) := by decide +kernel
theorem dL_law_156 : decode cL_law 156 = .ok (.invokevirtual 18, 3) := by decide +kernel
theorem dL_law_159 : decode cL_law 159 = .ok (.aload_n 2, 1) := by decide +kernel
theorem dL_law_160 : decode cL_law 160 = .ok (.aload_n 0, 1) := by decide +kernel
theorem dL_law_161 : decode cL_law 161 = .ok (.iload_n 3, 1) := by decide +kernel
theorem dL_law_162 : decode cL_law 162 = .ok (.iconst 1, 1) := by decide +kernel
theorem dL_law_163 : decode cL_law 163 = .ok (.iadd, 1) := by decide +kernel
theorem dL_law_164 : decode cL_law 164 = .ok (.iaload, 1) := by decide +kernel
theorem dL_law_165 : decode cL_law 165 = .ok (.aload_n 0, 1) := by decide +kernel
theorem dL_law_166 : decode cL_law 166 = .ok (.iload_n 3, 1) := by decide +kernel
theorem dL_law_167 : decode cL_law 167 = .ok (.iconst 2, 1) := by decide +kernel
theorem dL_law_168 : decode cL_law 168 = .ok (.iadd, 1) := by decide +kernel
theorem dL_law_169 : decode cL_law 169 = .ok (.iaload, 1) := by decide +kernel
theorem dL_law_170 : decode cL_law 170 = .ok (.invokevirtual 22, 3) := by decide +kernel
theorem dL_law_173 : decode cL_law 173 = .ok (.if_icmp .eq 482, 3) := by decide +kernel
theorem dL_law_176 : decode cL_law 176 = .ok (.iconst 0, 1) := by decide +kernel
theorem dL_law_177 : decode cL_law 177 = .ok (.ireturn, 1) := by decide +kernel
theorem dL_law_178 : decode cL_law 178 = .ok (.aload_n 1, 1) := by decide +kernel
theorem dL_law_179 : decode cL_law 179 = .ok (.aload_n 0, 1) := by decide +kernel
theorem dL_law_180 : decode cL_law 180 = .ok (.iload_n 3, 1) := by decide +kernel
theorem dL_law_181 : decode cL_law 181 = .ok (.iconst 1, 1) := by decide +kernel
theorem dL_law_182 : decode cL_law 182 = .ok (.iadd, 1) := by decide +kernel
theorem dL_law_183 : decode cL_law 183 = .ok (.iaload, 1) := by decide +kernel
theorem dL_law_184 : decode cL_law 184 = .ok (.aload_n 0, 1) := by decide +kernel
theorem dL_law_185 : decode cL_law 185 = .ok (.iload_n 3, 1) := by decide +kernel
theorem dL_law_186 : decode cL_law 186 = .ok (.iconst 2, 1) := by decide +kernel
theorem dL_law_187 : decode cL_law 187 = .ok (.iadd, 1) := by decide +kernel
theorem dL_law_188 : decode cL_law 188 = .ok (.iaload, 1) := by decide +kernel
theorem dL_law_189 : decode cL_law 189 = .ok (.aload_n 0, 1) := by decide +kernel
theorem dL_law_190 : decode cL_law 190 = .ok (.iload_n 3, 1) := by decide +kernel
theorem dL_law_191 : decode cL_law 191 = .ok (.iconst 3, 1) := by decide +kernel
theorem dL_law_192 : decode cL_law 192 = .ok (.iadd, 1) := by decide +kernel
theorem dL_law_193 : decode cL_law 193 = .ok (.iaload, 1) := by decide +kernel
theorem dL_law_194 : decode cL_law 194 = .ok (.aload_n 0, 1) := by decide +kernel
theorem dL_law_195 : decode cL_law 195 = .ok (.iload_n 3, 1) := by decide +kernel
theorem dL_law_196 : decode cL_law 196 = .ok (.iconst 4, 1) := by decide +kernel
theorem dL_law_197 : decode cL_law 197 = .ok (.iadd, 1) := by decide +kernel
theorem dL_law_198 : decode cL_law 198 = .ok (.iaload, 1) := by decide +kernel
theorem dL_law_199 : decode cL_law 199 = .ok (.invokevirtual 23, 3) := by decide +kernel
theorem dL_law_202 : decode cL_law 202 = .ok (.aload_n 2, 1) := by decide +kernel
theorem dL_law_203 : decode cL_law 203 = .ok (.aload_n 0, 1) := by decide +kernel
theorem dL_law_204 : decode cL_law 204 = .ok (.iload_n 3, 1) := by decide +kernel
theorem dL_law_205 : decode cL_law 205 = .ok (.iconst 1, 1) := by decide +kernel
theorem dL_law_206 : decode cL_law 206 = .ok (.iadd, 1) := by decide +kernel
theorem dL_law_207 : decode cL_law 207 = .ok (.iaload, 1) := by decide +kernel
theorem dL_law_208 : decode cL_law 208 = .ok (.aload_n 0, 1) := by decide +kernel
theorem dL_law_209 : decode cL_law 209 = .ok (.iload_n 3, 1) := by decide +kernel
theorem dL_law_210 : decode cL_law 210 = .ok (.iconst 2, 1) := by decide +kernel
theorem dL_law_211 : decode cL_law 211 = .ok (.iadd, 1) := by decide +kernel
theorem dL_law_212 : decode cL_law 212 = .ok (.iaload, 1) := by decide +kernel
theorem dL_law_213 : decode cL_law 213 = .ok (.aload_n 0, 1) := by decide +kernel
theorem dL_law_214 : decode cL_law 214 = .ok (.iload_n 3, 1) := by decide +kernel
theorem dL_law_215 : decode cL_law 215 = .ok (.iconst 3, 1) := by decide +kernel
theorem dL_law_216 : decode cL_law 216 = .ok (.iadd, 1) := by decide +kernel
theorem dL_law_217 : decode cL_law 217 = .ok (.iaload, 1) := by decide +kernel
theorem dL_law_218 : decode cL_law 218 = .ok (.aload_n 0, 1) := by decide +kernel
theorem dL_law_219 : decode cL_law 219 = .ok (.iload_n 3, 1) := by decide +kernel
theorem dL_law_220 : decode cL_law 220 = .ok (.iconst 4, 1) := by decide +kernel
theorem dL_law_221 : decode cL_law 221 = .ok (.iadd, 1) := by decide +kernel
theorem dL_law_222 : decode cL_law 222 = .ok (.iaload, 1) := by decide +kernel
theorem dL_law_223 : decode cL_law 223 = .ok (.invokevirtual 27, 3) := by decide +kernel
theorem dL_law_226 : decode cL_law 226 = .ok (.if_icmp .eq 429, 3) := by decide +kernel
theorem dL_law_229 : decode cL_law 229 = .ok (.iconst 0, 1) := by decide +kernel
theorem dL_law_230 : decode cL_law 230 = .ok (.ireturn, 1) := by decide +kernel
theorem dL_law_231 : decode cL_law 231 = .ok (.aload_n 1, 1) := by decide +kernel
theorem dL_law_232 : decode cL_law 232 = .ok (.aload_n 0, 1) := by decide +kernel
theorem dL_law_233 : decode cL_law 233 = .ok (.iload_n 3, 1) := by decide +kernel
theorem dL_law_234 : decode cL_law 234 = .ok (.iconst 1, 1) := by decide +kernel
theorem dL_law_235 : decode cL_law 235 = .ok (.iadd, 1) := by decide +kernel
theorem dL_law_236 : decode cL_law 236 = .ok (.iaload, 1) := by decide +kernel
theorem dL_law_237 : decode cL_law 237 = .ok (.invokevirtual 28, 3) := by decide +kernel
theorem dL_law_240 : decode cL_law 240 = .ok (.aload_n 2, 1) := by decide +kernel
theorem dL_law_241 : decode cL_law 241 = .ok (.aload_n 0, 1) := by decide +kernel
theorem dL_law_242 : decode cL_law 242 = .ok (.iload_n 3, 1) := by decide +kernel
theorem dL_law_243 : decode cL_law 243 = .ok (.iconst 1, 1) := by decide +kernel
theorem dL_law_244 : decode cL_law 244 = .ok (.iadd, 1) := by decide +kernel
theorem dL_law_245 : decode cL_law 245 = .ok (.iaload, 1) := by decide +kernel
theorem dL_law_246 : decode cL_law 246 = .ok (.invokevirtual 32, 3) := by decide +kernel
theorem dL_law_249 : decode cL_law 249 = .ok (.if_icmp .eq 406, 3) := by decide +kernel
theorem dL_law_252 : decode cL_law 252 = .ok (.iconst 0, 1) := by decide +kernel
theorem dL_law_253 : decode cL_law 253 = .ok (.ireturn, 1) := by decide +kernel
theorem dL_law_254 : decode cL_law 254 = .ok (.aload_n 1, 1) := by decide +kernel
theorem dL_law_255 : decode cL_law 255 = .ok (.aload_n 0, 1) := by decide +kernel
theorem dL_law_256 : decode cL_law 256 = .ok (.iload_n 3, 1) := by decide +kernel
theorem dL_law_257 : decode cL_law 257 = .ok (.iconst 1, 1) := by decide +kernel
theorem dL_law_258 : decode cL_law 258 = .ok (.iadd, 1) := by decide +kernel
theorem dL_law_259 : decode cL_law 259 = .ok (.iaload, 1) := by decide +kernel
theorem dL_law_260 : decode cL_law 260 = .ok (.aload_n 0, 1) := by decide +kernel
theorem dL_law_261 : decode cL_law 261 = .ok (.iload_n 3, 1) := by decide +kernel
theorem dL_law_262 : decode cL_law 262 = .ok (.iconst 2, 1) := by decide +kernel
theorem dL_law_263 : decode cL_law 263 = .ok (.iadd, 1) := by decide +kernel
theorem dL_law_264 : decode cL_law 264 = .ok (.iaload, 1) := by decide +kernel
theorem dL_law_265 : decode cL_law 265 = .ok (.invokevirtual 33, 3) := by decide +kernel
theorem dL_law_268 : decode cL_law 268 = .ok (.aload_n 2, 1) := by decide +kernel
theorem dL_law_269 : decode cL_law 269 = .ok (.aload_n 0, 1) := by decide +kernel
theorem dL_law_270 : decode cL_law 270 = .ok (.iload_n 3, 1) := by decide +kernel
theorem dL_law_271 : decode cL_law 271 = .ok (.iconst 1, 1) := by decide +kernel
theorem dL_law_272 : decode cL_law 272 = .ok (.iadd, 1) := by decide +kernel
theorem dL_law_273 : decode cL_law 273 = .ok (.iaload, 1) := by decide +kernel
theorem dL_law_274 : decode cL_law 274 = .ok (.aload_n 0, 1) := by decide +kernel
theorem dL_law_275 : decode cL_law 275 = .ok (.iload_n 3, 1) := by decide +kernel
theorem dL_law_276 : decode cL_law 276 = .ok (.iconst 2, 1) := by decide +kernel
theorem dL_law_277 : decode cL_law 277 = .ok (.iadd, 1) := by decide +kernel
theorem dL_law_278 : decode cL_law 278 = .ok (.iaload, 1) := by decide +kernel
theorem dL_law_279 : decode cL_law 279 = .ok (.invokevirtual 36, 3) := by decide +kernel
theorem dL_law_282 : decode cL_law 282 = .ok (.if_icmp .eq 373, 3) := by decide +kernel
theorem dL_law_285 : decode cL_law 285 = .ok (.iconst 0, 1) := by decide +kernel
theorem dL_law_286 : decode cL_law 286 = .ok (.ireturn, 1) := by decide +kernel
theorem dL_law_287 : decode cL_law 287 = .ok (.aload_n 1, 1) := by decide +kernel
theorem dL_law_288 : decode cL_law 288 = .ok (.aload_n 0, 1) := by decide +kernel
theorem dL_law_289 : decode cL_law 289 = .ok (.iload_n 3, 1) := by decide +kernel
theorem dL_law_290 : decode cL_law 290 = .ok (.iconst 1, 1) := by decide +kernel
theorem dL_law_291 : decode cL_law 291 = .ok (.iadd, 1) := by decide +kernel
theorem dL_law_292 : decode cL_law 292 = .ok (.iaload, 1) := by decide +kernel
theorem dL_law_293 : decode cL_law 293 = .ok (.invokevirtual 37, 3) := by decide +kernel
theorem dL_law_296 : decode cL_law 296 = .ok (.aload_n 2, 1) := by decide +kernel
theorem dL_law_297 : decode cL_law 297 = .ok (.aload_n 0, 1) := by decide +kernel
theorem dL_law_298 : decode cL_law 298 = .ok (.iload_n 3, 1) := by decide +kernel
theorem dL_law_299 : decode cL_law 299 = .ok (.iconst 1, 1) := by decide +kernel
theorem dL_law_300 : decode cL_law 300 = .ok (.iadd, 1) := by decide +kernel
theorem dL_law_301 : decode cL_law 301 = .ok (.iaload, 1) := by decide +kernel
theorem dL_law_302 : decode cL_law 302 = .ok (.invokevirtual 40, 3) := by decide +kernel
theorem dL_law_305 : decode cL_law 305 = .ok (.if_icmp .eq 350, 3) := by decide +kernel
theorem dL_law_308 : decode cL_law 308 = .ok (.iconst 0, 1) := by decide +kernel
theorem dL_law_309 : decode cL_law 309 = .ok (.ireturn, 1) := by decide +kernel
theorem dL_law_310 : decode cL_law 310 = .ok (.aload_n 1, 1) := by decide +kernel
theorem dL_law_311 : decode cL_law 311 = .ok (.invokevirtual 41, 3) := by decide +kernel
theorem dL_law_314 : decode cL_law 314 = .ok (.aload_n 2, 1) := by decide +kernel
theorem dL_law_315 : decode cL_law 315 = .ok (.invokevirtual 44, 3) := by decide +kernel
theorem dL_law_318 : decode cL_law 318 = .ok (.if_icmp .eq 337, 3) := by decide +kernel
theorem dL_law_321 : decode cL_law 321 = .ok (.iconst 0, 1) := by decide +kernel
theorem dL_law_322 : decode cL_law 322 = .ok (.ireturn, 1) := by decide +kernel
theorem dL_law_323 : decode cL_law 323 = .ok (.aload_n 1, 1) := by decide +kernel
theorem dL_law_324 : decode cL_law 324 = .ok (.aload_n 0, 1) := by decide +kernel
theorem dL_law_325 : decode cL_law 325 = .ok (.iload_n 3, 1) := by decide +kernel
theorem dL_law_326 : decode cL_law 326 = .ok (.iconst 1, 1) := by decide +kernel
theorem dL_law_327 : decode cL_law 327 = .ok (.iadd, 1) := by decide +kernel
theorem dL_law_328 : decode cL_law 328 = .ok (.iaload, 1) := by decide +kernel
theorem dL_law_329 : decode cL_law 329 = .ok (.aload_n 0, 1) := by decide +kernel
theorem dL_law_330 : decode cL_law 330 = .ok (.iload_n 3, 1) := by decide +kernel
theorem dL_law_331 : decode cL_law 331 = .ok (.iconst 2, 1) := by decide +kernel
theorem dL_law_332 : decode cL_law 332 = .ok (.iadd, 1) := by decide +kernel
theorem dL_law_333 : decode cL_law 333 = .ok (.iaload, 1) := by decide +kernel
theorem dL_law_334 : decode cL_law 334 = .ok (.invokevirtual 45, 3) := by decide +kernel
theorem dL_law_337 : decode cL_law 337 = .ok (.aload_n 2, 1) := by decide +kernel
theorem dL_law_338 : decode cL_law 338 = .ok (.aload_n 0, 1) := by decide +kernel
theorem dL_law_339 : decode cL_law 339 = .ok (.iload_n 3, 1) := by decide +kernel
theorem dL_law_340 : decode cL_law 340 = .ok (.iconst 1, 1) := by decide +kernel
theorem dL_law_341 : decode cL_law 341 = .ok (.iadd, 1) := by decide +kernel
theorem dL_law_342 : decode cL_law 342 = .ok (.iaload, 1) := by decide +kernel
theorem dL_law_343 : decode cL_law 343 = .ok (.aload_n 0, 1) := by decide +kernel
theorem dL_law_344 : decode cL_law 344 = .ok (.iload_n 3, 1) := by decide +kernel
theorem dL_law_345 : decode cL_law 345 = .ok (.iconst 2, 1) := by decide +kernel
theorem dL_law_346 : decode cL_law 346 = .ok (.iadd, 1) := by decide +kernel
theorem dL_law_347 : decode cL_law 347 = .ok (.iaload, 1) := by decide +kernel
theorem dL_law_348 : decode cL_law 348 = .ok (.invokevirtual 48, 3) := by decide +kernel
theorem dL_law_351 : decode cL_law 351 = .ok (.if_icmp .eq 304, 3) := by decide +kernel
theorem dL_law_354 : decode cL_law 354 = .ok (.iconst 0, 1) := by decide +kernel
theorem dL_law_355 : decode cL_law 355 = .ok (.ireturn, 1) := by decide +kernel
theorem dL_law_356 : decode cL_law 356 = .ok (.aload_n 1, 1) := by decide +kernel
theorem dL_law_357 : decode cL_law 357 = .ok (.invokevirtual 49, 3) := by decide +kernel
theorem dL_law_360 : decode cL_law 360 = .ok (.aload_n 2, 1) := by decide +kernel
theorem dL_law_361 : decode cL_law 361 = .ok (.invokevirtual 52, 3) := by decide +kernel
theorem dL_law_364 : decode cL_law 364 = .ok (.if_icmp .eq 291, 3) := by decide +kernel
theorem dL_law_367 : decode cL_law 367 = .ok (.iconst 0, 1) := by decide +kernel
theorem dL_law_368 : decode cL_law 368 = .ok (.ireturn, 1) := by decide +kernel
theorem dL_law_369 : decode cL_law 369 = .ok (.aload_n 1, 1) := by decide +kernel
theorem dL_law_370 : decode cL_law 370 = .ok (.aload_n 0, 1) := by decide +kernel
theorem dL_law_371 : decode cL_law 371 = .ok (.iload_n 3, 1) := by decide +kernel
theorem dL_law_372 : decode cL_law 372 = .ok (.iconst 1, 1) := by decide +kernel
theorem dL_law_373 : decode cL_law 373 = .ok (.iadd, 1) := by decide +kernel
theorem dL_law_374 : decode cL_law 374 = .ok (.iaload, 1) := by decide +kernel
theorem dL_law_375 : decode cL_law 375 = .ok (.aload_n 0, 1) := by decide +kernel
theorem dL_law_376 : decode cL_law 376 = .ok (.iload_n 3, 1) := by decide +kernel
theorem dL_law_377 : decode cL_law 377 = .ok (.iconst 2, 1) := by decide +kernel
theorem dL_law_378 : decode cL_law 378 = .ok (.iadd, 1) := by decide +kernel
theorem dL_law_379 : decode cL_law 379 = .ok (.iaload, 1) := by decide +kernel
theorem dL_law_380 : decode cL_law 380 = .ok (.invokevirtual 53, 3) := by decide +kernel
theorem dL_law_383 : decode cL_law 383 = .ok (.aload_n 2, 1) := by decide +kernel
theorem dL_law_384 : decode cL_law 384 = .ok (.aload_n 0, 1) := by decide +kernel
theorem dL_law_385 : decode cL_law 385 = .ok (.iload_n 3, 1) := by decide +kernel
theorem dL_law_386 : decode cL_law 386 = .ok (.iconst 1, 1) := by decide +kernel
theorem dL_law_387 : decode cL_law 387 = .ok (.iadd, 1) := by decide +kernel
theorem dL_law_388 : decode cL_law 388 = .ok (.iaload, 1) := by decide +kernel
theorem dL_law_389 : decode cL_law 389 = .ok (.aload_n 0, 1) := by decide +kernel
theorem dL_law_390 : decode cL_law 390 = .ok (.iload_n 3, 1) := by decide +kernel
theorem dL_law_391 : decode cL_law 391 = .ok (.iconst 2, 1) := by decide +kernel
theorem dL_law_392 : decode cL_law 392 = .ok (.iadd, 1) := by decide +kernel
theorem dL_law_393 : decode cL_law 393 = .ok (.iaload, 1) := by decide +kernel
theorem dL_law_394 : decode cL_law 394 = .ok (.invokevirtual 56, 3) := by decide +kernel
theorem dL_law_397 : decode cL_law 397 = .ok (.if_icmp .eq 258, 3) := by decide +kernel
theorem dL_law_400 : decode cL_law 400 = .ok (.iconst 0, 1) := by decide +kernel
theorem dL_law_401 : decode cL_law 401 = .ok (.ireturn, 1) := by decide +kernel
theorem dL_law_402 : decode cL_law 402 = .ok (.aload_n 1, 1) := by decide +kernel
theorem dL_law_403 : decode cL_law 403 = .ok (.aload_n 0, 1) := by decide +kernel
theorem dL_law_404 : decode cL_law 404 = .ok (.iload_n 3, 1) := by decide +kernel
theorem dL_law_405 : decode cL_law 405 = .ok (.iconst 1, 1) := by decide +kernel
theorem dL_law_406 : decode cL_law 406 = .ok (.iadd, 1) := by decide +kernel
theorem dL_law_407 : decode cL_law 407 = .ok (.iaload, 1) := by decide +kernel
theorem dL_law_408 : decode cL_law 408 = .ok (.aload_n 0, 1) := by decide +kernel
theorem dL_law_409 : decode cL_law 409 = .ok (.iload_n 3, 1) := by decide +kernel
theorem dL_law_410 : decode cL_law 410 = .ok (.iconst 2, 1) := by decide +kernel
theorem dL_law_411 : decode cL_law 411 = .ok (.iadd, 1) := by decide +kernel
theorem dL_law_412 : decode cL_law 412 = .ok (.iaload, 1) := by decide +kernel
theorem dL_law_413 : decode cL_law 413 = .ok (.invokevirtual 57, 3) := by decide +kernel
theorem dL_law_416 : decode cL_law 416 = .ok (.aload_n 2, 1) := by decide +kernel
theorem dL_law_417 : decode cL_law 417 = .ok (.aload_n 0, 1) := by decide +kernel
theorem dL_law_418 : decode cL_law 418 = .ok (.iload_n 3, 1) := by decide +kernel
theorem dL_law_419 : decode cL_law 419 = .ok (.iconst 1, 1) := by decide +kernel
theorem dL_law_420 : decode cL_law 420 = .ok (.iadd, 1) := by decide +kernel
theorem dL_law_421 : decode cL_law 421 = .ok (.iaload, 1) := by decide +kernel
theorem dL_law_422 : decode cL_law 422 = .ok (.aload_n 0, 1) := by decide +kernel
theorem dL_law_423 : decode cL_law 423 = .ok (.iload_n 3, 1) := by decide +kernel
theorem dL_law_424 : decode cL_law 424 = .ok (.iconst 2, 1) := by decide +kernel
theorem dL_law_425 : decode cL_law 425 = .ok (.iadd, 1) := by decide +kernel
theorem dL_law_426 : decode cL_law 426 = .ok (.iaload, 1) := by decide +kernel
theorem dL_law_427 : decode cL_law 427 = .ok (.invokevirtual 60, 3) := by decide +kernel
theorem dL_law_430 : decode cL_law 430 = .ok (.if_icmp .eq 225, 3) := by decide +kernel
theorem dL_law_433 : decode cL_law 433 = .ok (.iconst 0, 1) := by decide +kernel
theorem dL_law_434 : decode cL_law 434 = .ok (.ireturn, 1) := by decide +kernel
theorem dL_law_435 : decode cL_law 435 = .ok (.aload_n 1, 1) := by decide +kernel
theorem dL_law_436 : decode cL_law 436 = .ok (.aload_n 0, 1) := by decide +kernel
theorem dL_law_437 : decode cL_law 437 = .ok (.iload_n 3, 1) := by decide +kernel
theorem dL_law_438 : decode cL_law 438 = .ok (.iconst 1, 1) := by decide +kernel
theorem dL_law_439 : decode cL_law 439 = .ok (.iadd, 1) := by decide +kernel
theorem dL_law_440 : decode cL_law 440 = .ok (.iaload, 1) := by decide +kernel
theorem dL_law_441 : decode cL_law 441 = .ok (.invokevirtual 61, 3) := by decide +kernel
theorem dL_law_444 : decode cL_law 444 = .ok (.aload_n 2, 1) := by decide +kernel
theorem dL_law_445 : decode cL_law 445 = .ok (.aload_n 0, 1) := by decide +kernel
theorem dL_law_446 : decode cL_law 446 = .ok (.iload_n 3, 1) := by decide +kernel
theorem dL_law_447 : decode cL_law 447 = .ok (.iconst 1, 1) := by decide +kernel
theorem dL_law_448 : decode cL_law 448 = .ok (.iadd, 1) := by decide +kernel
theorem dL_law_449 : decode cL_law 449 = .ok (.iaload, 1) := by decide +kernel
theorem dL_law_450 : decode cL_law 450 = .ok (.invokevirtual 64, 3) := by decide +kernel
theorem dL_law_453 : decode cL_law 453 = .ok (.if_icmp .eq 202, 3) := by decide +kernel
theorem dL_law_456 : decode cL_law 456 = .ok (.iconst 0, 1) := by decide +kernel
theorem dL_law_457 : decode cL_law 457 = .ok (.ireturn, 1) := by decide +kernel
theorem dL_law_458 : decode cL_law 458 = .ok (.aload_n 1, 1) := by decide +kernel
theorem dL_law_459 : decode cL_law 459 = .ok (.aload_n 0, 1) := by decide +kernel
theorem dL_law_460 : decode cL_law 460 = .ok (.iload_n 3, 1) := by decide +kernel
theorem dL_law_461 : decode cL_law 461 = .ok (.iconst 1, 1) := by decide +kernel
theorem dL_law_462 : decode cL_law 462 = .ok (.iadd, 1) := by decide +kernel
theorem dL_law_463 : decode cL_law 463 = .ok (.iaload, 1) := by decide +kernel
theorem dL_law_464 : decode cL_law 464 = .ok (.aload_n 0, 1) := by decide +kernel
theorem dL_law_465 : decode cL_law 465 = .ok (.iload_n 3, 1) := by decide +kernel
theorem dL_law_466 : decode cL_law 466 = .ok (.iconst 2, 1) := by decide +kernel
theorem dL_law_467 : decode cL_law 467 = .ok (.iadd, 1) := by decide +kernel
theorem dL_law_468 : decode cL_law 468 = .ok (.iaload, 1) := by decide +kernel
theorem dL_law_469 : decode cL_law 469 = .ok (.invokevirtual 65, 3) := by decide +kernel
theorem dL_law_472 : decode cL_law 472 = .ok (.aload_n 2, 1) := by decide +kernel
theorem dL_law_473 : decode cL_law 473 = .ok (.aload_n 0, 1) := by decide +kernel
theorem dL_law_474 : decode cL_law 474 = .ok (.iload_n 3, 1) := by decide +kernel
theorem dL_law_475 : decode cL_law 475 = .ok (.iconst 1, 1) := by decide +kernel
theorem dL_law_476 : decode cL_law 476 = .ok (.iadd, 1) := by decide +kernel
theorem dL_law_477 : decode cL_law 477 = .ok (.iaload, 1) := by decide +kernel
theorem dL_law_478 : decode cL_law 478 = .ok (.aload_n 0, 1) := by decide +kernel
theorem dL_law_479 : decode cL_law 479 = .ok (.iload_n 3, 1) := by decide +kernel
theorem dL_law_480 : decode cL_law 480 = .ok (.iconst 2, 1) := by decide +kernel
theorem dL_law_481 : decode cL_law 481 = .ok (.iadd, 1) := by decide +kernel
theorem dL_law_482 : decode cL_law 482 = .ok (.iaload, 1) := by decide +kernel
theorem dL_law_483 : decode cL_law 483 = .ok (.invokevirtual 68, 3) := by decide +kernel
theorem dL_law_486 : decode cL_law 486 = .ok (.if_icmp .eq 169, 3) := by decide +kernel
theorem dL_law_489 : decode cL_law 489 = .ok (.iconst 0, 1) := by decide +kernel
theorem dL_law_490 : decode cL_law 490 = .ok (.ireturn, 1) := by decide +kernel
theorem dL_law_491 : decode cL_law 491 = .ok (.aload_n 1, 1) := by decide +kernel
theorem dL_law_492 : decode cL_law 492 = .ok (.aload_n 0, 1) := by decide +kernel
theorem dL_law_493 : decode cL_law 493 = .ok (.iload_n 3, 1) := by decide +kernel
theorem dL_law_494 : decode cL_law 494 = .ok (.iconst 1, 1) := by decide +kernel
theorem dL_law_495 : decode cL_law 495 = .ok (.iadd, 1) := by decide +kernel
theorem dL_law_496 : decode cL_law 496 = .ok (.iaload, 1) := by decide +kernel
theorem dL_law_497 : decode cL_law 497 = .ok (.aload_n 0, 1) := by decide +kernel
theorem dL_law_498 : decode cL_law 498 = .ok (.iload_n 3, 1) := by decide +kernel
theorem dL_law_499 : decode cL_law 499 = .ok (.iconst 2, 1) := by decide +kernel
theorem dL_law_500 : decode cL_law 500 = .ok (.iadd, 1) := by decide +kernel
theorem dL_law_501 : decode cL_law 501 = .ok (.iaload, 1) := by decide +kernel
theorem dL_law_502 : decode cL_law 502 = .ok (.invokevirtual 69, 3) := by decide +kernel
theorem dL_law_505 : decode cL_law 505 = .ok (.aload_n 2, 1) := by decide +kernel
theorem dL_law_506 : decode cL_law 506 = .ok (.aload_n 0, 1) := by decide +kernel
theorem dL_law_507 : decode cL_law 507 = .ok (.iload_n 3, 1) := by decide +kernel
theorem dL_law_508 : decode cL_law 508 = .ok (.iconst 1, 1) := by decide +kernel
theorem dL_law_509 : decode cL_law 509 = .ok (.iadd, 1) := by decide +kernel
theorem dL_law_510 : decode cL_law 510 = .ok (.iaload, 1) := by decide +kernel
theorem dL_law_511 : decode cL_law 511 = .ok (.aload_n 0, 1) := by decide +kernel
theorem dL_law_512 : decode cL_law 512 = .ok (.iload_n 3, 1) := by decide +kernel
theorem dL_law_513 : decode cL_law 513 = .ok (.iconst 2, 1) := by decide +kernel
theorem dL_law_514 : decode cL_law 514 = .ok (.iadd, 1) := by decide +kernel
theorem dL_law_515 : decode cL_law 515 = .ok (.iaload, 1) := by decide +kernel
theorem dL_law_516 : decode cL_law 516 = .ok (.invokevirtual 72, 3) := by decide +kernel
theorem dL_law_519 : decode cL_law 519 = .ok (.if_icmp .eq 136, 3) := by decide +kernel
theorem dL_law_522 : decode cL_law 522 = .ok (.iconst 0, 1) := by decide +kernel
theorem dL_law_523 : decode cL_law 523 = .ok (.ireturn, 1) := by decide +kernel
theorem dL_law_524 : decode cL_law 524 = .ok (.aload_n 1, 1) := by decide +kernel
theorem dL_law_525 : decode cL_law 525 = .ok (.aload_n 0, 1) := by decide +kernel
theorem dL_law_526 : decode cL_law 526 = .ok (.iload_n 3, 1) := by decide +kernel
theorem dL_law_527 : decode cL_law 527 = .ok (.iconst 1, 1) := by decide +kernel
theorem dL_law_528 : decode cL_law 528 = .ok (.iadd, 1) := by decide +kernel
theorem dL_law_529 : decode cL_law 529 = .ok (.iaload, 1) := by decide +kernel
theorem dL_law_530 : decode cL_law 530 = .ok (.aload_n 0, 1) := by decide +kernel
theorem dL_law_531 : decode cL_law 531 = .ok (.iload_n 3, 1) := by decide +kernel
theorem dL_law_532 : decode cL_law 532 = .ok (.iconst 2, 1) := by decide +kernel
theorem dL_law_533 : decode cL_law 533 = .ok (.iadd, 1) := by decide +kernel
theorem dL_law_534 : decode cL_law 534 = .ok (.iaload, 1) := by decide +kernel
theorem dL_law_535 : decode cL_law 535 = .ok (.invokevirtual 73, 3) := by decide +kernel
theorem dL_law_538 : decode cL_law 538 = .ok (.aload_n 2, 1) := by decide +kernel
theorem dL_law_539 : decode cL_law 539 = .ok (.aload_n 0, 1) := by decide +kernel
theorem dL_law_540 : decode cL_law 540 = .ok (.iload_n 3, 1) := by decide +kernel
theorem dL_law_541 : decode cL_law 541 = .ok (.iconst 1, 1) := by decide +kernel
theorem dL_law_542 : decode cL_law 542 = .ok (.iadd, 1) := by decide +kernel
theorem dL_law_543 : decode cL_law 543 = .ok (.iaload, 1) := by decide +kernel
theorem dL_law_544 : decode cL_law 544 = .ok (.aload_n 0, 1) := by decide +kernel
theorem dL_law_545 : decode cL_law 545 = .ok (.iload_n 3, 1) := by decide +kernel
theorem dL_law_546 : decode cL_law 546 = .ok (.iconst 2, 1) := by decide +kernel
theorem dL_law_547 : decode cL_law 547 = .ok (.iadd, 1) := by decide +kernel
theorem dL_law_548 : decode cL_law 548 = .ok (.iaload, 1) := by decide +kernel
theorem dL_law_549 : decode cL_law 549 = .ok (.invokevirtual 76, 3) := by decide +kernel
theorem dL_law_552 : decode cL_law 552 = .ok (.if_icmp .eq 103, 3) := by decide +kernel
theorem dL_law_555 : decode cL_law 555 = .ok (.iconst 0, 1) := by decide +kernel
theorem dL_law_556 : decode cL_law 556 = .ok (.ireturn, 1) := by decide +kernel
theorem dL_law_557 : decode cL_law 557 = .ok (.aload_n 1, 1) := by decide +kernel
theorem dL_law_558 : decode cL_law 558 = .ok (.invokevirtual 77, 3) := by decide +kernel
theorem dL_law_561 : decode cL_law 561 = .ok (.aload_n 2, 1) := by decide +kernel
theorem dL_law_562 : decode cL_law 562 = .ok (.invokevirtual 80, 3) := by decide +kernel
theorem dL_law_565 : decode cL_law 565 = .ok (.if_icmp .eq 90, 3) := by decide +kernel
theorem dL_law_568 : decode cL_law 568 = .ok (.iconst 0, 1) := by decide +kernel
theorem dL_law_569 : decode cL_law 569 = .ok (.ireturn, 1) := by decide +kernel
theorem dL_law_570 : decode cL_law 570 = .ok (.aload_n 1, 1) := by decide +kernel
theorem dL_law_571 : decode cL_law 571 = .ok (.invokevirtual 81, 3) := by decide +kernel
theorem dL_law_574 : decode cL_law 574 = .ok (.aload_n 2, 1) := by decide +kernel
theorem dL_law_575 : decode cL_law 575 = .ok (.invokevirtual 84, 3) := by decide +kernel
theorem dL_law_578 : decode cL_law 578 = .ok (.if_icmp .eq 77, 3) := by decide +kernel
theorem dL_law_581 : decode cL_law 581 = .ok (.iconst 0, 1) := by decide +kernel
theorem dL_law_582 : decode cL_law 582 = .ok (.ireturn, 1) := by decide +kernel
theorem dL_law_583 : decode cL_law 583 = .ok (.aload_n 1, 1) := by decide +kernel
theorem dL_law_584 : decode cL_law 584 = .ok (.aload_n 0, 1) := by decide +kernel
theorem dL_law_585 : decode cL_law 585 = .ok (.iload_n 3, 1) := by decide +kernel
theorem dL_law_586 : decode cL_law 586 = .ok (.iconst 1, 1) := by decide +kernel
theorem dL_law_587 : decode cL_law 587 = .ok (.iadd, 1) := by decide +kernel
theorem dL_law_588 : decode cL_law 588 = .ok (.iaload, 1) := by decide +kernel
theorem dL_law_589 : decode cL_law 589 = .ok (.invokevirtual 85, 3) := by decide +kernel
theorem dL_law_592 : decode cL_law 592 = .ok (.aload_n 2, 1) := by decide +kernel
theorem dL_law_593 : decode cL_law 593 = .ok (.aload_n 0, 1) := by decide +kernel
theorem dL_law_594 : decode cL_law 594 = .ok (.iload_n 3, 1) := by decide +kernel
theorem dL_law_595 : decode cL_law 595 = .ok (.iconst 1, 1) := by decide +kernel
theorem dL_law_596 : decode cL_law 596 = .ok (.iadd, 1) := by decide +kernel
theorem dL_law_597 : decode cL_law 597 = .ok (.iaload, 1) := by decide +kernel
theorem dL_law_598 : decode cL_law 598 = .ok (.invokevirtual 88, 3) := by decide +kernel
theorem dL_law_601 : decode cL_law 601 = .ok (.if_icmp .eq 54, 3) := by decide +kernel
theorem dL_law_604 : decode cL_law 604 = .ok (.iconst 0, 1) := by decide +kernel
theorem dL_law_605 : decode cL_law 605 = .ok (.ireturn, 1) := by decide +kernel
theorem dL_law_606 : decode cL_law 606 = .ok (.aload_n 1, 1) := by decide +kernel
theorem dL_law_607 : decode cL_law 607 = .ok (.invokevirtual 89, 3) := by decide +kernel
theorem dL_law_610 : decode cL_law 610 = .ok (.aload_n 2, 1) := by decide +kernel
theorem dL_law_611 : decode cL_law 611 = .ok (.invokevirtual 92, 3) := by decide +kernel
theorem dL_law_614 : decode cL_law 614 = .ok (.if_icmp .eq 41, 3) := by decide +kernel
theorem dL_law_617 : decode cL_law 617 = .ok (.iconst 0, 1) := by decide +kernel
theorem dL_law_618 : decode cL_law 618 = .ok (.ireturn, 1) := by decide +kernel
theorem dL_law_619 : decode cL_law 619 = .ok (.aload_n 1, 1) := by decide +kernel
theorem dL_law_620 : decode cL_law 620 = .ok (.aload_n 0, 1) := by decide +kernel
theorem dL_law_621 : decode cL_law 621 = .ok (.iload_n 3, 1) := by decide +kernel
theorem dL_law_622 : decode cL_law 622 = .ok (.iconst 1, 1) := by decide +kernel
theorem dL_law_623 : decode cL_law 623 = .ok (.iadd, 1) := by decide +kernel
theorem dL_law_624 : decode cL_law 624 = .ok (.iaload, 1) := by decide +kernel
theorem dL_law_625 : decode cL_law 625 = .ok (.invokevirtual 93, 3) := by decide +kernel
theorem dL_law_628 : decode cL_law 628 = .ok (.aload_n 2, 1) := by decide +kernel
theorem dL_law_629 : decode cL_law 629 = .ok (.aload_n 0, 1) := by decide +kernel
theorem dL_law_630 : decode cL_law 630 = .ok (.iload_n 3, 1) := by decide +kernel
theorem dL_law_631 : decode cL_law 631 = .ok (.iconst 1, 1) := by decide +kernel
theorem dL_law_632 : decode cL_law 632 = .ok (.iadd, 1) := by decide +kernel
theorem dL_law_633 : decode cL_law 633 = .ok (.iaload, 1) := by decide +kernel
theorem dL_law_634 : decode cL_law 634 = .ok (.invokevirtual 96, 3) := by decide +kernel
theorem dL_law_637 : decode cL_law 637 = .ok (.if_icmp .eq 18, 3) := by decide +kernel
theorem dL_law_640 : decode cL_law 640 = .ok (.iconst 0, 1) := by decide +kernel
theorem dL_law_641 : decode cL_law 641 = .ok (.ireturn, 1) := by decide +kernel
theorem dL_law_642 : decode cL_law 642 = .ok (.aload_n 1, 1) := by decide +kernel
theorem dL_law_643 : decode cL_law 643 = .ok (.invokevirtual 97, 3) := by decide +kernel
theorem dL_law_646 : decode cL_law 646 = .ok (.aload_n 2, 1) := by decide +kernel
theorem dL_law_647 : decode cL_law 647 = .ok (.invokevirtual 100, 3) := by decide +kernel
theorem dL_law_650 : decode cL_law 650 = .ok (.if_icmp .eq 5, 3) := by decide +kernel
theorem dL_law_653 : decode cL_law 653 = .ok (.iconst 0, 1) := by decide +kernel
theorem dL_law_654 : decode cL_law 654 = .ok (.ireturn, 1) := by decide +kernel
theorem dL_law_655 : decode cL_law 655 = .ok (.iinc 3 5, 3) := by decide +kernel
theorem dL_law_658 : decode cL_law 658 = .ok (.goto (-640), 3) := by decide +kernel
theorem dL_law_661 : decode cL_law 661 = .ok (.iconst 1, 1) := by decide +kernel
theorem dL_law_662 : decode cL_law 662 = .ok (.ireturn, 1) := by decide +kernel
abbrev vwCl : List vw_C := [(RX0, TX0, 4), (RX1, TX1, 15), (RX2, TX2, 8), (RX3, TX3, 13)]
