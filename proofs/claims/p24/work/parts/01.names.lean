/-! ===== BEGIN printed: names, fields, word lists, decode rows ===== -/
def RX0 : String := "ClockworkChess$Board"
def TX0 : u_T := fun k => match k with
  | 0 => ("ClockworkChess$Board", "sides", "[I", true)
  | 1 => ("ClockworkChess$Board", "kinds", "[I", true)
  | 2 => ("ClockworkChess$Board", "springs", "[I", true)
  | _ => ("ClockworkChess$Board", "towers", "[I", true)
def tyX0 : Nat → FieldType := fun k => match k with
  | 0 => .array .int
  | 1 => .array .int
  | 2 => .array .int
  | _ => .array .int
theorem nmX0 : ∀ a, a < 4 → ∀ b, b < 4 → a ≠ b → (TX0 a).2.1 ≠ (TX0 b).2.1 := by decide +kernel
theorem tyX0_ok : ∀ k, k < 4 → parseFieldDescriptor (TX0 k).2.2.1 = some (tyX0 k) := by decide +kernel
abbrev cX0_init : ByteArray := prog_2_method_1_code
def yX0_init : MethodName := ⟨RX0, "<init>", "()V"⟩
abbrev cX0_copyFrom : ByteArray := prog_2_method_2_code
def yX0_copyFrom : MethodName := ⟨RX0, "copyFrom", "(LClockworkChess$Board;)V"⟩
abbrev cX0_arrange : ByteArray := prog_2_method_3_code
def yX0_arrange : MethodName := ⟨RX0, "arrange", "(I)V"⟩
abbrev cX0_place : ByteArray := prog_2_method_4_code
def yX0_place : MethodName := ⟨RX0, "place", "(IIII)V"⟩
abbrev cX0_empty : ByteArray := prog_2_method_5_code
def yX0_empty : MethodName := ⟨RX0, "empty", "(I)V"⟩
abbrev cX0_changeSpring : ByteArray := prog_2_method_6_code
def yX0_changeSpring : MethodName := ⟨RX0, "changeSpring", "(II)V"⟩
abbrev cX0_markTower : ByteArray := prog_2_method_7_code
def yX0_markTower : MethodName := ⟨RX0, "markTower", "(IZ)V"⟩
abbrev cX0_sideOn : ByteArray := prog_2_method_8_code
def yX0_sideOn : MethodName := ⟨RX0, "sideOn", "(I)I"⟩
abbrev cX0_hasPiece : ByteArray := prog_2_method_9_code
def yX0_hasPiece : MethodName := ⟨RX0, "hasPiece", "(I)Z"⟩
abbrev cX0_kindOn : ByteArray := prog_2_method_10_code
def yX0_kindOn : MethodName := ⟨RX0, "kindOn", "(I)I"⟩
abbrev cX0_springOn : ByteArray := prog_2_method_11_code
def yX0_springOn : MethodName := ⟨RX0, "springOn", "(I)I"⟩
abbrev cX0_isTower : ByteArray := prog_2_method_12_code
def yX0_isTower : MethodName := ⟨RX0, "isTower", "(I)Z"⟩
abbrev cX0_springsOf : ByteArray := prog_2_method_13_code
def yX0_springsOf : MethodName := ⟨RX0, "springsOf", "(I)I"⟩
abbrev cX0_springsInAll : ByteArray := prog_2_method_14_code
def yX0_springsInAll : MethodName := ⟨RX0, "springsInAll", "()I"⟩
abbrev cX0_piecesInAll : ByteArray := prog_2_method_15_code
def yX0_piecesInAll : MethodName := ⟨RX0, "piecesInAll", "()I"⟩
abbrev cX0_towersInAll : ByteArray := prog_2_method_16_code
def yX0_towersInAll : MethodName := ⟨RX0, "towersInAll", "()I"⟩
abbrev cX0_movesOf : ByteArray := prog_2_method_17_code
def yX0_movesOf : MethodName := ⟨RX0, "movesOf", "(I)I"⟩
abbrev cX0_movesFrom : ByteArray := prog_2_method_18_code
def yX0_movesFrom : MethodName := ⟨RX0, "movesFrom", "(I)I"⟩
abbrev cX0_canMove : ByteArray := prog_2_method_19_code
def yX0_canMove : MethodName := ⟨RX0, "canMove", "(II)Z"⟩
abbrev cX0_price : ByteArray := prog_2_method_20_code
def yX0_price : MethodName := ⟨RX0, "price", "(II)I"⟩
abbrev cX0_priceAlong : ByteArray := prog_2_method_21_code
def yX0_priceAlong : MethodName := ⟨RX0, "priceAlong", "(III)I"⟩
def RX1 : String := "ClockworkChess$Game"
def TX1 : u_T := fun k => match k with
  | 0 => ("ClockworkChess$Game", "board", "LClockworkChess$Board;", true)
  | 1 => ("ClockworkChess$Game", "limit", "I", false)
  | 2 => ("ClockworkChess$Game", "bonus", "I", false)
  | 3 => ("ClockworkChess$Game", "winding", "I", false)
  | 4 => ("ClockworkChess$Game", "mover", "I", false)
  | 5 => ("ClockworkChess$Game", "ending", "I", false)
  | 6 => ("ClockworkChess$Game", "winner", "I", false)
  | 7 => ("ClockworkChess$Game", "turnsMade", "I", false)
  | 8 => ("ClockworkChess$Game", "justPassed", "Z", false)
  | 9 => ("ClockworkChess$Game", "atBeginning", "I", false)
  | 10 => ("ClockworkChess$Game", "wound", "I", false)
  | 11 => ("ClockworkChess$Game", "gainedByBonus", "I", false)
  | 12 => ("ClockworkChess$Game", "spent", "I", false)
  | 13 => ("ClockworkChess$Game", "lost", "I", false)
  | _ => ("ClockworkChess$Game", "putOn", "I", false)
def tyX1 : Nat → FieldType := fun k => match k with
  | 0 => .object "ClockworkChess$Board"
  | 1 => .int
  | 2 => .int
  | 3 => .int
  | 4 => .int
  | 5 => .int
  | 6 => .int
  | 7 => .int
  | 8 => .boolean
  | 9 => .int
  | 10 => .int
  | 11 => .int
  | 12 => .int
  | 13 => .int
  | _ => .int
theorem nmX1 : ∀ a, a < 15 → ∀ b, b < 15 → a ≠ b → (TX1 a).2.1 ≠ (TX1 b).2.1 := by decide +kernel
theorem tyX1_ok : ∀ k, k < 15 → parseFieldDescriptor (TX1 k).2.2.1 = some (tyX1 k) := by decide +kernel
abbrev cX1_init : ByteArray := prog_3_method_1_code
def yX1_init : MethodName := ⟨RX1, "<init>", "()V"⟩
abbrev cX1_copyFrom : ByteArray := prog_3_method_2_code
def yX1_copyFrom : MethodName := ⟨RX1, "copyFrom", "(LClockworkChess$Game;)V"⟩
abbrev cX1_begin : ByteArray := prog_3_method_3_code
def yX1_begin : MethodName := ⟨RX1, "begin", "()V"⟩
abbrev cX1_isOver : ByteArray := prog_3_method_4_code
def yX1_isOver : MethodName := ⟨RX1, "isOver", "()Z"⟩
abbrev cX1_setting : ByteArray := prog_3_method_5_code
def yX1_setting : MethodName := ⟨RX1, "setting", "(I)I"⟩
abbrev cX1_changeSetting : ByteArray := prog_3_method_6_code
def yX1_changeSetting : MethodName := ⟨RX1, "changeSetting", "(II)V"⟩
abbrev cX1_cutSprings : ByteArray := prog_3_method_7_code
def yX1_cutSprings : MethodName := ⟨RX1, "cutSprings", "()V"⟩
abbrev cX1_account : ByteArray := prog_3_method_8_code
def yX1_account : MethodName := ⟨RX1, "account", "(I)I"⟩
abbrev cX1_putInstead : ByteArray := prog_3_method_9_code
def yX1_putInstead : MethodName := ⟨RX1, "putInstead", "(IIII)V"⟩
abbrev cX1_reasonAgainst : ByteArray := prog_3_method_10_code
def yX1_reasonAgainst : MethodName := ⟨RX1, "reasonAgainst", "(II)I"⟩
abbrev cX1_reasonAgainstPass : ByteArray := prog_3_method_11_code
def yX1_reasonAgainstPass : MethodName := ⟨RX1, "reasonAgainstPass", "()I"⟩
abbrev cX1_makeMove : ByteArray := prog_3_method_12_code
def yX1_makeMove : MethodName := ⟨RX1, "makeMove", "(II)I"⟩
abbrev cX1_carryOut : ByteArray := prog_3_method_13_code
def yX1_carryOut : MethodName := ⟨RX1, "carryOut", "(II)I"⟩
abbrev cX1_springBehindTaking : ByteArray := prog_3_method_14_code
def yX1_springBehindTaking : MethodName := ⟨RX1, "springBehindTaking", "(II)I"⟩
abbrev cX1_makePass : ByteArray := prog_3_method_15_code
def yX1_makePass : MethodName := ⟨RX1, "makePass", "()V"⟩
abbrev cX1_beginTurn : ByteArray := prog_3_method_16_code
def yX1_beginTurn : MethodName := ⟨RX1, "beginTurn", "(I)V"⟩
def RX2 : String := "ClockworkChess"
def TX2 : u_T := fun k => match k with
  | 0 => ("ClockworkChess", "game", "LClockworkChess$Game;", true)
  | 1 => ("ClockworkChess", "trial", "LClockworkChess$Game;", true)
  | 2 => ("ClockworkChess", "states", "[LClockworkChess$Game;", true)
  | 3 => ("ClockworkChess", "stateCount", "I", false)
  | 4 => ("ClockworkChess", "text", "[C", true)
  | 5 => ("ClockworkChess", "textLength", "I", false)
  | 6 => ("ClockworkChess", "springLeft", "[I", false)
  | _ => ("ClockworkChess", "springLeftNext", "[I", false)
def tyX2 : Nat → FieldType := fun k => match k with
  | 0 => .object "ClockworkChess$Game"
  | 1 => .object "ClockworkChess$Game"
  | 2 => .array (.object "ClockworkChess$Game")
  | 3 => .int
  | 4 => .array .char
  | 5 => .int
  | 6 => .array .int
  | _ => .array .int
theorem nmX2 : ∀ a, a < 8 → ∀ b, b < 8 → a ≠ b → (TX2 a).2.1 ≠ (TX2 b).2.1 := by decide +kernel
theorem tyX2_ok : ∀ k, k < 8 → parseFieldDescriptor (TX2 k).2.2.1 = some (tyX2 k) := by decide +kernel
abbrev cX2_init : ByteArray := prog_1_method_1_code
def yX2_init : MethodName := ⟨RX2, "<init>", "()V"⟩
abbrev cX2_setUp : ByteArray := prog_1_method_2_code
def yX2_setUp : MethodName := ⟨RX2, "setUp", "()I"⟩
abbrev cX2_set : ByteArray := prog_1_method_3_code
def yX2_set : MethodName := ⟨RX2, "set", "(II)I"⟩
abbrev cX2_put : ByteArray := prog_1_method_4_code
def yX2_put : MethodName := ⟨RX2, "put", "(IIII)I"⟩
abbrev cX2_tower : ByteArray := prog_1_method_5_code
def yX2_tower : MethodName := ⟨RX2, "tower", "(I)I"⟩
abbrev cX2_cell : ByteArray := prog_1_method_6_code
def yX2_cell : MethodName := ⟨RX2, "cell", "(II)I"⟩
abbrev cX2_count : ByteArray := prog_1_method_7_code
def yX2_count : MethodName := ⟨RX2, "count", "(I)I"⟩
abbrev cX2_undo : ByteArray := prog_1_method_8_code
def yX2_undo : MethodName := ⟨RX2, "undo", "()I"⟩
abbrev cX2_move : ByteArray := prog_1_method_9_code
def yX2_move : MethodName := ⟨RX2, "move", "(II)I"⟩
abbrev cX2_pass : ByteArray := prog_1_method_10_code
def yX2_pass : MethodName := ⟨RX2, "pass", "()I"⟩
abbrev cX2_refusal : ByteArray := prog_1_method_11_code
def yX2_refusal : MethodName := ⟨RX2, "refusal", "(II)I"⟩
abbrev cX2_cost : ByteArray := prog_1_method_12_code
def yX2_cost : MethodName := ⟨RX2, "cost", "(II)I"⟩
abbrev cX2_moves : ByteArray := prog_1_method_13_code
def yX2_moves : MethodName := ⟨RX2, "moves", "(I)I"⟩
abbrev cX2_listed : ByteArray := prog_1_method_14_code
def yX2_listed : MethodName := ⟨RX2, "listed", "(II)I"⟩
abbrev cX2_struck : ByteArray := prog_1_method_15_code
def yX2_struck : MethodName := ⟨RX2, "struck", "(II)I"⟩
abbrev cX2_reach : ByteArray := prog_1_method_16_code
def yX2_reach : MethodName := ⟨RX2, "reach", "(II)I"⟩
abbrev cX2_replies : ByteArray := prog_1_method_17_code
def yX2_replies : MethodName := ⟨RX2, "replies", "()I"⟩
abbrev cX2_best : ByteArray := prog_1_method_18_code
def yX2_best : MethodName := ⟨RX2, "best", "()I"⟩
abbrev cX2_type : ByteArray := prog_1_method_19_code
def yX2_type : MethodName := ⟨RX2, "type", "(I)I"⟩
abbrev cX2_clearText : ByteArray := prog_1_method_20_code
def yX2_clearText : MethodName := ⟨RX2, "clearText", "()I"⟩
abbrev cX2_fault : ByteArray := prog_1_method_21_code
def yX2_fault : MethodName := ⟨RX2, "fault", "(I)I"⟩
abbrev cX2_play : ByteArray := prog_1_method_22_code
def yX2_play : MethodName := ⟨RX2, "play", "()I"⟩
abbrev cX2_isCell : ByteArray := prog_1_method_23_code
def yX2_isCell : MethodName := ⟨RX2, "isCell", "(I)Z"⟩
abbrev cX2_isSide : ByteArray := prog_1_method_24_code
def yX2_isSide : MethodName := ⟨RX2, "isSide", "(I)Z"⟩
abbrev cX2_isAccount : ByteArray := prog_1_method_25_code
def yX2_isAccount : MethodName := ⟨RX2, "isAccount", "(I)Z"⟩
abbrev cX2_isSetting : ByteArray := prog_1_method_26_code
def yX2_isSetting : MethodName := ⟨RX2, "isSetting", "(II)Z"⟩
abbrev cX2_record : ByteArray := prog_1_method_27_code
def yX2_record : MethodName := ⟨RX2, "record", "()V"⟩
abbrev cX2_stateAt : ByteArray := prog_1_method_28_code
def yX2_stateAt : MethodName := ⟨RX2, "stateAt", "(I)LClockworkChess$Game;"⟩
abbrev cX2_makeReachWider : ByteArray := prog_1_method_29_code
def yX2_makeReachWider : MethodName := ⟨RX2, "makeReachWider", "(II)V"⟩
abbrev cX2_leaveFrom : ByteArray := prog_1_method_30_code
def yX2_leaveFrom : MethodName := ⟨RX2, "leaveFrom", "(I)V"⟩
abbrev cX2_cellsReached : ByteArray := prog_1_method_31_code
def yX2_cellsReached : MethodName := ⟨RX2, "cellsReached", "()I"⟩
abbrev cX2_gamesBehind : ByteArray := prog_1_method_32_code
def yX2_gamesBehind : MethodName := ⟨RX2, "gamesBehind", "(II)I"⟩
abbrev cX2_worthOf : ByteArray := prog_1_method_33_code
def yX2_worthOf : MethodName := ⟨RX2, "worthOf", "(II)I"⟩
abbrev cX2_tryText : ByteArray := prog_1_method_34_code
def yX2_tryText : MethodName := ⟨RX2, "tryText", "()I"⟩
abbrev cX2_signsOfForm : ByteArray := prog_1_method_35_code
def yX2_signsOfForm : MethodName := ⟨RX2, "signsOfForm", "(I)I"⟩
abbrev cX2_cellAt : ByteArray := prog_1_method_36_code
def yX2_cellAt : MethodName := ⟨RX2, "cellAt", "(I)I"⟩
abbrev cX2_signAt : ByteArray := prog_1_method_37_code
def yX2_signAt : MethodName := ⟨RX2, "signAt", "(I)C"⟩
abbrev cX2_movesInText : ByteArray := prog_1_method_38_code
def yX2_movesInText : MethodName := ⟨RX2, "movesInText", "()I"⟩
def RX3 : String := "ClockworkChessModel"
def TX3 : u_T := fun k => match k with
  | _ => ("", "", "", false)
def tyX3 : Nat → FieldType := fun k => match k with
  | _ => .int
theorem nmX3 : ∀ a, a < 0 → ∀ b, b < 0 → a ≠ b → (TX3 a).2.1 ≠ (TX3 b).2.1 := by decide +kernel
theorem tyX3_ok : ∀ k, k < 0 → parseFieldDescriptor (TX3 k).2.2.1 = some (tyX3 k) := by decide +kernel
def RJ6 : String := "java/lang/Integer"
def TJ6 : u_T := fun k => match k with
  | _ => ("", "", "", false)
def tyJ6 : Nat → FieldType := fun k => match k with
  | _ => .int
theorem nmJ6 : ∀ a, a < 0 → ∀ b, b < 0 → a ≠ b → (TJ6 a).2.1 ≠ (TJ6 b).2.1 := by decide +kernel
theorem tyJ6_ok : ∀ k, k < 0 → parseFieldDescriptor (TJ6 k).2.2.1 = some (tyJ6 k) := by decide +kernel
abbrev cJ6_compare_7cf53 : ByteArray := prog_6_method_40_code
def yJ6_compare_7cf53 : MethodName := ⟨RJ6, "compare", "(II)I"⟩
def RJ9 : String := "java/lang/Math"
def TJ9 : u_T := fun k => match k with
  | _ => ("", "", "", false)
def tyJ9 : Nat → FieldType := fun k => match k with
  | _ => .int
theorem nmJ9 : ∀ a, a < 0 → ∀ b, b < 0 → a ≠ b → (TJ9 a).2.1 ≠ (TJ9 b).2.1 := by decide +kernel
theorem tyJ9_ok : ∀ k, k < 0 → parseFieldDescriptor (TJ9 k).2.2.1 = some (tyJ9 k) := by decide +kernel
abbrev cJ9_abs_0f7a4 : ByteArray := prog_7_method_59_code
def yJ9_abs_0f7a4 : MethodName := ⟨RJ9, "abs", "(I)I"⟩
abbrev cJ9_max_7cf53 : ByteArray := prog_7_method_65_code
def yJ9_max_7cf53 : MethodName := ⟨RJ9, "max", "(II)I"⟩
abbrev cJ9_min_7cf53 : ByteArray := prog_7_method_69_code
def yJ9_min_7cf53 : MethodName := ⟨RJ9, "min", "(II)I"⟩
def RJ10 : String := "java/lang/System"
def TJ10 : u_T := fun k => match k with
  | _ => ("", "", "", false)
def tyJ10 : Nat → FieldType := fun k => match k with
  | _ => .int
theorem nmJ10 : ∀ a, a < 0 → ∀ b, b < 0 → a ≠ b → (TJ10 a).2.1 ≠ (TJ10 b).2.1 := by decide +kernel
theorem tyJ10_ok : ∀ k, k < 0 → parseFieldDescriptor (TJ10 k).2.2.1 = some (tyJ10 k) := by decide +kernel
def RL : String := "ClockworkChessLaw"
abbrev cL_part : ByteArray := method_2_code
def yL_part : MethodName := ⟨RL, "part", "(II)I"⟩
abbrev cL_take : ByteArray := method_3_code
def yL_take : MethodName := ⟨RL, "take", "([II)I"⟩
abbrev cL_mixed : ByteArray := method_4_code
def yL_mixed : MethodName := ⟨RL, "mixed", "(JJ)J"⟩
abbrev cL_state : ByteArray := method_5_code
def yL_state : MethodName := ⟨RL, "state", "(LClockworkChess;)J"⟩
abbrev cL_refused : ByteArray := method_6_code
def yL_refused : MethodName := ⟨RL, "refused", "(LClockworkChess;)Z"⟩
abbrev cL_types : ByteArray := method_7_code
def yL_types : MethodName := ⟨RL, "types", "(LClockworkChess;J)V"⟩
abbrev cL_isFault : ByteArray := method_8_code
def yL_isFault : MethodName := ⟨RL, "isFault", "(LClockworkChess;JJII)Z"⟩
abbrev cL_texts : ByteArray := method_9_code
def yL_texts : MethodName := ⟨RL, "texts", "()Z"⟩
abbrev cL_isCleared : ByteArray := method_10_code
def yL_isCleared : MethodName := ⟨RL, "isCleared", "(LClockworkChess;)Z"⟩
abbrev cL_begins : ByteArray := method_11_code
def yL_begins : MethodName := ⟨RL, "begins", "()Z"⟩
abbrev cL_known : ByteArray := method_12_code
def yL_known : MethodName := ⟨RL, "known", "()Z"⟩
abbrev cL_law : ByteArray := code
def yL_law : MethodName := ⟨RL, "law", "([I)Z"⟩
theorem dX0_init_0 : decode cX0_init 0 = .ok (.aload_n 0, 1) := by decide +kernel
theorem dX0_init_1 : decode cX0_init 1 = .ok (.invokespecial 3, 3) := by decide +kernel
theorem dX0_init_4 : decode cX0_init 4 = .ok (.aload_n 0, 1) := by decide +kernel
theorem dX0_init_5 : decode cX0_init 5 = .ok (.bipush 36, 2) := by decide +kernel
theorem dX0_init_7 : decode cX0_init 7 = .ok (.newarray .int, 2) := by decide +kernel
theorem dX0_init_9 : decode cX0_init 9 = .ok (.putfield 9, 3) := by decide +kernel
theorem dX0_init_12 : decode cX0_init 12 = .ok (.aload_n 0, 1) := by decide +kernel
theorem dX0_init_13 : decode cX0_init 13 = .ok (.bipush 36, 2) := by decide +kernel
theorem dX0_init_15 : decode cX0_init 15 = .ok (.newarray .int, 2) := by decide +kernel
theorem dX0_init_17 : decode cX0_init 17 = .ok (.putfield 15, 3) := by decide +kernel
theorem dX0_init_20 : decode cX0_init 20 = .ok (.aload_n 0, 1) := by decide +kernel
theorem dX0_init_21 : decode cX0_init 21 = .ok (.bipush 36, 2) := by decide +kernel
theorem dX0_init_23 : decode cX0_init 23 = .ok (.newarray .int, 2) := by decide +kernel
theorem dX0_init_25 : decode cX0_init 25 = .ok (.putfield 18, 3) := by decide +kernel
theorem dX0_init_28 : decode cX0_init 28 = .ok (.aload_n 0, 1) := by decide +kernel
theorem dX0_init_29 : decode cX0_init 29 = .ok (.bipush 36, 2) := by decide +kernel
theorem dX0_init_31 : decode cX0_init 31 = .ok (.newarray .int, 2) := by decide +kernel
theorem dX0_init_33 : decode cX0_init 33 = .ok (.putfield 21, 3) := by decide +kernel
theorem dX0_init_36 : decode cX0_init 36 = .ok (.return_, 1) := by decide +kernel
theorem dX0_copyFrom_0 : decode cX0_copyFrom 0 = .ok (.aload_n 1, 1) := by decide +kernel
theorem dX0_copyFrom_1 : decode cX0_copyFrom 1 = .ok (.getfield 9, 3) := by decide +kernel
theorem dX0_copyFrom_4 : decode cX0_copyFrom 4 = .ok (.iconst 0, 1) := by decide +kernel
theorem dX0_copyFrom_5 : decode cX0_copyFrom 5 = .ok (.aload_n 0, 1) := by decide +kernel
theorem dX0_copyFrom_6 : decode cX0_copyFrom 6 = .ok (.getfield 9, 3) := by decide +kernel
theorem dX0_copyFrom_9 : decode cX0_copyFrom 9 = .ok (.iconst 0, 1) := by decide +kernel
theorem dX0_copyFrom_10 : decode cX0_copyFrom 10 = .ok (.bipush 36, 2) := by decide +kernel
theorem dX0_copyFrom_12 : decode cX0_copyFrom 12 = .ok (.invokestatic 24, 3) := by decide +kernel
theorem dX0_copyFrom_15 : decode cX0_copyFrom 15 = .ok (.aload_n 1, 1) := by decide +kernel
theorem dX0_copyFrom_16 : decode cX0_copyFrom 16 = .ok (.getfield 15, 3) := by decide +kernel
theorem dX0_copyFrom_19 : decode cX0_copyFrom 19 = .ok (.iconst 0, 1) := by decide +kernel
theorem dX0_copyFrom_20 : decode cX0_copyFrom 20 = .ok (.aload_n 0, 1) := by decide +kernel
theorem dX0_copyFrom_21 : decode cX0_copyFrom 21 = .ok (.getfield 15, 3) := by decide +kernel
theorem dX0_copyFrom_24 : decode cX0_copyFrom 24 = .ok (.iconst 0, 1) := by decide +kernel
theorem dX0_copyFrom_25 : decode cX0_copyFrom 25 = .ok (.bipush 36, 2) := by decide +kernel
theorem dX0_copyFrom_27 : decode cX0_copyFrom 27 = .ok (.invokestatic 24, 3) := by decide +kernel
theorem dX0_copyFrom_30 : decode cX0_copyFrom 30 = .ok (.aload_n 1, 1) := by decide +kernel
theorem dX0_copyFrom_31 : decode cX0_copyFrom 31 = .ok (.getfield 18, 3) := by decide +kernel
theorem dX0_copyFrom_34 : decode cX0_copyFrom 34 = .ok (.iconst 0, 1) := by decide +kernel
theorem dX0_copyFrom_35 : decode cX0_copyFrom 35 = .ok (.aload_n 0, 1) := by decide +kernel
theorem dX0_copyFrom_36 : decode cX0_copyFrom 36 = .ok (.getfield 18, 3) := by decide +kernel
theorem dX0_copyFrom_39 : decode cX0_copyFrom 39 = .ok (.iconst 0, 1) := by decide +kernel
theorem dX0_copyFrom_40 : decode cX0_copyFrom 40 = .ok (.bipush 36, 2) := by decide +kernel
theorem dX0_copyFrom_42 : decode cX0_copyFrom 42 = .ok (.invokestatic 24, 3) := by decide +kernel
theorem dX0_copyFrom_45 : decode cX0_copyFrom 45 = .ok (.aload_n 1, 1) := by decide +kernel
theorem dX0_copyFrom_46 : decode cX0_copyFrom 46 = .ok (.getfield 21, 3) := by decide +kernel
theorem dX0_copyFrom_49 : decode cX0_copyFrom 49 = .ok (.iconst 0, 1) := by decide +kernel
theorem dX0_copyFrom_50 : decode cX0_copyFrom 50 = .ok (.aload_n 0, 1) := by decide +kernel
theorem dX0_copyFrom_51 : decode cX0_copyFrom 51 = .ok (.getfield 21, 3) := by decide +kernel
theorem dX0_copyFrom_54 : decode cX0_copyFrom 54 = .ok (.iconst 0, 1) := by decide +kernel
theorem dX0_copyFrom_55 : decode cX0_copyFrom 55 = .ok (.bipush 36, 2) := by decide +kernel
theorem dX0_copyFrom_57 : decode cX0_copyFrom 57 = .ok (.invokestatic 24, 3) := by decide +kernel
theorem dX0_copyFrom_60 : decode cX0_copyFrom 60 = .ok (.return_, 1) := by decide +kernel
theorem dX0_arrange_0 : decode cX0_arrange 0 = .ok (.iconst 0, 1) := by decide +kernel
theorem dX0_arrange_1 : decode cX0_arrange 1 = .ok (.istore_n 2, 1) := by decide +kernel
theorem dX0_arrange_2 : decode cX0_arrange 2 = .ok (.iload_n 2, 1) := by decide +kernel
theorem dX0_arrange_3 : decode cX0_arrange 3 = .ok (.bipush 36, 2) := by decide +kernel
theorem dX0_arrange_5 : decode cX0_arrange 5 = .ok (.if_icmp .ge 20, 3) := by decide +kernel
theorem dX0_arrange_8 : decode cX0_arrange 8 = .ok (.aload_n 0, 1) := by decide +kernel
theorem dX0_arrange_9 : decode cX0_arrange 9 = .ok (.iload_n 2, 1) := by decide +kernel
theorem dX0_arrange_10 : decode cX0_arrange 10 = .ok (.invokevirtual 30, 3) := by decide +kernel
theorem dX0_arrange_13 : decode cX0_arrange 13 = .ok (.aload_n 0, 1) := by decide +kernel
theorem dX0_arrange_14 : decode cX0_arrange 14 = .ok (.iload_n 2, 1) := by decide +kernel
theorem dX0_arrange_15 : decode cX0_arrange 15 = .ok (.iconst 0, 1) := by decide +kernel
theorem dX0_arrange_16 : decode cX0_arrange 16 = .ok (.invokevirtual 34, 3) := by decide +kernel
theorem dX0_arrange_19 : decode cX0_arrange 19 = .ok (.iinc 2 1, 3) := by decide +kernel
theorem dX0_arrange_22 : decode cX0_arrange 22 = .ok (.goto (-20), 3) := by decide +kernel
theorem dX0_arrange_25 : decode cX0_arrange 25 = .ok (.iconst 0, 1) := by decide +kernel
theorem dX0_arrange_26 : decode cX0_arrange 26 = .ok (.istore_n 2, 1) := by decide +kernel
theorem dX0_arrange_27 : decode cX0_arrange 27 = .ok (.iload_n 2, 1) := by decide +kernel
theorem dX0_arrange_28 : decode cX0_arrange 28 = .ok (.getstatic 38, 3) := by decide +kernel
theorem dX0_arrange_31 : decode cX0_arrange 31 = .ok (.arraylength, 1) := by decide +kernel
theorem dX0_arrange_32 : decode cX0_arrange 32 = .ok (.if_icmp .ge 58, 3) := by decide +kernel
theorem dX0_arrange_35 : decode cX0_arrange 35 = .ok (.aload_n 0, 1) := by decide +kernel
theorem dX0_arrange_36 : decode cX0_arrange 36 = .ok (.iload_n 2, 1) := by decide +kernel
theorem dX0_arrange_37 : decode cX0_arrange 37 = .ok (.iconst 0, 1) := by decide +kernel
theorem dX0_arrange_38 : decode cX0_arrange 38 = .ok (.getstatic 38, 3) := by decide +kernel
theorem dX0_arrange_41 : decode cX0_arrange 41 = .ok (.iload_n 2, 1) := by decide +kernel
theorem dX0_arrange_42 : decode cX0_arrange 42 = .ok (.iaload, 1) := by decide +kernel
theorem dX0_arrange_43 : decode cX0_arrange 43 = .ok (.iload_n 1, 1) := by decide +kernel
theorem dX0_arrange_44 : decode cX0_arrange 44 = .ok (.invokevirtual 41, 3) := by decide +kernel
theorem dX0_arrange_47 : decode cX0_arrange 47 = .ok (.aload_n 0, 1) := by decide +kernel
theorem dX0_arrange_48 : decode cX0_arrange 48 = .ok (.bipush 6, 2) := by decide +kernel
theorem dX0_arrange_50 : decode cX0_arrange 50 = .ok (.iload_n 2, 1) := by decide +kernel
theorem dX0_arrange_51 : decode cX0_arrange 51 = .ok (.iadd, 1) := by decide +kernel
theorem dX0_arrange_52 : decode cX0_arrange 52 = .ok (.iconst 0, 1) := by decide +kernel
theorem dX0_arrange_53 : decode cX0_arrange 53 = .ok (.iconst 4, 1) := by decide +kernel
theorem dX0_arrange_54 : decode cX0_arrange 54 = .ok (.iload_n 1, 1) := by decide +kernel
theorem dX0_arrange_55 : decode cX0_arrange 55 = .ok (.invokevirtual 41, 3) := by decide +kernel
theorem dX0_arrange_58 : decode cX0_arrange 58 = .ok (.aload_n 0, 1) := by decide +kernel
theorem dX0_arrange_59 : decode cX0_arrange 59 = .ok (.bipush 24, 2) := by decide +kernel
theorem dX0_arrange_61 : decode cX0_arrange 61 = .ok (.iload_n 2, 1) := by decide +kernel
theorem dX0_arrange_62 : decode cX0_arrange 62 = .ok (.iadd, 1) := by decide +kernel
theorem dX0_arrange_63 : decode cX0_arrange 63 = .ok (.iconst 1, 1) := by decide +kernel
theorem dX0_arrange_64 : decode cX0_arrange 64 = .ok (.iconst 4, 1) := by decide +kernel
theorem dX0_arrange_65 : decode cX0_arrange 65 = .ok (.iload_n 1, 1) := by decide +kernel
theorem dX0_arrange_66 : decode cX0_arrange 66 = .ok (.invokevirtual 41, 3) := by decide +kernel
theorem dX0_arrange_69 : decode cX0_arrange 69 = .ok (.aload_n 0, 1) := by decide +kernel
theorem dX0_arrange_70 : decode cX0_arrange 70 = .ok (.bipush 30, 2) := by decide +kernel
theorem dX0_arrange_72 : decode cX0_arrange 72 = .ok (.iload_n 2, 1) := by decide +kernel
theorem dX0_arrange_73 : decode cX0_arrange 73 = .ok (.iadd, 1) := by decide +kernel
theorem dX0_arrange_74 : decode cX0_arrange 74 = .ok (.iconst 1, 1) := by decide +kernel
theorem dX0_arrange_75 : decode cX0_arrange 75 = .ok (.getstatic 38, 3) := by decide +kernel
theorem dX0_arrange_78 : decode cX0_arrange 78 = .ok (.iload_n 2, 1) := by decide +kernel
theorem dX0_arrange_79 : decode cX0_arrange 79 = .ok (.iaload, 1) := by decide +kernel
theorem dX0_arrange_80 : decode cX0_arrange 80 = .ok (.iload_n 1, 1) := by decide +kernel
theorem dX0_arrange_81 : decode cX0_arrange 81 = .ok (.invokevirtual 41, 3) := by decide +kernel
theorem dX0_arrange_84 : decode cX0_arrange 84 = .ok (.iinc 2 1, 3) := by decide +kernel
theorem dX0_arrange_87 : decode cX0_arrange 87 = .ok (.goto (-60), 3) := by decide +kernel
theorem dX0_arrange_90 : decode cX0_arrange 90 = .ok (.iconst 0, 1) := by decide +kernel
theorem dX0_arrange_91 : decode cX0_arrange 91 = .ok (.istore_n 2, 1) := by decide +kernel
theorem dX0_arrange_92 : decode cX0_arrange 92 = .ok (.iload_n 2, 1) := by decide +kernel
theorem dX0_arrange_93 : decode cX0_arrange 93 = .ok (.getstatic 45, 3) := by decide +kernel
theorem dX0_arrange_96 : decode cX0_arrange 96 = .ok (.arraylength, 1) := by decide +kernel
theorem dX0_arrange_97 : decode cX0_arrange 97 = .ok (.if_icmp .ge 19, 3) := by decide +kernel
theorem dX0_arrange_100 : decode cX0_arrange 100 = .ok (.aload_n 0, 1) := by decide +kernel
theorem dX0_arrange_101 : decode cX0_arrange 101 = .ok (.getstatic 45, 3) := by decide +kernel
theorem dX0_arrange_104 : decode cX0_arrange 104 = .ok (.iload_n 2, 1) := by decide +kernel
theorem dX0_arrange_105 : decode cX0_arrange 105 = .ok (.iaload, 1) := by decide +kernel
theorem dX0_arrange_106 : decode cX0_arrange 106 = .ok (.iconst 1, 1) := by decide +kernel
theorem dX0_arrange_107 : decode cX0_arrange 107 = .ok (.invokevirtual 34, 3) := by decide +kernel
theorem dX0_arrange_110 : decode cX0_arrange 110 = .ok (.iinc 2 1, 3) := by decide +kernel
theorem dX0_arrange_113 : decode cX0_arrange 113 = .ok (.goto (-21), 3) := by decide +kernel
theorem dX0_arrange_116 : decode cX0_arrange 116 = .ok (.return_, 1) := by decide +kernel
theorem dX0_place_0 : decode cX0_place 0 = .ok (.iload_n 1, 1) := by decide +kernel
theorem dX0_place_1 : decode cX0_place 1 = .ok (.invokestatic 48, 3) := by decide +kernel
theorem dX0_place_4 : decode cX0_place 4 = .ok (.ifCond .eq 25, 3) := by decide +kernel
theorem dX0_place_7 : decode cX0_place 7 = .ok (.aload_n 0, 1) := by decide +kernel
theorem dX0_place_8 : decode cX0_place 8 = .ok (.getfield 9, 3) := by decide +kernel
theorem dX0_place_11 : decode cX0_place 11 = .ok (.iload_n 1, 1) := by decide +kernel
theorem dX0_place_12 : decode cX0_place 12 = .ok (.iload_n 2, 1) := by decide +kernel
theorem dX0_place_13 : decode cX0_place 13 = .ok (.iastore, 1) := by decide +kernel
theorem dX0_place_14 : decode cX0_place 14 = .ok (.aload_n 0, 1) := by decide +kernel
theorem dX0_place_15 : decode cX0_place 15 = .ok (.getfield 15, 3) := by decide +kernel
theorem dX0_place_18 : decode cX0_place 18 = .ok (.iload_n 1, 1) := by decide +kernel
theorem dX0_place_19 : decode cX0_place 19 = .ok (.iload_n 3, 1) := by decide +kernel
theorem dX0_place_20 : decode cX0_place 20 = .ok (.iastore, 1) := by decide +kernel
theorem dX0_place_21 : decode cX0_place 21 = .ok (.aload_n 0, 1) := by decide +kernel
theorem dX0_place_22 : decode cX0_place 22 = .ok (.getfield 18, 3) := by decide +kernel
theorem dX0_place_25 : decode cX0_place 25 = .ok (.iload_n 1, 1) := by decide +kernel
theorem dX0_place_26 : decode cX0_place 26 = .ok (.iload 4, 2) := by decide +kernel
theorem dX0_place_28 : decode cX0_place 28 = .ok (.iastore, 1) := by decide +kernel
theorem dX0_place_29 : decode cX0_place 29 = .ok (.return_, 1) := by decide +kernel
theorem dX0_empty_0 : decode cX0_empty 0 = .ok (.aload_n 0, 1) := by decide +kernel
theorem dX0_empty_1 : decode cX0_empty 1 = .ok (.iload_n 1, 1) := by decide +kernel
theorem dX0_empty_2 : decode cX0_empty 2 = .ok (.iconst (-1), 1) := by decide +kernel
theorem dX0_empty_3 : decode cX0_empty 3 = .ok (.iconst 0, 1) := by decide +kernel
theorem dX0_empty_4 : decode cX0_empty 4 = .ok (.iconst 0, 1) := by decide +kernel
theorem dX0_empty_5 : decode cX0_empty 5 = .ok (.invokevirtual 41, 3) := by decide +kernel
theorem dX0_empty_8 : decode cX0_empty 8 = .ok (.return_, 1) := by decide +kernel
theorem dX0_changeSpring_0 : decode cX0_changeSpring 0 = .ok (.iload_n 1, 1) := by decide +kernel
theorem dX0_changeSpring_1 : decode cX0_changeSpring 1 = .ok (.invokestatic 48, 3) := by decide +kernel
theorem dX0_changeSpring_4 : decode cX0_changeSpring 4 = .ok (.ifCond .eq 10, 3) := by decide +kernel
theorem dX0_changeSpring_7 : decode cX0_changeSpring 7 = .ok (.aload_n 0, 1) := by decide +kernel
theorem dX0_changeSpring_8 : decode cX0_changeSpring 8 = .ok (.getfield 18, 3) := by decide +kernel
theorem dX0_changeSpring_11 : decode cX0_changeSpring 11 = .ok (.iload_n 1, 1) := by decide +kernel
theorem dX0_changeSpring_12 : decode cX0_changeSpring 12 = .ok (.iload_n 2, 1) := by decide +kernel
theorem dX0_changeSpring_13 : decode cX0_changeSpring 13 = .ok (.iastore, 1) := by decide +kernel
theorem dX0_changeSpring_14 : decode cX0_changeSpring 14 = .ok (.return_, 1) := by decide +kernel
theorem dX0_markTower_0 : decode cX0_markTower 0 = .ok (.iload_n 1, 1) := by decide +kernel
theorem dX0_markTower_1 : decode cX0_markTower 1 = .ok (.invokestatic 48, 3) := by decide +kernel
theorem dX0_markTower_4 : decode cX0_markTower 4 = .ok (.ifCond .eq 18, 3) := by decide +kernel
theorem dX0_markTower_7 : decode cX0_markTower 7 = .ok (.aload_n 0, 1) := by decide +kernel
theorem dX0_markTower_8 : decode cX0_markTower 8 = .ok (.getfield 21, 3) := by decide +kernel
theorem dX0_markTower_11 : decode cX0_markTower 11 = .ok (.iload_n 1, 1) := by decide +kernel
theorem dX0_markTower_12 : decode cX0_markTower 12 = .ok (.iload_n 2, 1) := by decide +kernel
theorem dX0_markTower_13 : decode cX0_markTower 13 = .ok (.ifCond .eq 7, 3) := by decide +kernel
theorem dX0_markTower_16 : decode cX0_markTower 16 = .ok (.iconst 1, 1) := by decide +kernel
theorem dX0_markTower_17 : decode cX0_markTower 17 = .ok (.goto 4, 3) := by decide +kernel
theorem dX0_markTower_20 : decode cX0_markTower 20 = .ok (.iconst 0, 1) := by decide +kernel
theorem dX0_markTower_21 : decode cX0_markTower 21 = .ok (.iastore, 1) := by decide +kernel
theorem dX0_markTower_22 : decode cX0_markTower 22 = .ok (.return_, 1) := by decide +kernel
theorem dX0_sideOn_0 : decode cX0_sideOn 0 = .ok (.iload_n 1, 1) := by decide +kernel
theorem dX0_sideOn_1 : decode cX0_sideOn 1 = .ok (.invokestatic 48, 3) := by decide +kernel
theorem dX0_sideOn_4 : decode cX0_sideOn 4 = .ok (.ifCond .eq 12, 3) := by decide +kernel
theorem dX0_sideOn_7 : decode cX0_sideOn 7 = .ok (.aload_n 0, 1) := by decide +kernel
theorem dX0_sideOn_8 : decode cX0_sideOn 8 = .ok (.getfield 9, 3) := by decide +kernel
theorem dX0_sideOn_11 : decode cX0_sideOn 11 = .ok (.iload_n 1, 1) := by decide +kernel
theorem dX0_sideOn_12 : decode cX0_sideOn 12 = .ok (.iaload, 1) := by decide +kernel
theorem dX0_sideOn_13 : decode cX0_sideOn 13 = .ok (.goto 4, 3) := by decide +kernel
theorem dX0_sideOn_16 : decode cX0_sideOn 16 = .ok (.iconst (-1), 1) := by decide +kernel
theorem dX0_sideOn_17 : decode cX0_sideOn 17 = .ok (.ireturn, 1) := by decide +kernel
theorem dX0_hasPiece_0 : decode cX0_hasPiece 0 = .ok (.aload_n 0, 1) := by decide +kernel
theorem dX0_hasPiece_1 : decode cX0_hasPiece 1 = .ok (.iload_n 1, 1) := by decide +kernel
theorem dX0_hasPiece_2 : decode cX0_hasPiece 2 = .ok (.invokevirtual 52, 3) := by decide +kernel
theorem dX0_hasPiece_5 : decode cX0_hasPiece 5 = .ok (.iconst (-1), 1) := by decide +kernel
theorem dX0_hasPiece_6 : decode cX0_hasPiece 6 = .ok (.if_icmp .eq 7, 3) := by decide +kernel
theorem dX0_hasPiece_9 : decode cX0_hasPiece 9 = .ok (.iconst 1, 1) := by decide +kernel
theorem dX0_hasPiece_10 : decode cX0_hasPiece 10 = .ok (.goto 4, 3) := by decide +kernel
theorem dX0_hasPiece_13 : decode cX0_hasPiece 13 = .ok (.iconst 0, 1) := by decide +kernel
theorem dX0_hasPiece_14 : decode cX0_hasPiece 14 = .ok (.ireturn, 1) := by decide +kernel
theorem dX0_kindOn_0 : decode cX0_kindOn 0 = .ok (.iload_n 1, 1) := by decide +kernel
theorem dX0_kindOn_1 : decode cX0_kindOn 1 = .ok (.invokestatic 48, 3) := by decide +kernel
theorem dX0_kindOn_4 : decode cX0_kindOn 4 = .ok (.ifCond .eq 12, 3) := by decide +kernel
theorem dX0_kindOn_7 : decode cX0_kindOn 7 = .ok (.aload_n 0, 1) := by decide +kernel
theorem dX0_kindOn_8 : decode cX0_kindOn 8 = .ok (.getfield 15, 3) := by decide +kernel
theorem dX0_kindOn_11 : decode cX0_kindOn 11 = .ok (.iload_n 1, 1) := by decide +kernel
theorem dX0_kindOn_12 : decode cX0_kindOn 12 = .ok (.iaload, 1) := by decide +kernel
theorem dX0_kindOn_13 : decode cX0_kindOn 13 = .ok (.goto 4, 3) := by decide +kernel
theorem dX0_kindOn_16 : decode cX0_kindOn 16 = .ok (.iconst 0, 1) := by decide +kernel
theorem dX0_kindOn_17 : decode cX0_kindOn 17 = .ok (.ireturn, 1) := by decide +kernel
theorem dX0_springOn_0 : decode cX0_springOn 0 = .ok (.iload_n 1, 1) := by decide +kernel
theorem dX0_springOn_1 : decode cX0_springOn 1 = .ok (.invokestatic 48, 3) := by decide +kernel
theorem dX0_springOn_4 : decode cX0_springOn 4 = .ok (.ifCond .eq 12, 3) := by decide +kernel
theorem dX0_springOn_7 : decode cX0_springOn 7 = .ok (.aload_n 0, 1) := by decide +kernel
theorem dX0_springOn_8 : decode cX0_springOn 8 = .ok (.getfield 18, 3) := by decide +kernel
theorem dX0_springOn_11 : decode cX0_springOn 11 = .ok (.iload_n 1, 1) := by decide +kernel
theorem dX0_springOn_12 : decode cX0_springOn 12 = .ok (.iaload, 1) := by decide +kernel
theorem dX0_springOn_13 : decode cX0_springOn 13 = .ok (.goto 4, 3) := by decide +kernel
theorem dX0_springOn_16 : decode cX0_springOn 16 = .ok (.iconst 0, 1) := by decide +kernel
theorem dX0_springOn_17 : decode cX0_springOn 17 = .ok (.ireturn, 1) := by decide +kernel
theorem dX0_isTower_0 : decode cX0_isTower 0 = .ok (.iload_n 1, 1) := by decide +kernel
theorem dX0_isTower_1 : decode cX0_isTower 1 = .ok (.invokestatic 48, 3) := by decide +kernel
theorem dX0_isTower_4 : decode cX0_isTower 4 = .ok (.ifCond .eq 17, 3) := by decide +kernel
theorem dX0_isTower_7 : decode cX0_isTower 7 = .ok (.aload_n 0, 1) := by decide +kernel
theorem dX0_isTower_8 : decode cX0_isTower 8 = .ok (.getfield 21, 3) := by decide +kernel
theorem dX0_isTower_11 : decode cX0_isTower 11 = .ok (.iload_n 1, 1) := by decide +kernel
theorem dX0_isTower_12 : decode cX0_isTower 12 = .ok (.iaload, 1) := by decide +kernel
theorem dX0_isTower_13 : decode cX0_isTower 13 = .ok (.iconst 1, 1) := by decide +kernel
theorem dX0_isTower_14 : decode cX0_isTower 14 = .ok (.if_icmp .ne 7, 3) := by decide +kernel
theorem dX0_isTower_17 : decode cX0_isTower 17 = .ok (.iconst 1, 1) := by decide +kernel
theorem dX0_isTower_18 : decode cX0_isTower 18 = .ok (.goto 4, 3) := by decide +kernel
theorem dX0_isTower_21 : decode cX0_isTower 21 = .ok (.iconst 0, 1) := by decide +kernel
theorem dX0_isTower_22 : decode cX0_isTower 22 = .ok (.ireturn, 1) := by decide +kernel
theorem dX0_springsOf_0 : decode cX0_springsOf 0 = .ok (.iconst 0, 1) := by decide +kernel
theorem dX0_springsOf_1 : decode cX0_springsOf 1 = .ok (.istore_n 2, 1) := by decide +kernel
theorem dX0_springsOf_2 : decode cX0_springsOf 2 = .ok (.iconst 0, 1) := by decide +kernel
theorem dX0_springsOf_3 : decode cX0_springsOf 3 = .ok (.istore_n 3, 1) := by decide +kernel
theorem dX0_springsOf_4 : decode cX0_springsOf 4 = .ok (.iload_n 3, 1) := by decide +kernel
theorem dX0_springsOf_5 : decode cX0_springsOf 5 = .ok (.bipush 36, 2) := by decide +kernel
theorem dX0_springsOf_7 : decode cX0_springsOf 7 = .ok (.if_icmp .ge 28, 3) := by decide +kernel
theorem dX0_springsOf_10 : decode cX0_springsOf 10 = .ok (.aload_n 0, 1) := by decide +kernel
theorem dX0_springsOf_11 : decode cX0_springsOf 11 = .ok (.getfield 9, 3) := by decide +kernel
theorem dX0_springsOf_14 : decode cX0_springsOf 14 = .ok (.iload_n 3, 1) := by decide +kernel
theorem dX0_springsOf_15 : decode cX0_springsOf 15 = .ok (.iaload, 1) := by decide +kernel
theorem dX0_springsOf_16 : decode cX0_springsOf 16 = .ok (.iload_n 1, 1) := by decide +kernel
theorem dX0_springsOf_17 : decode cX0_springsOf 17 = .ok (.if_icmp .ne 12, 3) := by decide +kernel
theorem dX0_springsOf_20 : decode cX0_springsOf 20 = .ok (.iload_n 2, 1) := by decide +kernel
theorem dX0_springsOf_21 : decode cX0_springsOf 21 = .ok (.aload_n 0, 1) := by decide +kernel
theorem dX0_springsOf_22 : decode cX0_springsOf 22 = .ok (.getfield 18, 3) := by decide +kernel
theorem dX0_springsOf_25 : decode cX0_springsOf 25 = .ok (.iload_n 3, 1) := by decide +kernel
theorem dX0_springsOf_26 : decode cX0_springsOf 26 = .ok (.iaload, 1) := by decide +kernel
theorem dX0_springsOf_27 : decode cX0_springsOf 27 = .ok (.iadd, 1) := by decide +kernel
theorem dX0_springsOf_28 : decode cX0_springsOf 28 = .ok (.istore_n 2, 1) := by decide +kernel
theorem dX0_springsOf_29 : decode cX0_springsOf 29 = .ok (.iinc 3 1, 3) := by decide +kernel
theorem dX0_springsOf_32 : decode cX0_springsOf 32 = .ok (.goto (-28), 3) := by decide +kernel
theorem dX0_springsOf_35 : decode cX0_springsOf 35 = .ok (.iload_n 2, 1) := by decide +kernel
theorem dX0_springsOf_36 : decode cX0_springsOf 36 = .ok (.ireturn, 1) := by decide +kernel
theorem dX0_springsInAll_0 : decode cX0_springsInAll 0 = .ok (.aload_n 0, 1) := by decide +kernel
theorem dX0_springsInAll_1 : decode cX0_springsInAll 1 = .ok (.iconst 0, 1) := by decide +kernel
theorem dX0_springsInAll_2 : decode cX0_springsInAll 2 = .ok (.invokevirtual 56, 3) := by decide +kernel
theorem dX0_springsInAll_5 : decode cX0_springsInAll 5 = .ok (.aload_n 0, 1) := by decide +kernel
theorem dX0_springsInAll_6 : decode cX0_springsInAll 6 = .ok (.iconst 1, 1) := by decide +kernel
theorem dX0_springsInAll_7 : decode cX0_springsInAll 7 = .ok (.invokevirtual 56, 3) := by decide +kernel
theorem dX0_springsInAll_10 : decode cX0_springsInAll 10 = .ok (.iadd, 1) := by decide +kernel
theorem dX0_springsInAll_11 : decode cX0_springsInAll 11 = .ok (.ireturn, 1) := by decide +kernel
theorem dX0_piecesInAll_0 : decode cX0_piecesInAll 0 = .ok (.iconst 0, 1) := by decide +kernel
theorem dX0_piecesInAll_1 : decode cX0_piecesInAll 1 = .ok (.istore_n 1, 1) := by decide +kernel
theorem dX0_piecesInAll_2 : decode cX0_piecesInAll 2 = .ok (.iconst 0, 1) := by decide +kernel
theorem dX0_piecesInAll_3 : decode cX0_piecesInAll 3 = .ok (.istore_n 2, 1) := by decide +kernel
theorem dX0_piecesInAll_4 : decode cX0_piecesInAll 4 = .ok (.iload_n 2, 1) := by decide +kernel
theorem dX0_piecesInAll_5 : decode cX0_piecesInAll 5 = .ok (.bipush 36, 2) := by decide +kernel
theorem dX0_piecesInAll_7 : decode cX0_piecesInAll 7 = .ok (.if_icmp .ge 22, 3) := by decide +kernel
theorem dX0_piecesInAll_10 : decode cX0_piecesInAll 10 = .ok (.aload_n 0, 1) := by decide +kernel
theorem dX0_piecesInAll_11 : decode cX0_piecesInAll 11 = .ok (.getfield 9, 3) := by decide +kernel
theorem dX0_piecesInAll_14 : decode cX0_piecesInAll 14 = .ok (.iload_n 2, 1) := by decide +kernel
theorem dX0_piecesInAll_15 : decode cX0_piecesInAll 15 = .ok (.iaload, 1) := by decide +kernel
theorem dX0_piecesInAll_16 : decode cX0_piecesInAll 16 = .ok (.iconst (-1), 1) := by decide +kernel
theorem dX0_piecesInAll_17 : decode cX0_piecesInAll 17 = .ok (.if_icmp .eq 6, 3) := by decide +kernel
theorem dX0_piecesInAll_20 : decode cX0_piecesInAll 20 = .ok (.iinc 1 1, 3) := by decide +kernel
theorem dX0_piecesInAll_23 : decode cX0_piecesInAll 23 = .ok (.iinc 2 1, 3) := by decide +kernel
theorem dX0_piecesInAll_26 : decode cX0_piecesInAll 26 = .ok (.goto (-22), 3) := by decide +kernel
theorem dX0_piecesInAll_29 : decode cX0_piecesInAll 29 = .ok (.iload_n 1, 1) := by decide +kernel
theorem dX0_piecesInAll_30 : decode cX0_piecesInAll 30 = .ok (.ireturn, 1) := by decide +kernel
theorem dX0_towersInAll_0 : decode cX0_towersInAll 0 = .ok (.iconst 0, 1) := by decide +kernel
theorem dX0_towersInAll_1 : decode cX0_towersInAll 1 = .ok (.istore_n 1, 1) := by decide +kernel
theorem dX0_towersInAll_2 : decode cX0_towersInAll 2 = .ok (.iconst 0, 1) := by decide +kernel
theorem dX0_towersInAll_3 : decode cX0_towersInAll 3 = .ok (.istore_n 2, 1) := by decide +kernel
theorem dX0_towersInAll_4 : decode cX0_towersInAll 4 = .ok (.iload_n 2, 1) := by decide +kernel
theorem dX0_towersInAll_5 : decode cX0_towersInAll 5 = .ok (.bipush 36, 2) := by decide +kernel
theorem dX0_towersInAll_7 : decode cX0_towersInAll 7 = .ok (.if_icmp .ge 18, 3) := by decide +kernel
theorem dX0_towersInAll_10 : decode cX0_towersInAll 10 = .ok (.iload_n 1, 1) := by decide +kernel
theorem dX0_towersInAll_11 : decode cX0_towersInAll 11 = .ok (.aload_n 0, 1) := by decide +kernel
theorem dX0_towersInAll_12 : decode cX0_towersInAll 12 = .ok (.getfield 21, 3) := by decide +kernel
theorem dX0_towersInAll_15 : decode cX0_towersInAll 15 = .ok (.iload_n 2, 1) := by decide +kernel
theorem dX0_towersInAll_16 : decode cX0_towersInAll 16 = .ok (.iaload, 1) := by decide +kernel
theorem dX0_towersInAll_17 : decode cX0_towersInAll 17 = .ok (.iadd, 1) := by decide +kernel
theorem dX0_towersInAll_18 : decode cX0_towersInAll 18 = .ok (.istore_n 1, 1) := by decide +kernel
theorem dX0_towersInAll_19 : decode cX0_towersInAll 19 = .ok (.iinc 2 1, 3) := by decide +kernel
theorem dX0_towersInAll_22 : decode cX0_towersInAll 22 = .ok (.goto (-18), 3) := by decide +kernel
theorem dX0_towersInAll_25 : decode cX0_towersInAll 25 = .ok (.iload_n 1, 1) := by decide +kernel
theorem dX0_towersInAll_26 : decode cX0_towersInAll 26 = .ok (.ireturn, 1) := by decide +kernel
theorem dX0_movesOf_0 : decode cX0_movesOf 0 = .ok (.iconst 0, 1) := by decide +kernel
theorem dX0_movesOf_1 : decode cX0_movesOf 1 = .ok (.istore_n 2, 1) := by decide +kernel
theorem dX0_movesOf_2 : decode cX0_movesOf 2 = .ok (.iconst 0, 1) := by decide +kernel
theorem dX0_movesOf_3 : decode cX0_movesOf 3 = .ok (.istore_n 3, 1) := by decide +kernel
theorem dX0_movesOf_4 : decode cX0_movesOf 4 = .ok (.iload_n 3, 1) := by decide +kernel
theorem dX0_movesOf_5 : decode cX0_movesOf 5 = .ok (.bipush 36, 2) := by decide +kernel
theorem dX0_movesOf_7 : decode cX0_movesOf 7 = .ok (.if_icmp .ge 48, 3) := by decide +kernel
theorem dX0_movesOf_10 : decode cX0_movesOf 10 = .ok (.iconst 0, 1) := by decide +kernel
theorem dX0_movesOf_11 : decode cX0_movesOf 11 = .ok (.istore 4, 2) := by decide +kernel
theorem dX0_movesOf_13 : decode cX0_movesOf 13 = .ok (.aload_n 0, 1) := by decide +kernel
theorem dX0_movesOf_14 : decode cX0_movesOf 14 = .ok (.getfield 9, 3) := by decide +kernel
theorem dX0_movesOf_17 : decode cX0_movesOf 17 = .ok (.iload_n 3, 1) := by decide +kernel
theorem dX0_movesOf_18 : decode cX0_movesOf 18 = .ok (.iaload, 1) := by decide +kernel
theorem dX0_movesOf_19 : decode cX0_movesOf 19 = .ok (.iload_n 1, 1) := by decide +kernel
theorem dX0_movesOf_20 : decode cX0_movesOf 20 = .ok (.if_icmp .ne 29, 3) := by decide +kernel
theorem dX0_movesOf_23 : decode cX0_movesOf 23 = .ok (.iload 4, 2) := by decide +kernel
theorem dX0_movesOf_25 : decode cX0_movesOf 25 = .ok (.bipush 36, 2) := by decide +kernel
theorem dX0_movesOf_27 : decode cX0_movesOf 27 = .ok (.if_icmp .ge 22, 3) := by decide +kernel
theorem dX0_movesOf_30 : decode cX0_movesOf 30 = .ok (.aload_n 0, 1) := by decide +kernel
theorem dX0_movesOf_31 : decode cX0_movesOf 31 = .ok (.iload_n 3, 1) := by decide +kernel
theorem dX0_movesOf_32 : decode cX0_movesOf 32 = .ok (.iload 4, 2) := by decide +kernel
theorem dX0_movesOf_34 : decode cX0_movesOf 34 = .ok (.invokevirtual 59, 3) := by decide +kernel
theorem dX0_movesOf_37 : decode cX0_movesOf 37 = .ok (.ifCond .eq 6, 3) := by decide +kernel
theorem dX0_movesOf_40 : decode cX0_movesOf 40 = .ok (.iinc 2 1, 3) := by decide +kernel
theorem dX0_movesOf_43 : decode cX0_movesOf 43 = .ok (.iinc 4 1, 3) := by decide +kernel
theorem dX0_movesOf_46 : decode cX0_movesOf 46 = .ok (.goto (-33), 3) := by decide +kernel
theorem dX0_movesOf_49 : decode cX0_movesOf 49 = .ok (.iinc 3 1, 3) := by decide +kernel
theorem dX0_movesOf_52 : decode cX0_movesOf 52 = .ok (.goto (-48), 3) := by decide +kernel
theorem dX0_movesOf_55 : decode cX0_movesOf 55 = .ok (.iload_n 2, 1) := by decide +kernel
theorem dX0_movesOf_56 : decode cX0_movesOf 56 = .ok (.ireturn, 1) := by decide +kernel
theorem dX0_movesFrom_0 : decode cX0_movesFrom 0 = .ok (.iconst 0, 1) := by decide +kernel
theorem dX0_movesFrom_1 : decode cX0_movesFrom 1 = .ok (.istore_n 2, 1) := by decide +kernel
theorem dX0_movesFrom_2 : decode cX0_movesFrom 2 = .ok (.iconst 0, 1) := by decide +kernel
theorem dX0_movesFrom_3 : decode cX0_movesFrom 3 = .ok (.istore_n 3, 1) := by decide +kernel
theorem dX0_movesFrom_4 : decode cX0_movesFrom 4 = .ok (.iload_n 3, 1) := by decide +kernel
theorem dX0_movesFrom_5 : decode cX0_movesFrom 5 = .ok (.bipush 36, 2) := by decide +kernel
theorem dX0_movesFrom_7 : decode cX0_movesFrom 7 = .ok (.if_icmp .ge 21, 3) := by decide +kernel
theorem dX0_movesFrom_10 : decode cX0_movesFrom 10 = .ok (.aload_n 0, 1) := by decide +kernel
theorem dX0_movesFrom_11 : decode cX0_movesFrom 11 = .ok (.iload_n 1, 1) := by decide +kernel
theorem dX0_movesFrom_12 : decode cX0_movesFrom 12 = .ok (.iload_n 3, 1) := by decide +kernel
theorem dX0_movesFrom_13 : decode cX0_movesFrom 13 = .ok (.invokevirtual 59, 3) := by decide +kernel
theorem dX0_movesFrom_16 : decode cX0_movesFrom 16 = .ok (.ifCond .eq 6, 3) := by decide +kernel
theorem dX0_movesFrom_19 : decode cX0_movesFrom 19 = .ok (.iinc 2 1, 3) := by decide +kernel
theorem dX0_movesFrom_22 : decode cX0_movesFrom 22 = .ok (.iinc 3 1, 3) := by decide +kernel
theorem dX0_movesFrom_25 : decode cX0_movesFrom 25 = .ok (.goto (-21), 3) := by decide +kernel
theorem dX0_movesFrom_28 : decode cX0_movesFrom 28 = .ok (.iload_n 2, 1) := by decide +kernel
theorem dX0_movesFrom_29 : decode cX0_movesFrom 29 = .ok (.ireturn, 1) := by decide +kernel
theorem dX0_canMove_0 : decode cX0_canMove 0 = .ok (.aload_n 0, 1) := by decide +kernel
theorem dX0_canMove_1 : decode cX0_canMove 1 = .ok (.iload_n 1, 1) := by decide +kernel
theorem dX0_canMove_2 : decode cX0_canMove 2 = .ok (.iload_n 2, 1) := by decide +kernel
theorem dX0_canMove_3 : decode cX0_canMove 3 = .ok (.invokevirtual 63, 3) := by decide +kernel
theorem dX0_canMove_6 : decode cX0_canMove 6 = .ok (.istore_n 3, 1) := by decide +kernel
theorem dX0_canMove_7 : decode cX0_canMove 7 = .ok (.iload_n 3, 1) := by decide +kernel
theorem dX0_canMove_8 : decode cX0_canMove 8 = .ok (.ifCond .le 16, 3) := by decide +kernel
theorem dX0_canMove_11 : decode cX0_canMove 11 = .ok (.iload_n 3, 1) := by decide +kernel
theorem dX0_canMove_12 : decode cX0_canMove 12 = .ok (.aload_n 0, 1) := by decide +kernel
theorem dX0_canMove_13 : decode cX0_canMove 13 = .ok (.iload_n 1, 1) := by decide +kernel
theorem dX0_canMove_14 : decode cX0_canMove 14 = .ok (.invokevirtual 67, 3) := by decide +kernel
theorem dX0_canMove_17 : decode cX0_canMove 17 = .ok (.if_icmp .gt 7, 3) := by decide +kernel
theorem dX0_canMove_20 : decode cX0_canMove 20 = .ok (.iconst 1, 1) := by decide +kernel
theorem dX0_canMove_21 : decode cX0_canMove 21 = .ok (.goto 4, 3) := by decide +kernel
theorem dX0_canMove_24 : decode cX0_canMove 24 = .ok (.iconst 0, 1) := by decide +kernel
theorem dX0_canMove_25 : decode cX0_canMove 25 = .ok (.ireturn, 1) := by decide +kernel
theorem dX0_price_0 : decode cX0_price 0 = .ok (.aload_n 0, 1) := by decide +kernel
theorem dX0_price_1 : decode cX0_price 1 = .ok (.iload_n 1, 1) := by decide +kernel
theorem dX0_price_2 : decode cX0_price 2 = .ok (.invokevirtual 52, 3) := by decide +kernel
theorem dX0_price_5 : decode cX0_price 5 = .ok (.istore_n 3, 1) := by decide +kernel
theorem dX0_price_6 : decode cX0_price 6 = .ok (.aload_n 0, 1) := by decide +kernel
theorem dX0_price_7 : decode cX0_price 7 = .ok (.iload_n 2, 1) := by decide +kernel
theorem dX0_price_8 : decode cX0_price 8 = .ok (.invokevirtual 52, 3) := by decide +kernel
theorem dX0_price_11 : decode cX0_price 11 = .ok (.istore 4, 2) := by decide +kernel
theorem dX0_price_13 : decode cX0_price 13 = .ok (.iload_n 3, 1) := by decide +kernel
theorem dX0_price_14 : decode cX0_price 14 = .ok (.iconst (-1), 1) := by decide +kernel
theorem dX0_price_15 : decode cX0_price 15 = .ok (.if_icmp .eq 9, 3) := by decide +kernel
theorem dX0_price_18 : decode cX0_price 18 = .ok (.iload 4, 2) := by decide +kernel
theorem dX0_price_20 : decode cX0_price 20 = .ok (.iload_n 3, 1) := by decide +kernel
theorem dX0_price_21 : decode cX0_price 21 = .ok (.if_icmp .ne 5, 3) := by decide +kernel
theorem dX0_price_24 : decode cX0_price 24 = .ok (.iconst 0, 1) := by decide +kernel
theorem dX0_price_25 : decode cX0_price 25 = .ok (.ireturn, 1) := by decide +kernel
theorem dX0_price_26 : decode cX0_price 26 = .ok (.iload_n 2, 1) := by decide +kernel
theorem dX0_price_27 : decode cX0_price 27 = .ok (.bipush 6, 2) := by decide +kernel
theorem dX0_price_29 : decode cX0_price 29 = .ok (.irem, 1) := by decide +kernel
theorem dX0_price_30 : decode cX0_price 30 = .ok (.iload_n 1, 1) := by decide +kernel
theorem dX0_price_31 : decode cX0_price 31 = .ok (.bipush 6, 2) := by decide +kernel
theorem dX0_price_33 : decode cX0_price 33 = .ok (.irem, 1) := by decide +kernel
theorem dX0_price_34 : decode cX0_price 34 = .ok (.isub, 1) := by decide +kernel
theorem dX0_price_35 : decode cX0_price 35 = .ok (.istore 5, 2) := by decide +kernel
theorem dX0_price_37 : decode cX0_price 37 = .ok (.iload_n 2, 1) := by decide +kernel
theorem dX0_price_38 : decode cX0_price 38 = .ok (.bipush 6, 2) := by decide +kernel
theorem dX0_price_40 : decode cX0_price 40 = .ok (.idiv, 1) := by decide +kernel
theorem dX0_price_41 : decode cX0_price 41 = .ok (.iload_n 1, 1) := by decide +kernel
theorem dX0_price_42 : decode cX0_price 42 = .ok (.bipush 6, 2) := by decide +kernel
theorem dX0_price_44 : decode cX0_price 44 = .ok (.idiv, 1) := by decide +kernel
theorem dX0_price_45 : decode cX0_price 45 = .ok (.isub, 1) := by decide +kernel
theorem dX0_price_46 : decode cX0_price 46 = .ok (.istore 6, 2) := by decide +kernel
theorem dX0_price_48 : decode cX0_price 48 = .ok (.iload 5, 2) := by decide +kernel
theorem dX0_price_50 : decode cX0_price 50 = .ok (.invokestatic 70, 3) := by decide +kernel
theorem dX0_price_53 : decode cX0_price 53 = .ok (.istore 7, 2) := by decide +kernel
theorem dX0_price_55 : decode cX0_price 55 = .ok (.iload 6, 2) := by decide +kernel
theorem dX0_price_57 : decode cX0_price 57 = .ok (.invokestatic 70, 3) := by decide +kernel
theorem dX0_price_60 : decode cX0_price 60 = .ok (.istore 8, 2) := by decide +kernel
theorem dX0_price_62 : decode cX0_price 62 = .ok (.aload_n 0, 1) := by decide +kernel
theorem dX0_price_63 : decode cX0_price 63 = .ok (.iload_n 1, 1) := by decide +kernel
theorem dX0_price_64 : decode cX0_price 64 = .ok (.invokevirtual 75, 3) := by decide +kernel
theorem dX0_price_67 : decode cX0_price 67 = .ok (.tableswitch 106 0 3 #[29, 46, 70, 91], 29) := by decide +kernel
theorem dX0_price_96 : decode cX0_price 96 = .ok (.iload 7, 2) := by decide +kernel
theorem dX0_price_98 : decode cX0_price 98 = .ok (.iload 8, 2) := by decide +kernel
theorem dX0_price_100 : decode cX0_price 100 = .ok (.invokestatic 78, 3) := by decide +kernel
theorem dX0_price_103 : decode cX0_price 103 = .ok (.iconst 1, 1) := by decide +kernel
theorem dX0_price_104 : decode cX0_price 104 = .ok (.if_icmp .ne 7, 3) := by decide +kernel
theorem dX0_price_107 : decode cX0_price 107 = .ok (.iconst 1, 1) := by decide +kernel
theorem dX0_price_108 : decode cX0_price 108 = .ok (.goto 4, 3) := by decide +kernel
theorem dX0_price_111 : decode cX0_price 111 = .ok (.iconst 0, 1) := by decide +kernel
theorem dX0_price_112 : decode cX0_price 112 = .ok (.ireturn, 1) := by decide +kernel
theorem dX0_price_113 : decode cX0_price 113 = .ok (.iload 7, 2) := by decide +kernel
theorem dX0_price_115 : decode cX0_price 115 = .ok (.ifCond .eq 8, 3) := by decide +kernel
theorem dX0_price_118 : decode cX0_price 118 = .ok (.iload 8, 2) := by decide +kernel
theorem dX0_price_120 : decode cX0_price 120 = .ok (.ifCond .ne 15, 3) := by decide +kernel
theorem dX0_price_123 : decode cX0_price 123 = .ok (.aload_n 0, 1) := by decide +kernel
theorem dX0_price_124 : decode cX0_price 124 = .ok (.iload_n 1, 1) := by decide +kernel
theorem dX0_price_125 : decode cX0_price 125 = .ok (.iload 5, 2) := by decide +kernel
theorem dX0_price_127 : decode cX0_price 127 = .ok (.iload 6, 2) := by decide +kernel
theorem dX0_price_129 : decode cX0_price 129 = .ok (.invokevirtual 81, 3) := by decide +kernel
theorem dX0_price_132 : decode cX0_price 132 = .ok (.goto 4, 3) := by decide +kernel
theorem dX0_price_135 : decode cX0_price 135 = .ok (.iconst 0, 1) := by decide +kernel
theorem dX0_price_136 : decode cX0_price 136 = .ok (.ireturn, 1) := by decide +kernel
theorem dX0_price_137 : decode cX0_price 137 = .ok (.iload 7, 2) := by decide +kernel
theorem dX0_price_139 : decode cX0_price 139 = .ok (.iload 8, 2) := by decide +kernel
theorem dX0_price_141 : decode cX0_price 141 = .ok (.if_icmp .ne 15, 3) := by decide +kernel
theorem dX0_price_144 : decode cX0_price 144 = .ok (.aload_n 0, 1) := by decide +kernel
theorem dX0_price_145 : decode cX0_price 145 = .ok (.iload_n 1, 1) := by decide +kernel
theorem dX0_price_146 : decode cX0_price 146 = .ok (.iload 5, 2) := by decide +kernel
theorem dX0_price_148 : decode cX0_price 148 = .ok (.iload 6, 2) := by decide +kernel
theorem dX0_price_150 : decode cX0_price 150 = .ok (.invokevirtual 81, 3) := by decide +kernel
theorem dX0_price_153 : decode cX0_price 153 = .ok (.goto 4, 3) := by decide +kernel
theorem dX0_price_156 : decode cX0_price 156 = .ok (.iconst 0, 1) := by decide +kernel
theorem dX0_price_157 : decode cX0_price 157 = .ok (.ireturn, 1) := by decide +kernel
theorem dX0_price_158 : decode cX0_price 158 = .ok (.iload 7, 2) := by decide +kernel
theorem dX0_price_160 : decode cX0_price 160 = .ok (.iload 8, 2) := by decide +kernel
theorem dX0_price_162 : decode cX0_price 162 = .ok (.imul, 1) := by decide +kernel
theorem dX0_price_163 : decode cX0_price 163 = .ok (.iconst 2, 1) := by decide +kernel
theorem dX0_price_164 : decode cX0_price 164 = .ok (.if_icmp .ne 7, 3) := by decide +kernel
theorem dX0_price_167 : decode cX0_price 167 = .ok (.iconst 2, 1) := by decide +kernel
theorem dX0_price_168 : decode cX0_price 168 = .ok (.goto 4, 3) := by decide +kernel
theorem dX0_price_171 : decode cX0_price 171 = .ok (.iconst 0, 1) := by decide +kernel
theorem dX0_price_172 : decode cX0_price 172 = .ok (.ireturn, 1) := by decide +kernel
theorem dX0_price_173 : decode cX0_price 173 = .ok (.iload_n 3, 1) := by decide +kernel
theorem dX0_price_174 : decode cX0_price 174 = .ok (.ifCond .ne 7, 3) := by decide +kernel
theorem dX0_price_177 : decode cX0_price 177 = .ok (.iconst 1, 1) := by decide +kernel
theorem dX0_price_178 : decode cX0_price 178 = .ok (.goto 4, 3) := by decide +kernel
theorem dX0_price_181 : decode cX0_price 181 = .ok (.iconst (-1), 1) := by decide +kernel
theorem dX0_price_182 : decode cX0_price 182 = .ok (.istore 9, 2) := by decide +kernel
theorem dX0_price_184 : decode cX0_price 184 = .ok (.iload 6, 2) := by decide +kernel
theorem dX0_price_186 : decode cX0_price 186 = .ok (.iload 9, 2) := by decide +kernel
theorem dX0_price_188 : decode cX0_price 188 = .ok (.if_icmp .ne 23, 3) := by decide +kernel
theorem dX0_price_191 : decode cX0_price 191 = .ok (.iload 7, 2) := by decide +kernel
theorem dX0_price_193 : decode cX0_price 193 = .ok (.iload 4, 2) := by decide +kernel
theorem dX0_price_195 : decode cX0_price 195 = .ok (.iconst (-1), 1) := by decide +kernel
theorem dX0_price_196 : decode cX0_price 196 = .ok (.if_icmp .ne 7, 3) := by decide +kernel
theorem dX0_price_199 : decode cX0_price 199 = .ok (.iconst 0, 1) := by decide +kernel
theorem dX0_price_200 : decode cX0_price 200 = .ok (.goto 4, 3) := by decide +kernel
theorem dX0_price_203 : decode cX0_price 203 = .ok (.iconst 1, 1) := by decide +kernel
theorem dX0_price_204 : decode cX0_price 204 = .ok (.if_icmp .ne 7, 3) := by decide +kernel
theorem dX0_price_207 : decode cX0_price 207 = .ok (.iconst 1, 1) := by decide +kernel
theorem dX0_price_208 : decode cX0_price 208 = .ok (.goto 4, 3) := by decide +kernel
theorem dX0_price_211 : decode cX0_price 211 = .ok (.iconst 0, 1) := by decide +kernel
theorem dX0_price_212 : decode cX0_price 212 = .ok (.ireturn, 1) := by decide +kernel
theorem dX0_priceAlong_0 : decode cX0_priceAlong 0 = .ok (.iload_n 2, 1) := by decide +kernel
theorem dX0_priceAlong_1 : decode cX0_priceAlong 1 = .ok (.invokestatic 70, 3) := by decide +kernel
theorem dX0_priceAlong_4 : decode cX0_priceAlong 4 = .ok (.iload_n 3, 1) := by decide +kernel
theorem dX0_priceAlong_5 : decode cX0_priceAlong 5 = .ok (.invokestatic 70, 3) := by decide +kernel
theorem dX0_priceAlong_8 : decode cX0_priceAlong 8 = .ok (.invokestatic 78, 3) := by decide +kernel
theorem dX0_priceAlong_11 : decode cX0_priceAlong 11 = .ok (.istore 4, 2) := by decide +kernel
theorem dX0_priceAlong_13 : decode cX0_priceAlong 13 = .ok (.bipush 6, 2) := by decide +kernel
theorem dX0_priceAlong_15 : decode cX0_priceAlong 15 = .ok (.iload_n 3, 1) := by decide +kernel
theorem dX0_priceAlong_16 : decode cX0_priceAlong 16 = .ok (.iconst 0, 1) := by decide +kernel
theorem dX0_priceAlong_17 : decode cX0_priceAlong 17 = .ok (.invokestatic 85, 3) := by decide +kernel
theorem dX0_priceAlong_20 : decode cX0_priceAlong 20 = .ok (.imul, 1) := by decide +kernel
theorem dX0_priceAlong_21 : decode cX0_priceAlong 21 = .ok (.iload_n 2, 1) := by decide +kernel
theorem dX0_priceAlong_22 : decode cX0_priceAlong 22 = .ok (.iconst 0, 1) := by decide +kernel
theorem dX0_priceAlong_23 : decode cX0_priceAlong 23 = .ok (.invokestatic 85, 3) := by decide +kernel
theorem dX0_priceAlong_26 : decode cX0_priceAlong 26 = .ok (.iadd, 1) := by decide +kernel
theorem dX0_priceAlong_27 : decode cX0_priceAlong 27 = .ok (.istore 5, 2) := by decide +kernel
theorem dX0_priceAlong_29 : decode cX0_priceAlong 29 = .ok (.iconst 1, 1) := by decide +kernel
theorem dX0_priceAlong_30 : decode cX0_priceAlong 30 = .ok (.istore 6, 2) := by decide +kernel
theorem dX0_priceAlong_32 : decode cX0_priceAlong 32 = .ok (.iload 6, 2) := by decide +kernel
theorem dX0_priceAlong_34 : decode cX0_priceAlong 34 = .ok (.iload 4, 2) := by decide +kernel
theorem dX0_priceAlong_36 : decode cX0_priceAlong 36 = .ok (.if_icmp .ge 43, 3) := by decide +kernel
theorem dX0_priceAlong_39 : decode cX0_priceAlong 39 = .ok (.iload_n 1, 1) := by decide +kernel
theorem dX0_priceAlong_40 : decode cX0_priceAlong 40 = .ok (.iload 6, 2) := by decide +kernel
theorem dX0_priceAlong_42 : decode cX0_priceAlong 42 = .ok (.iload 5, 2) := by decide +kernel
theorem dX0_priceAlong_44 : decode cX0_priceAlong 44 = .ok (.imul, 1) := by decide +kernel
theorem dX0_priceAlong_45 : decode cX0_priceAlong 45 = .ok (.iadd, 1) := by decide +kernel
theorem dX0_priceAlong_46 : decode cX0_priceAlong 46 = .ok (.istore 7, 2) := by decide +kernel
theorem dX0_priceAlong_48 : decode cX0_priceAlong 48 = .ok (.iload 7, 2) := by decide +kernel
theorem dX0_priceAlong_50 : decode cX0_priceAlong 50 = .ok (.ifCond .lt 21, 3) := by decide +kernel
theorem dX0_priceAlong_53 : decode cX0_priceAlong 53 = .ok (.iload 7, 2) := by decide +kernel
theorem dX0_priceAlong_55 : decode cX0_priceAlong 55 = .ok (.bipush 36, 2) := by decide +kernel
theorem dX0_priceAlong_57 : decode cX0_priceAlong 57 = .ok (.if_icmp .ge 14, 3) := by decide +kernel
theorem dX0_priceAlong_60 : decode cX0_priceAlong 60 = .ok (.aload_n 0, 1) := by decide +kernel
theorem dX0_priceAlong_61 : decode cX0_priceAlong 61 = .ok (.getfield 9, 3) := by decide +kernel
theorem dX0_priceAlong_64 : decode cX0_priceAlong 64 = .ok (.iload 7, 2) := by decide +kernel
theorem dX0_priceAlong_66 : decode cX0_priceAlong 66 = .ok (.iaload, 1) := by decide +kernel
theorem dX0_priceAlong_67 : decode cX0_priceAlong 67 = .ok (.iconst (-1), 1) := by decide +kernel
theorem dX0_priceAlong_68 : decode cX0_priceAlong 68 = .ok (.if_icmp .eq 5, 3) := by decide +kernel
theorem dX0_priceAlong_71 : decode cX0_priceAlong 71 = .ok (.iconst 0, 1) := by decide +kernel
theorem dX0_priceAlong_72 : decode cX0_priceAlong 72 = .ok (.ireturn, 1) := by decide +kernel
theorem dX0_priceAlong_73 : decode cX0_priceAlong 73 = .ok (.iinc 6 1, 3) := by decide +kernel
theorem dX0_priceAlong_76 : decode cX0_priceAlong 76 = .ok (.goto (-44), 3) := by decide +kernel
theorem dX0_priceAlong_79 : decode cX0_priceAlong 79 = .ok (.iload 4, 2) := by decide +kernel
theorem dX0_priceAlong_81 : decode cX0_priceAlong 81 = .ok (.ireturn, 1) := by decide +kernel
theorem dX1_init_0 : decode cX1_init 0 = .ok (.aload_n 0, 1) := by decide +kernel
theorem dX1_init_1 : decode cX1_init 1 = .ok (.invokespecial 3, 3) := by decide +kernel
theorem dX1_init_4 : decode cX1_init 4 = .ok (.aload_n 0, 1) := by decide +kernel
theorem dX1_init_5 : decode cX1_init 5 = .ok (.new 9, 3) := by decide +kernel
theorem dX1_init_8 : decode cX1_init 8 = .ok (.dup, 1) := by decide +kernel
theorem dX1_init_9 : decode cX1_init 9 = .ok (.invokespecial 11, 3) := by decide +kernel
theorem dX1_init_12 : decode cX1_init 12 = .ok (.putfield 12, 3) := by decide +kernel
theorem dX1_init_15 : decode cX1_init 15 = .ok (.aload_n 0, 1) := by decide +kernel
theorem dX1_init_16 : decode cX1_init 16 = .ok (.bipush 9, 2) := by decide +kernel
theorem dX1_init_18 : decode cX1_init 18 = .ok (.putfield 18, 3) := by decide +kernel
theorem dX1_init_21 : decode cX1_init 21 = .ok (.aload_n 0, 1) := by decide +kernel
theorem dX1_init_22 : decode cX1_init 22 = .ok (.iconst 1, 1) := by decide +kernel
theorem dX1_init_23 : decode cX1_init 23 = .ok (.putfield 22, 3) := by decide +kernel
theorem dX1_init_26 : decode cX1_init 26 = .ok (.aload_n 0, 1) := by decide +kernel
theorem dX1_init_27 : decode cX1_init 27 = .ok (.iconst 2, 1) := by decide +kernel
theorem dX1_init_28 : decode cX1_init 28 = .ok (.putfield 25, 3) := by decide +kernel
theorem dX1_init_31 : decode cX1_init 31 = .ok (.aload_n 0, 1) := by decide +kernel
theorem dX1_init_32 : decode cX1_init 32 = .ok (.iconst (-1), 1) := by decide +kernel
theorem dX1_init_33 : decode cX1_init 33 = .ok (.putfield 28, 3) := by decide +kernel
theorem dX1_init_36 : decode cX1_init 36 = .ok (.return_, 1) := by decide +kernel
theorem dX1_copyFrom_0 : decode cX1_copyFrom 0 = .ok (.aload_n 0, 1) := by decide +kernel
theorem dX1_copyFrom_1 : decode cX1_copyFrom 1 = .ok (.getfield 12, 3) := by decide +kernel
theorem dX1_copyFrom_4 : decode cX1_copyFrom 4 = .ok (.aload_n 1, 1) := by decide +kernel
theorem dX1_copyFrom_5 : decode cX1_copyFrom 5 = .ok (.getfield 12, 3) := by decide +kernel
theorem dX1_copyFrom_8 : decode cX1_copyFrom 8 = .ok (.invokevirtual 31, 3) := by decide +kernel
theorem dX1_copyFrom_11 : decode cX1_copyFrom 11 = .ok (.aload_n 0, 1) := by decide +kernel
theorem dX1_copyFrom_12 : decode cX1_copyFrom 12 = .ok (.aload_n 1, 1) := by decide +kernel
theorem dX1_copyFrom_13 : decode cX1_copyFrom 13 = .ok (.getfield 18, 3) := by decide +kernel
theorem dX1_copyFrom_16 : decode cX1_copyFrom 16 = .ok (.putfield 18, 3) := by decide +kernel
theorem dX1_copyFrom_19 : decode cX1_copyFrom 19 = .ok (.aload_n 0, 1) := by decide +kernel
theorem dX1_copyFrom_20 : decode cX1_copyFrom 20 = .ok (.aload_n 1, 1) := by decide +kernel
theorem dX1_copyFrom_21 : decode cX1_copyFrom 21 = .ok (.getfield 22, 3) := by decide +kernel
theorem dX1_copyFrom_24 : decode cX1_copyFrom 24 = .ok (.putfield 22, 3) := by decide +kernel
theorem dX1_copyFrom_27 : decode cX1_copyFrom 27 = .ok (.aload_n 0, 1) := by decide +kernel
theorem dX1_copyFrom_28 : decode cX1_copyFrom 28 = .ok (.aload_n 1, 1) := by decide +kernel
theorem dX1_copyFrom_29 : decode cX1_copyFrom 29 = .ok (.getfield 25, 3) := by decide +kernel
theorem dX1_copyFrom_32 : decode cX1_copyFrom 32 = .ok (.putfield 25, 3) := by decide +kernel
theorem dX1_copyFrom_35 : decode cX1_copyFrom 35 = .ok (.aload_n 0, 1) := by decide +kernel
theorem dX1_copyFrom_36 : decode cX1_copyFrom 36 = .ok (.aload_n 1, 1) := by decide +kernel
theorem dX1_copyFrom_37 : decode cX1_copyFrom 37 = .ok (.getfield 35, 3) := by decide +kernel
theorem dX1_copyFrom_40 : decode cX1_copyFrom 40 = .ok (.putfield 35, 3) := by decide +kernel
theorem dX1_copyFrom_43 : decode cX1_copyFrom 43 = .ok (.aload_n 0, 1) := by decide +kernel
theorem dX1_copyFrom_44 : decode cX1_copyFrom 44 = .ok (.aload_n 1, 1) := by decide +kernel
theorem dX1_copyFrom_45 : decode cX1_copyFrom 45 = .ok (.getfield 38, 3) := by decide +kernel
theorem dX1_copyFrom_48 : decode cX1_copyFrom 48 = .ok (.putfield 38, 3) := by decide +kernel
theorem dX1_copyFrom_51 : decode cX1_copyFrom 51 = .ok (.aload_n 0, 1) := by decide +kernel
theorem dX1_copyFrom_52 : decode cX1_copyFrom 52 = .ok (.aload_n 1, 1) := by decide +kernel
theorem dX1_copyFrom_53 : decode cX1_copyFrom 53 = .ok (.getfield 28, 3) := by decide +kernel
theorem dX1_copyFrom_56 : decode cX1_copyFrom 56 = .ok (.putfield 28, 3) := by decide +kernel
theorem dX1_copyFrom_59 : decode cX1_copyFrom 59 = .ok (.aload_n 0, 1) := by decide +kernel
theorem dX1_copyFrom_60 : decode cX1_copyFrom 60 = .ok (.aload_n 1, 1) := by decide +kernel
theorem dX1_copyFrom_61 : decode cX1_copyFrom 61 = .ok (.getfield 41, 3) := by decide +kernel
theorem dX1_copyFrom_64 : decode cX1_copyFrom 64 = .ok (.putfield 41, 3) := by decide +kernel
theorem dX1_copyFrom_67 : decode cX1_copyFrom 67 = .ok (.aload_n 0, 1) := by decide +kernel
theorem dX1_copyFrom_68 : decode cX1_copyFrom 68 = .ok (.aload_n 1, 1) := by decide +kernel
theorem dX1_copyFrom_69 : decode cX1_copyFrom 69 = .ok (.getfield 44, 3) := by decide +kernel
theorem dX1_copyFrom_72 : decode cX1_copyFrom 72 = .ok (.putfield 44, 3) := by decide +kernel
theorem dX1_copyFrom_75 : decode cX1_copyFrom 75 = .ok (.aload_n 0, 1) := by decide +kernel
theorem dX1_copyFrom_76 : decode cX1_copyFrom 76 = .ok (.aload_n 1, 1) := by decide +kernel
theorem dX1_copyFrom_77 : decode cX1_copyFrom 77 = .ok (.getfield 48, 3) := by decide +kernel
theorem dX1_copyFrom_80 : decode cX1_copyFrom 80 = .ok (.putfield 48, 3) := by decide +kernel
theorem dX1_copyFrom_83 : decode cX1_copyFrom 83 = .ok (.aload_n 0, 1) := by decide +kernel
theorem dX1_copyFrom_84 : decode cX1_copyFrom 84 = .ok (.aload_n 1, 1) := by decide +kernel
theorem dX1_copyFrom_85 : decode cX1_copyFrom 85 = .ok (.getfield 51, 3) := by decide +kernel
theorem dX1_copyFrom_88 : decode cX1_copyFrom 88 = .ok (.putfield 51, 3) := by decide +kernel
theorem dX1_copyFrom_91 : decode cX1_copyFrom 91 = .ok (.aload_n 0, 1) := by decide +kernel
theorem dX1_copyFrom_92 : decode cX1_copyFrom 92 = .ok (.aload_n 1, 1) := by decide +kernel
theorem dX1_copyFrom_93 : decode cX1_copyFrom 93 = .ok (.getfield 54, 3) := by decide +kernel
theorem dX1_copyFrom_96 : decode cX1_copyFrom 96 = .ok (.putfield 54, 3) := by decide +kernel
theorem dX1_copyFrom_99 : decode cX1_copyFrom 99 = .ok (.aload_n 0, 1) := by decide +kernel
theorem dX1_copyFrom_100 : decode cX1_copyFrom 100 = .ok (.aload_n 1, 1) := by decide +kernel
theorem dX1_copyFrom_101 : decode cX1_copyFrom 101 = .ok (.getfield 57, 3) := by decide +kernel
theorem dX1_copyFrom_104 : decode cX1_copyFrom 104 = .ok (.putfield 57, 3) := by decide +kernel
theorem dX1_copyFrom_107 : decode cX1_copyFrom 107 = .ok (.aload_n 0, 1) := by decide +kernel
theorem dX1_copyFrom_108 : decode cX1_copyFrom 108 = .ok (.aload_n 1, 1) := by decide +kernel
theorem dX1_copyFrom_109 : decode cX1_copyFrom 109 = .ok (.getfield 60, 3) := by decide +kernel
theorem dX1_copyFrom_112 : decode cX1_copyFrom 112 = .ok (.putfield 60, 3) := by decide +kernel
theorem dX1_copyFrom_115 : decode cX1_copyFrom 115 = .ok (.aload_n 0, 1) := by decide +kernel
theorem dX1_copyFrom_116 : decode cX1_copyFrom 116 = .ok (.aload_n 1, 1) := by decide +kernel
theorem dX1_copyFrom_117 : decode cX1_copyFrom 117 = .ok (.getfield 63, 3) := by decide +kernel
theorem dX1_copyFrom_120 : decode cX1_copyFrom 120 = .ok (.putfield 63, 3) := by decide +kernel
theorem dX1_copyFrom_123 : decode cX1_copyFrom 123 = .ok (.return_, 1) := by decide +kernel
theorem dX1_begin_0 : decode cX1_begin 0 = .ok (.aload_n 0, 1) := by decide +kernel
theorem dX1_begin_1 : decode cX1_begin 1 = .ok (.getfield 12, 3) := by decide +kernel
theorem dX1_begin_4 : decode cX1_begin 4 = .ok (.aload_n 0, 1) := by decide +kernel
theorem dX1_begin_5 : decode cX1_begin 5 = .ok (.getfield 18, 3) := by decide +kernel
theorem dX1_begin_8 : decode cX1_begin 8 = .ok (.iconst 2, 1) := by decide +kernel
theorem dX1_begin_9 : decode cX1_begin 9 = .ok (.idiv, 1) := by decide +kernel
theorem dX1_begin_10 : decode cX1_begin 10 = .ok (.invokevirtual 66, 3) := by decide +kernel
theorem dX1_begin_13 : decode cX1_begin 13 = .ok (.aload_n 0, 1) := by decide +kernel
theorem dX1_begin_14 : decode cX1_begin 14 = .ok (.iconst 0, 1) := by decide +kernel
theorem dX1_begin_15 : decode cX1_begin 15 = .ok (.putfield 35, 3) := by decide +kernel
theorem dX1_begin_18 : decode cX1_begin 18 = .ok (.aload_n 0, 1) := by decide +kernel
theorem dX1_begin_19 : decode cX1_begin 19 = .ok (.iconst 0, 1) := by decide +kernel
theorem dX1_begin_20 : decode cX1_begin 20 = .ok (.putfield 38, 3) := by decide +kernel
theorem dX1_begin_23 : decode cX1_begin 23 = .ok (.aload_n 0, 1) := by decide +kernel
theorem dX1_begin_24 : decode cX1_begin 24 = .ok (.iconst (-1), 1) := by decide +kernel
theorem dX1_begin_25 : decode cX1_begin 25 = .ok (.putfield 28, 3) := by decide +kernel
theorem dX1_begin_28 : decode cX1_begin 28 = .ok (.aload_n 0, 1) := by decide +kernel
theorem dX1_begin_29 : decode cX1_begin 29 = .ok (.iconst 0, 1) := by decide +kernel
theorem dX1_begin_30 : decode cX1_begin 30 = .ok (.putfield 41, 3) := by decide +kernel
theorem dX1_begin_33 : decode cX1_begin 33 = .ok (.aload_n 0, 1) := by decide +kernel
theorem dX1_begin_34 : decode cX1_begin 34 = .ok (.iconst 0, 1) := by decide +kernel
theorem dX1_begin_35 : decode cX1_begin 35 = .ok (.putfield 44, 3) := by decide +kernel
theorem dX1_begin_38 : decode cX1_begin 38 = .ok (.aload_n 0, 1) := by decide +kernel
theorem dX1_begin_39 : decode cX1_begin 39 = .ok (.aload_n 0, 1) := by decide +kernel
theorem dX1_begin_40 : decode cX1_begin 40 = .ok (.getfield 12, 3) := by decide +kernel
theorem dX1_begin_43 : decode cX1_begin 43 = .ok (.invokevirtual 70, 3) := by decide +kernel
theorem dX1_begin_46 : decode cX1_begin 46 = .ok (.putfield 48, 3) := by decide +kernel
theorem dX1_begin_49 : decode cX1_begin 49 = .ok (.aload_n 0, 1) := by decide +kernel
theorem dX1_begin_50 : decode cX1_begin 50 = .ok (.iconst 0, 1) := by decide +kernel
theorem dX1_begin_51 : decode cX1_begin 51 = .ok (.putfield 51, 3) := by decide +kernel
theorem dX1_begin_54 : decode cX1_begin 54 = .ok (.aload_n 0, 1) := by decide +kernel
theorem dX1_begin_55 : decode cX1_begin 55 = .ok (.iconst 0, 1) := by decide +kernel
theorem dX1_begin_56 : decode cX1_begin 56 = .ok (.putfield 54, 3) := by decide +kernel
theorem dX1_begin_59 : decode cX1_begin 59 = .ok (.aload_n 0, 1) := by decide +kernel
theorem dX1_begin_60 : decode cX1_begin 60 = .ok (.iconst 0, 1) := by decide +kernel
theorem dX1_begin_61 : decode cX1_begin 61 = .ok (.putfield 57, 3) := by decide +kernel
theorem dX1_begin_64 : decode cX1_begin 64 = .ok (.aload_n 0, 1) := by decide +kernel
theorem dX1_begin_65 : decode cX1_begin 65 = .ok (.iconst 0, 1) := by decide +kernel
theorem dX1_begin_66 : decode cX1_begin 66 = .ok (.putfield 60, 3) := by decide +kernel
theorem dX1_begin_69 : decode cX1_begin 69 = .ok (.aload_n 0, 1) := by decide +kernel
theorem dX1_begin_70 : decode cX1_begin 70 = .ok (.iconst 0, 1) := by decide +kernel
theorem dX1_begin_71 : decode cX1_begin 71 = .ok (.putfield 63, 3) := by decide +kernel
theorem dX1_begin_74 : decode cX1_begin 74 = .ok (.return_, 1) := by decide +kernel
theorem dX1_isOver_0 : decode cX1_isOver 0 = .ok (.aload_n 0, 1) := by decide +kernel
theorem dX1_isOver_1 : decode cX1_isOver 1 = .ok (.getfield 38, 3) := by decide +kernel
theorem dX1_isOver_4 : decode cX1_isOver 4 = .ok (.ifCond .eq 7, 3) := by decide +kernel
theorem dX1_isOver_7 : decode cX1_isOver 7 = .ok (.iconst 1, 1) := by decide +kernel
theorem dX1_isOver_8 : decode cX1_isOver 8 = .ok (.goto 4, 3) := by decide +kernel
theorem dX1_isOver_11 : decode cX1_isOver 11 = .ok (.iconst 0, 1) := by decide +kernel
theorem dX1_isOver_12 : decode cX1_isOver 12 = .ok (.ireturn, 1) := by decide +kernel
theorem dX1_setting_0 : decode cX1_setting 0 = .ok (.iload_n 1, 1) := by decide +kernel
theorem dX1_setting_1 : decode cX1_setting 1 = .ok (.lookupswitch 37 #[(0, 27), (1, 32)], 27) := by decide +kernel
theorem dX1_setting_28 : decode cX1_setting 28 = .ok (.aload_n 0, 1) := by decide +kernel
theorem dX1_setting_29 : decode cX1_setting 29 = .ok (.getfield 18, 3) := by decide +kernel
theorem dX1_setting_32 : decode cX1_setting 32 = .ok (.ireturn, 1) := by decide +kernel
theorem dX1_setting_33 : decode cX1_setting 33 = .ok (.aload_n 0, 1) := by decide +kernel
theorem dX1_setting_34 : decode cX1_setting 34 = .ok (.getfield 22, 3) := by decide +kernel
theorem dX1_setting_37 : decode cX1_setting 37 = .ok (.ireturn, 1) := by decide +kernel
theorem dX1_setting_38 : decode cX1_setting 38 = .ok (.aload_n 0, 1) := by decide +kernel
theorem dX1_setting_39 : decode cX1_setting 39 = .ok (.getfield 25, 3) := by decide +kernel
theorem dX1_setting_42 : decode cX1_setting 42 = .ok (.ireturn, 1) := by decide +kernel
theorem dX1_changeSetting_0 : decode cX1_changeSetting 0 = .ok (.iload_n 1, 1) := by decide +kernel
theorem dX1_changeSetting_1 : decode cX1_changeSetting 1 = .ok (.lookupswitch 47 #[(0, 27), (1, 39)], 27) := by decide +kernel
theorem dX1_changeSetting_28 : decode cX1_changeSetting 28 = .ok (.aload_n 0, 1) := by decide +kernel
theorem dX1_changeSetting_29 : decode cX1_changeSetting 29 = .ok (.iload_n 2, 1) := by decide +kernel
theorem dX1_changeSetting_30 : decode cX1_changeSetting 30 = .ok (.putfield 18, 3) := by decide +kernel
theorem dX1_changeSetting_33 : decode cX1_changeSetting 33 = .ok (.aload_n 0, 1) := by decide +kernel
theorem dX1_changeSetting_34 : decode cX1_changeSetting 34 = .ok (.invokevirtual 74, 3) := by decide +kernel
theorem dX1_changeSetting_37 : decode cX1_changeSetting 37 = .ok (.goto 16, 3) := by decide +kernel
theorem dX1_changeSetting_40 : decode cX1_changeSetting 40 = .ok (.aload_n 0, 1) := by decide +kernel
theorem dX1_changeSetting_41 : decode cX1_changeSetting 41 = .ok (.iload_n 2, 1) := by decide +kernel
theorem dX1_changeSetting_42 : decode cX1_changeSetting 42 = .ok (.putfield 22, 3) := by decide +kernel
theorem dX1_changeSetting_45 : decode cX1_changeSetting 45 = .ok (.goto 8, 3) := by decide +kernel
theorem dX1_changeSetting_48 : decode cX1_changeSetting 48 = .ok (.aload_n 0, 1) := by decide +kernel
theorem dX1_changeSetting_49 : decode cX1_changeSetting 49 = .ok (.iload_n 2, 1) := by decide +kernel
theorem dX1_changeSetting_50 : decode cX1_changeSetting 50 = .ok (.putfield 25, 3) := by decide +kernel
theorem dX1_changeSetting_53 : decode cX1_changeSetting 53 = .ok (.return_, 1) := by decide +kernel
theorem dX1_cutSprings_0 : decode cX1_cutSprings 0 = .ok (.iconst 0, 1) := by decide +kernel
theorem dX1_cutSprings_1 : decode cX1_cutSprings 1 = .ok (.istore_n 1, 1) := by decide +kernel
theorem dX1_cutSprings_2 : decode cX1_cutSprings 2 = .ok (.iload_n 1, 1) := by decide +kernel
theorem dX1_cutSprings_3 : decode cX1_cutSprings 3 = .ok (.bipush 36, 2) := by decide +kernel
theorem dX1_cutSprings_5 : decode cX1_cutSprings 5 = .ok (.if_icmp .ge 49, 3) := by decide +kernel
theorem dX1_cutSprings_8 : decode cX1_cutSprings 8 = .ok (.aload_n 0, 1) := by decide +kernel
theorem dX1_cutSprings_9 : decode cX1_cutSprings 9 = .ok (.getfield 12, 3) := by decide +kernel
theorem dX1_cutSprings_12 : decode cX1_cutSprings 12 = .ok (.iload_n 1, 1) := by decide +kernel
theorem dX1_cutSprings_13 : decode cX1_cutSprings 13 = .ok (.invokevirtual 77, 3) := by decide +kernel
theorem dX1_cutSprings_16 : decode cX1_cutSprings 16 = .ok (.aload_n 0, 1) := by decide +kernel
theorem dX1_cutSprings_17 : decode cX1_cutSprings 17 = .ok (.getfield 18, 3) := by decide +kernel
theorem dX1_cutSprings_20 : decode cX1_cutSprings 20 = .ok (.isub, 1) := by decide +kernel
theorem dX1_cutSprings_21 : decode cX1_cutSprings 21 = .ok (.istore_n 2, 1) := by decide +kernel
theorem dX1_cutSprings_22 : decode cX1_cutSprings 22 = .ok (.iload_n 2, 1) := by decide +kernel
theorem dX1_cutSprings_23 : decode cX1_cutSprings 23 = .ok (.ifCond .le 25, 3) := by decide +kernel
theorem dX1_cutSprings_26 : decode cX1_cutSprings 26 = .ok (.aload_n 0, 1) := by decide +kernel
theorem dX1_cutSprings_27 : decode cX1_cutSprings 27 = .ok (.getfield 12, 3) := by decide +kernel
theorem dX1_cutSprings_30 : decode cX1_cutSprings 30 = .ok (.iload_n 1, 1) := by decide +kernel
theorem dX1_cutSprings_31 : decode cX1_cutSprings 31 = .ok (.aload_n 0, 1) := by decide +kernel
theorem dX1_cutSprings_32 : decode cX1_cutSprings 32 = .ok (.getfield 18, 3) := by decide +kernel
theorem dX1_cutSprings_35 : decode cX1_cutSprings 35 = .ok (.invokevirtual 81, 3) := by decide +kernel
theorem dX1_cutSprings_38 : decode cX1_cutSprings 38 = .ok (.aload_n 0, 1) := by decide +kernel
theorem dX1_cutSprings_39 : decode cX1_cutSprings 39 = .ok (.dup, 1) := by decide +kernel
theorem dX1_cutSprings_40 : decode cX1_cutSprings 40 = .ok (.getfield 63, 3) := by decide +kernel
theorem dX1_cutSprings_43 : decode cX1_cutSprings 43 = .ok (.iload_n 2, 1) := by decide +kernel
theorem dX1_cutSprings_44 : decode cX1_cutSprings 44 = .ok (.isub, 1) := by decide +kernel
theorem dX1_cutSprings_45 : decode cX1_cutSprings 45 = .ok (.putfield 63, 3) := by decide +kernel
theorem dX1_cutSprings_48 : decode cX1_cutSprings 48 = .ok (.iinc 1 1, 3) := by decide +kernel
theorem dX1_cutSprings_51 : decode cX1_cutSprings 51 = .ok (.goto (-49), 3) := by decide +kernel
theorem dX1_cutSprings_54 : decode cX1_cutSprings 54 = .ok (.return_, 1) := by decide +kernel
theorem dX1_account_0 : decode cX1_account 0 = .ok (.iload_n 1, 1) := by decide +kernel
theorem dX1_account_1 : decode cX1_account 1 = .ok (.tableswitch 72 0 5 #[39, 44, 49, 54, 59, 64], 39) := by decide +kernel
theorem dX1_account_40 : decode cX1_account 40 = .ok (.aload_n 0, 1) := by decide +kernel
theorem dX1_account_41 : decode cX1_account 41 = .ok (.getfield 48, 3) := by decide +kernel
theorem dX1_account_44 : decode cX1_account 44 = .ok (.ireturn, 1) := by decide +kernel
theorem dX1_account_45 : decode cX1_account 45 = .ok (.aload_n 0, 1) := by decide +kernel
theorem dX1_account_46 : decode cX1_account 46 = .ok (.getfield 51, 3) := by decide +kernel
theorem dX1_account_49 : decode cX1_account 49 = .ok (.ireturn, 1) := by decide +kernel
theorem dX1_account_50 : decode cX1_account 50 = .ok (.aload_n 0, 1) := by decide +kernel
theorem dX1_account_51 : decode cX1_account 51 = .ok (.getfield 54, 3) := by decide +kernel
theorem dX1_account_54 : decode cX1_account 54 = .ok (.ireturn, 1) := by decide +kernel
theorem dX1_account_55 : decode cX1_account 55 = .ok (.aload_n 0, 1) := by decide +kernel
theorem dX1_account_56 : decode cX1_account 56 = .ok (.getfield 57, 3) := by decide +kernel
theorem dX1_account_59 : decode cX1_account 59 = .ok (.ireturn, 1) := by decide +kernel
theorem dX1_account_60 : decode cX1_account 60 = .ok (.aload_n 0, 1) := by decide +kernel
theorem dX1_account_61 : decode cX1_account 61 = .ok (.getfield 60, 3) := by decide +kernel
theorem dX1_account_64 : decode cX1_account 64 = .ok (.ireturn, 1) := by decide +kernel
theorem dX1_account_65 : decode cX1_account 65 = .ok (.aload_n 0, 1) := by decide +kernel
theorem dX1_account_66 : decode cX1_account 66 = .ok (.getfield 12, 3) := by decide +kernel
theorem dX1_account_69 : decode cX1_account 69 = .ok (.invokevirtual 70, 3) := by decide +kernel
theorem dX1_account_72 : decode cX1_account 72 = .ok (.ireturn, 1) := by decide +kernel
theorem dX1_account_73 : decode cX1_account 73 = .ok (.aload_n 0, 1) := by decide +kernel
theorem dX1_account_74 : decode cX1_account 74 = .ok (.getfield 63, 3) := by decide +kernel
theorem dX1_account_77 : decode cX1_account 77 = .ok (.ireturn, 1) := by decide +kernel
theorem dX1_putInstead_0 : decode cX1_putInstead 0 = .ok (.aload_n 0, 1) := by decide +kernel
theorem dX1_putInstead_1 : decode cX1_putInstead 1 = .ok (.dup, 1) := by decide +kernel
theorem dX1_putInstead_2 : decode cX1_putInstead 2 = .ok (.getfield 63, 3) := by decide +kernel
theorem dX1_putInstead_5 : decode cX1_putInstead 5 = .ok (.aload_n 0, 1) := by decide +kernel
theorem dX1_putInstead_6 : decode cX1_putInstead 6 = .ok (.getfield 12, 3) := by decide +kernel
theorem dX1_putInstead_9 : decode cX1_putInstead 9 = .ok (.iload_n 1, 1) := by decide +kernel
theorem dX1_putInstead_10 : decode cX1_putInstead 10 = .ok (.invokevirtual 77, 3) := by decide +kernel
theorem dX1_putInstead_13 : decode cX1_putInstead 13 = .ok (.isub, 1) := by decide +kernel
theorem dX1_putInstead_14 : decode cX1_putInstead 14 = .ok (.putfield 63, 3) := by decide +kernel
theorem dX1_putInstead_17 : decode cX1_putInstead 17 = .ok (.iload_n 2, 1) := by decide +kernel
theorem dX1_putInstead_18 : decode cX1_putInstead 18 = .ok (.iconst (-1), 1) := by decide +kernel
theorem dX1_putInstead_19 : decode cX1_putInstead 19 = .ok (.if_icmp .ne 14, 3) := by decide +kernel
theorem dX1_putInstead_22 : decode cX1_putInstead 22 = .ok (.aload_n 0, 1) := by decide +kernel
theorem dX1_putInstead_23 : decode cX1_putInstead 23 = .ok (.getfield 12, 3) := by decide +kernel
theorem dX1_putInstead_26 : decode cX1_putInstead 26 = .ok (.iload_n 1, 1) := by decide +kernel
theorem dX1_putInstead_27 : decode cX1_putInstead 27 = .ok (.invokevirtual 85, 3) := by decide +kernel
theorem dX1_putInstead_30 : decode cX1_putInstead 30 = .ok (.goto 15, 3) := by decide +kernel
theorem dX1_putInstead_33 : decode cX1_putInstead 33 = .ok (.aload_n 0, 1) := by decide +kernel
theorem dX1_putInstead_34 : decode cX1_putInstead 34 = .ok (.getfield 12, 3) := by decide +kernel
theorem dX1_putInstead_37 : decode cX1_putInstead 37 = .ok (.iload_n 1, 1) := by decide +kernel
theorem dX1_putInstead_38 : decode cX1_putInstead 38 = .ok (.iload_n 2, 1) := by decide +kernel
theorem dX1_putInstead_39 : decode cX1_putInstead 39 = .ok (.iload_n 3, 1) := by decide +kernel
theorem dX1_putInstead_40 : decode cX1_putInstead 40 = .ok (.iload 4, 2) := by decide +kernel
theorem dX1_putInstead_42 : decode cX1_putInstead 42 = .ok (.invokevirtual 88, 3) := by decide +kernel
theorem dX1_putInstead_45 : decode cX1_putInstead 45 = .ok (.aload_n 0, 1) := by decide +kernel
theorem dX1_putInstead_46 : decode cX1_putInstead 46 = .ok (.dup, 1) := by decide +kernel
theorem dX1_putInstead_47 : decode cX1_putInstead 47 = .ok (.getfield 63, 3) := by decide +kernel
theorem dX1_putInstead_50 : decode cX1_putInstead 50 = .ok (.aload_n 0, 1) := by decide +kernel
theorem dX1_putInstead_51 : decode cX1_putInstead 51 = .ok (.getfield 12, 3) := by decide +kernel
theorem dX1_putInstead_54 : decode cX1_putInstead 54 = .ok (.iload_n 1, 1) := by decide +kernel
theorem dX1_putInstead_55 : decode cX1_putInstead 55 = .ok (.invokevirtual 77, 3) := by decide +kernel
theorem dX1_putInstead_58 : decode cX1_putInstead 58 = .ok (.iadd, 1) := by decide +kernel
theorem dX1_putInstead_59 : decode cX1_putInstead 59 = .ok (.putfield 63, 3) := by decide +kernel
theorem dX1_putInstead_62 : decode cX1_putInstead 62 = .ok (.return_, 1) := by decide +kernel
theorem dX1_reasonAgainst_0 : decode cX1_reasonAgainst 0 = .ok (.aload_n 0, 1) := by decide +kernel
theorem dX1_reasonAgainst_1 : decode cX1_reasonAgainst 1 = .ok (.invokevirtual 92, 3) := by decide +kernel
theorem dX1_reasonAgainst_4 : decode cX1_reasonAgainst 4 = .ok (.ifCond .eq 5, 3) := by decide +kernel
theorem dX1_reasonAgainst_7 : decode cX1_reasonAgainst 7 = .ok (.iconst 2, 1) := by decide +kernel
theorem dX1_reasonAgainst_8 : decode cX1_reasonAgainst 8 = .ok (.ireturn, 1) := by decide +kernel
theorem dX1_reasonAgainst_9 : decode cX1_reasonAgainst 9 = .ok (.aload_n 0, 1) := by decide +kernel
theorem dX1_reasonAgainst_10 : decode cX1_reasonAgainst 10 = .ok (.getfield 12, 3) := by decide +kernel
theorem dX1_reasonAgainst_13 : decode cX1_reasonAgainst 13 = .ok (.iload_n 1, 1) := by decide +kernel
theorem dX1_reasonAgainst_14 : decode cX1_reasonAgainst 14 = .ok (.invokevirtual 96, 3) := by decide +kernel
theorem dX1_reasonAgainst_17 : decode cX1_reasonAgainst 17 = .ok (.ifCond .ne 5, 3) := by decide +kernel
theorem dX1_reasonAgainst_20 : decode cX1_reasonAgainst 20 = .ok (.iconst 3, 1) := by decide +kernel
theorem dX1_reasonAgainst_21 : decode cX1_reasonAgainst 21 = .ok (.ireturn, 1) := by decide +kernel
theorem dX1_reasonAgainst_22 : decode cX1_reasonAgainst 22 = .ok (.aload_n 0, 1) := by decide +kernel
theorem dX1_reasonAgainst_23 : decode cX1_reasonAgainst 23 = .ok (.getfield 12, 3) := by decide +kernel
theorem dX1_reasonAgainst_26 : decode cX1_reasonAgainst 26 = .ok (.iload_n 1, 1) := by decide +kernel
theorem dX1_reasonAgainst_27 : decode cX1_reasonAgainst 27 = .ok (.invokevirtual 100, 3) := by decide +kernel
theorem dX1_reasonAgainst_30 : decode cX1_reasonAgainst 30 = .ok (.aload_n 0, 1) := by decide +kernel
theorem dX1_reasonAgainst_31 : decode cX1_reasonAgainst 31 = .ok (.getfield 35, 3) := by decide +kernel
theorem dX1_reasonAgainst_34 : decode cX1_reasonAgainst 34 = .ok (.if_icmp .eq 5, 3) := by decide +kernel
theorem dX1_reasonAgainst_37 : decode cX1_reasonAgainst 37 = .ok (.iconst 4, 1) := by decide +kernel
theorem dX1_reasonAgainst_38 : decode cX1_reasonAgainst 38 = .ok (.ireturn, 1) := by decide +kernel
theorem dX1_reasonAgainst_39 : decode cX1_reasonAgainst 39 = .ok (.aload_n 0, 1) := by decide +kernel
theorem dX1_reasonAgainst_40 : decode cX1_reasonAgainst 40 = .ok (.getfield 12, 3) := by decide +kernel
theorem dX1_reasonAgainst_43 : decode cX1_reasonAgainst 43 = .ok (.iload_n 2, 1) := by decide +kernel
theorem dX1_reasonAgainst_44 : decode cX1_reasonAgainst 44 = .ok (.invokevirtual 100, 3) := by decide +kernel
theorem dX1_reasonAgainst_47 : decode cX1_reasonAgainst 47 = .ok (.aload_n 0, 1) := by decide +kernel
theorem dX1_reasonAgainst_48 : decode cX1_reasonAgainst 48 = .ok (.getfield 35, 3) := by decide +kernel
theorem dX1_reasonAgainst_51 : decode cX1_reasonAgainst 51 = .ok (.if_icmp .ne 5, 3) := by decide +kernel
theorem dX1_reasonAgainst_54 : decode cX1_reasonAgainst 54 = .ok (.iconst 5, 1) := by decide +kernel
theorem dX1_reasonAgainst_55 : decode cX1_reasonAgainst 55 = .ok (.ireturn, 1) := by decide +kernel
theorem dX1_reasonAgainst_56 : decode cX1_reasonAgainst 56 = .ok (.aload_n 0, 1) := by decide +kernel
theorem dX1_reasonAgainst_57 : decode cX1_reasonAgainst 57 = .ok (.getfield 12, 3) := by decide +kernel
theorem dX1_reasonAgainst_60 : decode cX1_reasonAgainst 60 = .ok (.iload_n 1, 1) := by decide +kernel
theorem dX1_reasonAgainst_61 : decode cX1_reasonAgainst 61 = .ok (.iload_n 2, 1) := by decide +kernel
theorem dX1_reasonAgainst_62 : decode cX1_reasonAgainst 62 = .ok (.invokevirtual 103, 3) := by decide +kernel
theorem dX1_reasonAgainst_65 : decode cX1_reasonAgainst 65 = .ok (.istore_n 3, 1) := by decide +kernel
theorem dX1_reasonAgainst_66 : decode cX1_reasonAgainst 66 = .ok (.iload_n 3, 1) := by decide +kernel
theorem dX1_reasonAgainst_67 : decode cX1_reasonAgainst 67 = .ok (.ifCond .ne 6, 3) := by decide +kernel
theorem dX1_reasonAgainst_70 : decode cX1_reasonAgainst 70 = .ok (.bipush 6, 2) := by decide +kernel
theorem dX1_reasonAgainst_72 : decode cX1_reasonAgainst 72 = .ok (.ireturn, 1) := by decide +kernel
theorem dX1_reasonAgainst_73 : decode cX1_reasonAgainst 73 = .ok (.aload_n 0, 1) := by decide +kernel
theorem dX1_reasonAgainst_74 : decode cX1_reasonAgainst 74 = .ok (.getfield 12, 3) := by decide +kernel
theorem dX1_reasonAgainst_77 : decode cX1_reasonAgainst 77 = .ok (.iload_n 1, 1) := by decide +kernel
theorem dX1_reasonAgainst_78 : decode cX1_reasonAgainst 78 = .ok (.invokevirtual 77, 3) := by decide +kernel
theorem dX1_reasonAgainst_81 : decode cX1_reasonAgainst 81 = .ok (.iload_n 3, 1) := by decide +kernel
theorem dX1_reasonAgainst_82 : decode cX1_reasonAgainst 82 = .ok (.if_icmp .ge 8, 3) := by decide +kernel
theorem dX1_reasonAgainst_85 : decode cX1_reasonAgainst 85 = .ok (.bipush 7, 2) := by decide +kernel
theorem dX1_reasonAgainst_87 : decode cX1_reasonAgainst 87 = .ok (.goto 4, 3) := by decide +kernel
theorem dX1_reasonAgainst_90 : decode cX1_reasonAgainst 90 = .ok (.iconst 0, 1) := by decide +kernel
theorem dX1_reasonAgainst_91 : decode cX1_reasonAgainst 91 = .ok (.ireturn, 1) := by decide +kernel
theorem dX1_reasonAgainstPass_0 : decode cX1_reasonAgainstPass 0 = .ok (.aload_n 0, 1) := by decide +kernel
theorem dX1_reasonAgainstPass_1 : decode cX1_reasonAgainstPass 1 = .ok (.invokevirtual 92, 3) := by decide +kernel
theorem dX1_reasonAgainstPass_4 : decode cX1_reasonAgainstPass 4 = .ok (.ifCond .eq 5, 3) := by decide +kernel
theorem dX1_reasonAgainstPass_7 : decode cX1_reasonAgainstPass 7 = .ok (.iconst 2, 1) := by decide +kernel
theorem dX1_reasonAgainstPass_8 : decode cX1_reasonAgainstPass 8 = .ok (.ireturn, 1) := by decide +kernel
theorem dX1_reasonAgainstPass_9 : decode cX1_reasonAgainstPass 9 = .ok (.aload_n 0, 1) := by decide +kernel
theorem dX1_reasonAgainstPass_10 : decode cX1_reasonAgainstPass 10 = .ok (.getfield 12, 3) := by decide +kernel
theorem dX1_reasonAgainstPass_13 : decode cX1_reasonAgainstPass 13 = .ok (.aload_n 0, 1) := by decide +kernel
theorem dX1_reasonAgainstPass_14 : decode cX1_reasonAgainstPass 14 = .ok (.getfield 35, 3) := by decide +kernel
theorem dX1_reasonAgainstPass_17 : decode cX1_reasonAgainstPass 17 = .ok (.invokevirtual 107, 3) := by decide +kernel
theorem dX1_reasonAgainstPass_20 : decode cX1_reasonAgainstPass 20 = .ok (.ifCond .le 8, 3) := by decide +kernel
theorem dX1_reasonAgainstPass_23 : decode cX1_reasonAgainstPass 23 = .ok (.bipush 8, 2) := by decide +kernel
theorem dX1_reasonAgainstPass_25 : decode cX1_reasonAgainstPass 25 = .ok (.goto 4, 3) := by decide +kernel
theorem dX1_reasonAgainstPass_28 : decode cX1_reasonAgainstPass 28 = .ok (.iconst 0, 1) := by decide +kernel
theorem dX1_reasonAgainstPass_29 : decode cX1_reasonAgainstPass 29 = .ok (.ireturn, 1) := by decide +kernel
theorem dX1_makeMove_0 : decode cX1_makeMove 0 = .ok (.aload_n 0, 1) := by decide +kernel
theorem dX1_makeMove_1 : decode cX1_makeMove 1 = .ok (.iload_n 1, 1) := by decide +kernel
theorem dX1_makeMove_2 : decode cX1_makeMove 2 = .ok (.iload_n 2, 1) := by decide +kernel
theorem dX1_makeMove_3 : decode cX1_makeMove 3 = .ok (.invokevirtual 110, 3) := by decide +kernel
theorem dX1_makeMove_6 : decode cX1_makeMove 6 = .ok (.istore_n 3, 1) := by decide +kernel
theorem dX1_makeMove_7 : decode cX1_makeMove 7 = .ok (.aload_n 0, 1) := by decide +kernel
theorem dX1_makeMove_8 : decode cX1_makeMove 8 = .ok (.invokevirtual 92, 3) := by decide +kernel
theorem dX1_makeMove_11 : decode cX1_makeMove 11 = .ok (.ifCond .ne 13, 3) := by decide +kernel
theorem dX1_makeMove_14 : decode cX1_makeMove 14 = .ok (.aload_n 0, 1) := by decide +kernel
theorem dX1_makeMove_15 : decode cX1_makeMove 15 = .ok (.iconst 1, 1) := by decide +kernel
theorem dX1_makeMove_16 : decode cX1_makeMove 16 = .ok (.aload_n 0, 1) := by decide +kernel
theorem dX1_makeMove_17 : decode cX1_makeMove 17 = .ok (.getfield 35, 3) := by decide +kernel
theorem dX1_makeMove_20 : decode cX1_makeMove 20 = .ok (.isub, 1) := by decide +kernel
theorem dX1_makeMove_21 : decode cX1_makeMove 21 = .ok (.invokevirtual 113, 3) := by decide +kernel
theorem dX1_makeMove_24 : decode cX1_makeMove 24 = .ok (.iload_n 3, 1) := by decide +kernel
theorem dX1_makeMove_25 : decode cX1_makeMove 25 = .ok (.ireturn, 1) := by decide +kernel
theorem dX1_carryOut_0 : decode cX1_carryOut 0 = .ok (.aload_n 0, 1) := by decide +kernel
theorem dX1_carryOut_1 : decode cX1_carryOut 1 = .ok (.getfield 12, 3) := by decide +kernel
theorem dX1_carryOut_4 : decode cX1_carryOut 4 = .ok (.iload_n 1, 1) := by decide +kernel
theorem dX1_carryOut_5 : decode cX1_carryOut 5 = .ok (.iload_n 2, 1) := by decide +kernel
theorem dX1_carryOut_6 : decode cX1_carryOut 6 = .ok (.invokevirtual 103, 3) := by decide +kernel
theorem dX1_carryOut_9 : decode cX1_carryOut 9 = .ok (.istore_n 3, 1) := by decide +kernel
theorem dX1_carryOut_10 : decode cX1_carryOut 10 = .ok (.aload_n 0, 1) := by decide +kernel
theorem dX1_carryOut_11 : decode cX1_carryOut 11 = .ok (.getfield 12, 3) := by decide +kernel
theorem dX1_carryOut_14 : decode cX1_carryOut 14 = .ok (.iload_n 1, 1) := by decide +kernel
theorem dX1_carryOut_15 : decode cX1_carryOut 15 = .ok (.invokevirtual 116, 3) := by decide +kernel
theorem dX1_carryOut_18 : decode cX1_carryOut 18 = .ok (.istore 4, 2) := by decide +kernel
theorem dX1_carryOut_20 : decode cX1_carryOut 20 = .ok (.aload_n 0, 1) := by decide +kernel
theorem dX1_carryOut_21 : decode cX1_carryOut 21 = .ok (.getfield 12, 3) := by decide +kernel
theorem dX1_carryOut_24 : decode cX1_carryOut 24 = .ok (.iload_n 1, 1) := by decide +kernel
theorem dX1_carryOut_25 : decode cX1_carryOut 25 = .ok (.invokevirtual 77, 3) := by decide +kernel
theorem dX1_carryOut_28 : decode cX1_carryOut 28 = .ok (.iload_n 3, 1) := by decide +kernel
theorem dX1_carryOut_29 : decode cX1_carryOut 29 = .ok (.isub, 1) := by decide +kernel
theorem dX1_carryOut_30 : decode cX1_carryOut 30 = .ok (.istore 5, 2) := by decide +kernel
theorem dX1_carryOut_32 : decode cX1_carryOut 32 = .ok (.aload_n 0, 1) := by decide +kernel
theorem dX1_carryOut_33 : decode cX1_carryOut 33 = .ok (.getfield 12, 3) := by decide +kernel
theorem dX1_carryOut_36 : decode cX1_carryOut 36 = .ok (.iload_n 2, 1) := by decide +kernel
theorem dX1_carryOut_37 : decode cX1_carryOut 37 = .ok (.invokevirtual 96, 3) := by decide +kernel
theorem dX1_carryOut_40 : decode cX1_carryOut 40 = .ok (.ifCond .eq 43, 3) := by decide +kernel
theorem dX1_carryOut_43 : decode cX1_carryOut 43 = .ok (.aload_n 0, 1) := by decide +kernel
theorem dX1_carryOut_44 : decode cX1_carryOut 44 = .ok (.iload 5, 2) := by decide +kernel
theorem dX1_carryOut_46 : decode cX1_carryOut 46 = .ok (.aload_n 0, 1) := by decide +kernel
theorem dX1_carryOut_47 : decode cX1_carryOut 47 = .ok (.getfield 12, 3) := by decide +kernel
theorem dX1_carryOut_50 : decode cX1_carryOut 50 = .ok (.iload_n 2, 1) := by decide +kernel
theorem dX1_carryOut_51 : decode cX1_carryOut 51 = .ok (.invokevirtual 77, 3) := by decide +kernel
theorem dX1_carryOut_54 : decode cX1_carryOut 54 = .ok (.invokevirtual 119, 3) := by decide +kernel
theorem dX1_carryOut_57 : decode cX1_carryOut 57 = .ok (.istore 5, 2) := by decide +kernel
theorem dX1_carryOut_59 : decode cX1_carryOut 59 = .ok (.aload_n 0, 1) := by decide +kernel
theorem dX1_carryOut_60 : decode cX1_carryOut 60 = .ok (.getfield 12, 3) := by decide +kernel
theorem dX1_carryOut_63 : decode cX1_carryOut 63 = .ok (.iload_n 2, 1) := by decide +kernel
theorem dX1_carryOut_64 : decode cX1_carryOut 64 = .ok (.invokevirtual 116, 3) := by decide +kernel
theorem dX1_carryOut_67 : decode cX1_carryOut 67 = .ok (.ifCond .ne 16, 3) := by decide +kernel
theorem dX1_carryOut_70 : decode cX1_carryOut 70 = .ok (.aload_n 0, 1) := by decide +kernel
theorem dX1_carryOut_71 : decode cX1_carryOut 71 = .ok (.iconst 1, 1) := by decide +kernel
theorem dX1_carryOut_72 : decode cX1_carryOut 72 = .ok (.putfield 38, 3) := by decide +kernel
theorem dX1_carryOut_75 : decode cX1_carryOut 75 = .ok (.aload_n 0, 1) := by decide +kernel
theorem dX1_carryOut_76 : decode cX1_carryOut 76 = .ok (.aload_n 0, 1) := by decide +kernel
theorem dX1_carryOut_77 : decode cX1_carryOut 77 = .ok (.getfield 35, 3) := by decide +kernel
theorem dX1_carryOut_80 : decode cX1_carryOut 80 = .ok (.putfield 28, 3) := by decide +kernel
theorem dX1_carryOut_83 : decode cX1_carryOut 83 = .ok (.aload_n 0, 1) := by decide +kernel
theorem dX1_carryOut_84 : decode cX1_carryOut 84 = .ok (.getfield 35, 3) := by decide +kernel
theorem dX1_carryOut_87 : decode cX1_carryOut 87 = .ok (.ifCond .ne 7, 3) := by decide +kernel
theorem dX1_carryOut_90 : decode cX1_carryOut 90 = .ok (.iconst 5, 1) := by decide +kernel
theorem dX1_carryOut_91 : decode cX1_carryOut 91 = .ok (.goto 4, 3) := by decide +kernel
theorem dX1_carryOut_94 : decode cX1_carryOut 94 = .ok (.iconst 0, 1) := by decide +kernel
theorem dX1_carryOut_95 : decode cX1_carryOut 95 = .ok (.istore 6, 2) := by decide +kernel
theorem dX1_carryOut_97 : decode cX1_carryOut 97 = .ok (.iload 4, 2) := by decide +kernel
theorem dX1_carryOut_99 : decode cX1_carryOut 99 = .ok (.iconst 4, 1) := by decide +kernel
theorem dX1_carryOut_100 : decode cX1_carryOut 100 = .ok (.if_icmp .ne 16, 3) := by decide +kernel
theorem dX1_carryOut_103 : decode cX1_carryOut 103 = .ok (.iload_n 2, 1) := by decide +kernel
theorem dX1_carryOut_104 : decode cX1_carryOut 104 = .ok (.bipush 6, 2) := by decide +kernel
theorem dX1_carryOut_106 : decode cX1_carryOut 106 = .ok (.idiv, 1) := by decide +kernel
theorem dX1_carryOut_107 : decode cX1_carryOut 107 = .ok (.iload 6, 2) := by decide +kernel
theorem dX1_carryOut_109 : decode cX1_carryOut 109 = .ok (.if_icmp .ne 7, 3) := by decide +kernel
theorem dX1_carryOut_112 : decode cX1_carryOut 112 = .ok (.iconst 1, 1) := by decide +kernel
theorem dX1_carryOut_113 : decode cX1_carryOut 113 = .ok (.goto 4, 3) := by decide +kernel
theorem dX1_carryOut_116 : decode cX1_carryOut 116 = .ok (.iconst 0, 1) := by decide +kernel
theorem dX1_carryOut_117 : decode cX1_carryOut 117 = .ok (.istore 7, 2) := by decide +kernel
theorem dX1_carryOut_119 : decode cX1_carryOut 119 = .ok (.aload_n 0, 1) := by decide +kernel
theorem dX1_carryOut_120 : decode cX1_carryOut 120 = .ok (.getfield 12, 3) := by decide +kernel
theorem dX1_carryOut_123 : decode cX1_carryOut 123 = .ok (.iload_n 2, 1) := by decide +kernel
theorem dX1_carryOut_124 : decode cX1_carryOut 124 = .ok (.aload_n 0, 1) := by decide +kernel
theorem dX1_carryOut_125 : decode cX1_carryOut 125 = .ok (.getfield 35, 3) := by decide +kernel
theorem dX1_carryOut_128 : decode cX1_carryOut 128 = .ok (.iload 7, 2) := by decide +kernel
theorem dX1_carryOut_130 : decode cX1_carryOut 130 = .ok (.ifCond .eq 7, 3) := by decide +kernel
theorem dX1_carryOut_133 : decode cX1_carryOut 133 = .ok (.iconst 1, 1) := by decide +kernel
theorem dX1_carryOut_134 : decode cX1_carryOut 134 = .ok (.goto 5, 3) := by decide +kernel
theorem dX1_carryOut_137 : decode cX1_carryOut 137 = .ok (.iload 4, 2) := by decide +kernel
theorem dX1_carryOut_139 : decode cX1_carryOut 139 = .ok (.iload 5, 2) := by decide +kernel
theorem dX1_carryOut_141 : decode cX1_carryOut 141 = .ok (.invokevirtual 88, 3) := by decide +kernel
theorem dX1_carryOut_144 : decode cX1_carryOut 144 = .ok (.aload_n 0, 1) := by decide +kernel
theorem dX1_carryOut_145 : decode cX1_carryOut 145 = .ok (.getfield 12, 3) := by decide +kernel
theorem dX1_carryOut_148 : decode cX1_carryOut 148 = .ok (.iload_n 1, 1) := by decide +kernel
theorem dX1_carryOut_149 : decode cX1_carryOut 149 = .ok (.invokevirtual 85, 3) := by decide +kernel
theorem dX1_carryOut_152 : decode cX1_carryOut 152 = .ok (.aload_n 0, 1) := by decide +kernel
theorem dX1_carryOut_153 : decode cX1_carryOut 153 = .ok (.dup, 1) := by decide +kernel
theorem dX1_carryOut_154 : decode cX1_carryOut 154 = .ok (.getfield 57, 3) := by decide +kernel
theorem dX1_carryOut_157 : decode cX1_carryOut 157 = .ok (.iload_n 3, 1) := by decide +kernel
theorem dX1_carryOut_158 : decode cX1_carryOut 158 = .ok (.iadd, 1) := by decide +kernel
theorem dX1_carryOut_159 : decode cX1_carryOut 159 = .ok (.putfield 57, 3) := by decide +kernel
theorem dX1_carryOut_162 : decode cX1_carryOut 162 = .ok (.aload_n 0, 1) := by decide +kernel
theorem dX1_carryOut_163 : decode cX1_carryOut 163 = .ok (.dup, 1) := by decide +kernel
theorem dX1_carryOut_164 : decode cX1_carryOut 164 = .ok (.getfield 41, 3) := by decide +kernel
theorem dX1_carryOut_167 : decode cX1_carryOut 167 = .ok (.iconst 1, 1) := by decide +kernel
theorem dX1_carryOut_168 : decode cX1_carryOut 168 = .ok (.iadd, 1) := by decide +kernel
theorem dX1_carryOut_169 : decode cX1_carryOut 169 = .ok (.putfield 41, 3) := by decide +kernel
theorem dX1_carryOut_172 : decode cX1_carryOut 172 = .ok (.aload_n 0, 1) := by decide +kernel
theorem dX1_carryOut_173 : decode cX1_carryOut 173 = .ok (.iconst 0, 1) := by decide +kernel
theorem dX1_carryOut_174 : decode cX1_carryOut 174 = .ok (.putfield 44, 3) := by decide +kernel
theorem dX1_carryOut_177 : decode cX1_carryOut 177 = .ok (.iload_n 3, 1) := by decide +kernel
theorem dX1_carryOut_178 : decode cX1_carryOut 178 = .ok (.ireturn, 1) := by decide +kernel
theorem dX1_springBehindTaking_0 : decode cX1_springBehindTaking 0 = .ok (.iload_n 2, 1) := by decide +kernel
theorem dX1_springBehindTaking_1 : decode cX1_springBehindTaking 1 = .ok (.iconst 2, 1) := by decide +kernel
theorem dX1_springBehindTaking_2 : decode cX1_springBehindTaking 2 = .ok (.idiv, 1) := by decide +kernel
theorem dX1_springBehindTaking_3 : decode cX1_springBehindTaking 3 = .ok (.istore_n 3, 1) := by decide +kernel
theorem dX1_springBehindTaking_4 : decode cX1_springBehindTaking 4 = .ok (.iload_n 1, 1) := by decide +kernel
theorem dX1_springBehindTaking_5 : decode cX1_springBehindTaking 5 = .ok (.iload_n 3, 1) := by decide +kernel
theorem dX1_springBehindTaking_6 : decode cX1_springBehindTaking 6 = .ok (.iadd, 1) := by decide +kernel
theorem dX1_springBehindTaking_7 : decode cX1_springBehindTaking 7 = .ok (.aload_n 0, 1) := by decide +kernel
theorem dX1_springBehindTaking_8 : decode cX1_springBehindTaking 8 = .ok (.getfield 22, 3) := by decide +kernel
theorem dX1_springBehindTaking_11 : decode cX1_springBehindTaking 11 = .ok (.iadd, 1) := by decide +kernel
theorem dX1_springBehindTaking_12 : decode cX1_springBehindTaking 12 = .ok (.istore 4, 2) := by decide +kernel
theorem dX1_springBehindTaking_14 : decode cX1_springBehindTaking 14 = .ok (.iload 4, 2) := by decide +kernel
theorem dX1_springBehindTaking_16 : decode cX1_springBehindTaking 16 = .ok (.aload_n 0, 1) := by decide +kernel
theorem dX1_springBehindTaking_17 : decode cX1_springBehindTaking 17 = .ok (.getfield 18, 3) := by decide +kernel
theorem dX1_springBehindTaking_20 : decode cX1_springBehindTaking 20 = .ok (.invokestatic 122, 3) := by decide +kernel
theorem dX1_springBehindTaking_23 : decode cX1_springBehindTaking 23 = .ok (.istore 5, 2) := by decide +kernel
theorem dX1_springBehindTaking_25 : decode cX1_springBehindTaking 25 = .ok (.aload_n 0, 1) := by decide +kernel
theorem dX1_springBehindTaking_26 : decode cX1_springBehindTaking 26 = .ok (.dup, 1) := by decide +kernel
theorem dX1_springBehindTaking_27 : decode cX1_springBehindTaking 27 = .ok (.getfield 54, 3) := by decide +kernel
theorem dX1_springBehindTaking_30 : decode cX1_springBehindTaking 30 = .ok (.aload_n 0, 1) := by decide +kernel
theorem dX1_springBehindTaking_31 : decode cX1_springBehindTaking 31 = .ok (.getfield 22, 3) := by decide +kernel
theorem dX1_springBehindTaking_34 : decode cX1_springBehindTaking 34 = .ok (.iadd, 1) := by decide +kernel
theorem dX1_springBehindTaking_35 : decode cX1_springBehindTaking 35 = .ok (.putfield 54, 3) := by decide +kernel
theorem dX1_springBehindTaking_38 : decode cX1_springBehindTaking 38 = .ok (.aload_n 0, 1) := by decide +kernel
theorem dX1_springBehindTaking_39 : decode cX1_springBehindTaking 39 = .ok (.dup, 1) := by decide +kernel
theorem dX1_springBehindTaking_40 : decode cX1_springBehindTaking 40 = .ok (.getfield 60, 3) := by decide +kernel
theorem dX1_springBehindTaking_43 : decode cX1_springBehindTaking 43 = .ok (.iload_n 2, 1) := by decide +kernel
theorem dX1_springBehindTaking_44 : decode cX1_springBehindTaking 44 = .ok (.iload_n 3, 1) := by decide +kernel
theorem dX1_springBehindTaking_45 : decode cX1_springBehindTaking 45 = .ok (.isub, 1) := by decide +kernel
theorem dX1_springBehindTaking_46 : decode cX1_springBehindTaking 46 = .ok (.iload 4, 2) := by decide +kernel
theorem dX1_springBehindTaking_48 : decode cX1_springBehindTaking 48 = .ok (.iadd, 1) := by decide +kernel
theorem dX1_springBehindTaking_49 : decode cX1_springBehindTaking 49 = .ok (.iload 5, 2) := by decide +kernel
theorem dX1_springBehindTaking_51 : decode cX1_springBehindTaking 51 = .ok (.isub, 1) := by decide +kernel
theorem dX1_springBehindTaking_52 : decode cX1_springBehindTaking 52 = .ok (.iadd, 1) := by decide +kernel
theorem dX1_springBehindTaking_53 : decode cX1_springBehindTaking 53 = .ok (.putfield 60, 3) := by decide +kernel
theorem dX1_springBehindTaking_56 : decode cX1_springBehindTaking 56 = .ok (.iload 5, 2) := by decide +kernel
theorem dX1_springBehindTaking_58 : decode cX1_springBehindTaking 58 = .ok (.ireturn, 1) := by decide +kernel
theorem dX1_makePass_0 : decode cX1_makePass 0 = .ok (.aload_n 0, 1) := by decide +kernel
theorem dX1_makePass_1 : decode cX1_makePass 1 = .ok (.dup, 1) := by decide +kernel
theorem dX1_makePass_2 : decode cX1_makePass 2 = .ok (.getfield 41, 3) := by decide +kernel
theorem dX1_makePass_5 : decode cX1_makePass 5 = .ok (.iconst 1, 1) := by decide +kernel
theorem dX1_makePass_6 : decode cX1_makePass 6 = .ok (.iadd, 1) := by decide +kernel
theorem dX1_makePass_7 : decode cX1_makePass 7 = .ok (.putfield 41, 3) := by decide +kernel
theorem dX1_makePass_10 : decode cX1_makePass 10 = .ok (.aload_n 0, 1) := by decide +kernel
theorem dX1_makePass_11 : decode cX1_makePass 11 = .ok (.getfield 44, 3) := by decide +kernel
theorem dX1_makePass_14 : decode cX1_makePass 14 = .ok (.ifCond .eq 46, 3) := by decide +kernel
theorem dX1_makePass_17 : decode cX1_makePass 17 = .ok (.aload_n 0, 1) := by decide +kernel
theorem dX1_makePass_18 : decode cX1_makePass 18 = .ok (.iconst 2, 1) := by decide +kernel
theorem dX1_makePass_19 : decode cX1_makePass 19 = .ok (.putfield 38, 3) := by decide +kernel
theorem dX1_makePass_22 : decode cX1_makePass 22 = .ok (.aload_n 0, 1) := by decide +kernel
theorem dX1_makePass_23 : decode cX1_makePass 23 = .ok (.getfield 12, 3) := by decide +kernel
theorem dX1_makePass_26 : decode cX1_makePass 26 = .ok (.iconst 0, 1) := by decide +kernel
theorem dX1_makePass_27 : decode cX1_makePass 27 = .ok (.invokevirtual 127, 3) := by decide +kernel
theorem dX1_makePass_30 : decode cX1_makePass 30 = .ok (.aload_n 0, 1) := by decide +kernel
theorem dX1_makePass_31 : decode cX1_makePass 31 = .ok (.getfield 12, 3) := by decide +kernel
theorem dX1_makePass_34 : decode cX1_makePass 34 = .ok (.iconst 1, 1) := by decide +kernel
theorem dX1_makePass_35 : decode cX1_makePass 35 = .ok (.invokevirtual 127, 3) := by decide +kernel
theorem dX1_makePass_38 : decode cX1_makePass 38 = .ok (.isub, 1) := by decide +kernel
theorem dX1_makePass_39 : decode cX1_makePass 39 = .ok (.istore_n 1, 1) := by decide +kernel
theorem dX1_makePass_40 : decode cX1_makePass 40 = .ok (.iload_n 1, 1) := by decide +kernel
theorem dX1_makePass_41 : decode cX1_makePass 41 = .ok (.ifCond .eq 16, 3) := by decide +kernel
theorem dX1_makePass_44 : decode cX1_makePass 44 = .ok (.aload_n 0, 1) := by decide +kernel
theorem dX1_makePass_45 : decode cX1_makePass 45 = .ok (.iload_n 1, 1) := by decide +kernel
theorem dX1_makePass_46 : decode cX1_makePass 46 = .ok (.ifCond .le 7, 3) := by decide +kernel
theorem dX1_makePass_49 : decode cX1_makePass 49 = .ok (.iconst 0, 1) := by decide +kernel
theorem dX1_makePass_50 : decode cX1_makePass 50 = .ok (.goto 4, 3) := by decide +kernel
theorem dX1_makePass_53 : decode cX1_makePass 53 = .ok (.iconst 1, 1) := by decide +kernel
theorem dX1_makePass_54 : decode cX1_makePass 54 = .ok (.putfield 28, 3) := by decide +kernel
theorem dX1_makePass_57 : decode cX1_makePass 57 = .ok (.goto 18, 3) := by decide +kernel
theorem dX1_makePass_60 : decode cX1_makePass 60 = .ok (.aload_n 0, 1) := by decide +kernel
theorem dX1_makePass_61 : decode cX1_makePass 61 = .ok (.iconst 1, 1) := by decide +kernel
theorem dX1_makePass_62 : decode cX1_makePass 62 = .ok (.putfield 44, 3) := by decide +kernel
theorem dX1_makePass_65 : decode cX1_makePass 65 = .ok (.aload_n 0, 1) := by decide +kernel
theorem dX1_makePass_66 : decode cX1_makePass 66 = .ok (.iconst 1, 1) := by decide +kernel
theorem dX1_makePass_67 : decode cX1_makePass 67 = .ok (.aload_n 0, 1) := by decide +kernel
theorem dX1_makePass_68 : decode cX1_makePass 68 = .ok (.getfield 35, 3) := by decide +kernel
theorem dX1_makePass_71 : decode cX1_makePass 71 = .ok (.isub, 1) := by decide +kernel
theorem dX1_makePass_72 : decode cX1_makePass 72 = .ok (.invokevirtual 113, 3) := by decide +kernel
theorem dX1_makePass_75 : decode cX1_makePass 75 = .ok (.return_, 1) := by decide +kernel
theorem dX1_beginTurn_0 : decode cX1_beginTurn 0 = .ok (.aload_n 0, 1) := by decide +kernel
theorem dX1_beginTurn_1 : decode cX1_beginTurn 1 = .ok (.iload_n 1, 1) := by decide +kernel
theorem dX1_beginTurn_2 : decode cX1_beginTurn 2 = .ok (.putfield 35, 3) := by decide +kernel
theorem dX1_beginTurn_5 : decode cX1_beginTurn 5 = .ok (.iconst 0, 1) := by decide +kernel
theorem dX1_beginTurn_6 : decode cX1_beginTurn 6 = .ok (.istore_n 2, 1) := by decide +kernel
theorem dX1_beginTurn_7 : decode cX1_beginTurn 7 = .ok (.iload_n 2, 1) := by decide +kernel
theorem dX1_beginTurn_8 : decode cX1_beginTurn 8 = .ok (.bipush 36, 2) := by decide +kernel
theorem dX1_beginTurn_10 : decode cX1_beginTurn 10 = .ok (.if_icmp .ge 81, 3) := by decide +kernel
theorem dX1_beginTurn_13 : decode cX1_beginTurn 13 = .ok (.aload_n 0, 1) := by decide +kernel
theorem dX1_beginTurn_14 : decode cX1_beginTurn 14 = .ok (.getfield 12, 3) := by decide +kernel
theorem dX1_beginTurn_17 : decode cX1_beginTurn 17 = .ok (.iload_n 2, 1) := by decide +kernel
theorem dX1_beginTurn_18 : decode cX1_beginTurn 18 = .ok (.invokevirtual 100, 3) := by decide +kernel
theorem dX1_beginTurn_21 : decode cX1_beginTurn 21 = .ok (.iload_n 1, 1) := by decide +kernel
theorem dX1_beginTurn_22 : decode cX1_beginTurn 22 = .ok (.if_icmp .ne 63, 3) := by decide +kernel
theorem dX1_beginTurn_25 : decode cX1_beginTurn 25 = .ok (.aload_n 0, 1) := by decide +kernel
theorem dX1_beginTurn_26 : decode cX1_beginTurn 26 = .ok (.getfield 12, 3) := by decide +kernel
theorem dX1_beginTurn_29 : decode cX1_beginTurn 29 = .ok (.iload_n 2, 1) := by decide +kernel
theorem dX1_beginTurn_30 : decode cX1_beginTurn 30 = .ok (.invokevirtual 130, 3) := by decide +kernel
theorem dX1_beginTurn_33 : decode cX1_beginTurn 33 = .ok (.ifCond .eq 52, 3) := by decide +kernel
theorem dX1_beginTurn_36 : decode cX1_beginTurn 36 = .ok (.aload_n 0, 1) := by decide +kernel
theorem dX1_beginTurn_37 : decode cX1_beginTurn 37 = .ok (.getfield 25, 3) := by decide +kernel
theorem dX1_beginTurn_40 : decode cX1_beginTurn 40 = .ok (.aload_n 0, 1) := by decide +kernel
theorem dX1_beginTurn_41 : decode cX1_beginTurn 41 = .ok (.getfield 18, 3) := by decide +kernel
theorem dX1_beginTurn_44 : decode cX1_beginTurn 44 = .ok (.aload_n 0, 1) := by decide +kernel
theorem dX1_beginTurn_45 : decode cX1_beginTurn 45 = .ok (.getfield 12, 3) := by decide +kernel
theorem dX1_beginTurn_48 : decode cX1_beginTurn 48 = .ok (.iload_n 2, 1) := by decide +kernel
theorem dX1_beginTurn_49 : decode cX1_beginTurn 49 = .ok (.invokevirtual 77, 3) := by decide +kernel
theorem dX1_beginTurn_52 : decode cX1_beginTurn 52 = .ok (.isub, 1) := by decide +kernel
theorem dX1_beginTurn_53 : decode cX1_beginTurn 53 = .ok (.invokestatic 122, 3) := by decide +kernel
theorem dX1_beginTurn_56 : decode cX1_beginTurn 56 = .ok (.istore_n 3, 1) := by decide +kernel
theorem dX1_beginTurn_57 : decode cX1_beginTurn 57 = .ok (.aload_n 0, 1) := by decide +kernel
theorem dX1_beginTurn_58 : decode cX1_beginTurn 58 = .ok (.getfield 12, 3) := by decide +kernel
theorem dX1_beginTurn_61 : decode cX1_beginTurn 61 = .ok (.iload_n 2, 1) := by decide +kernel
theorem dX1_beginTurn_62 : decode cX1_beginTurn 62 = .ok (.aload_n 0, 1) := by decide +kernel
theorem dX1_beginTurn_63 : decode cX1_beginTurn 63 = .ok (.getfield 12, 3) := by decide +kernel
theorem dX1_beginTurn_66 : decode cX1_beginTurn 66 = .ok (.iload_n 2, 1) := by decide +kernel
theorem dX1_beginTurn_67 : decode cX1_beginTurn 67 = .ok (.invokevirtual 77, 3) := by decide +kernel
theorem dX1_beginTurn_70 : decode cX1_beginTurn 70 = .ok (.iload_n 3, 1) := by decide +kernel
theorem dX1_beginTurn_71 : decode cX1_beginTurn 71 = .ok (.iadd, 1) := by decide +kernel
theorem dX1_beginTurn_72 : decode cX1_beginTurn 72 = .ok (.invokevirtual 81, 3) := by decide +kernel
theorem dX1_beginTurn_75 : decode cX1_beginTurn 75 = .ok (.aload_n 0, 1) := by decide +kernel
theorem dX1_beginTurn_76 : decode cX1_beginTurn 76 = .ok (.dup, 1) := by decide +kernel
theorem dX1_beginTurn_77 : decode cX1_beginTurn 77 = .ok (.getfield 51, 3) := by decide +kernel
theorem dX1_beginTurn_80 : decode cX1_beginTurn 80 = .ok (.iload_n 3, 1) := by decide +kernel
theorem dX1_beginTurn_81 : decode cX1_beginTurn 81 = .ok (.iadd, 1) := by decide +kernel
theorem dX1_beginTurn_82 : decode cX1_beginTurn 82 = .ok (.putfield 51, 3) := by decide +kernel
theorem dX1_beginTurn_85 : decode cX1_beginTurn 85 = .ok (.iinc 2 1, 3) := by decide +kernel
theorem dX1_beginTurn_88 : decode cX1_beginTurn 88 = .ok (.goto (-81), 3) := by decide +kernel
theorem dX1_beginTurn_91 : decode cX1_beginTurn 91 = .ok (.return_, 1) := by decide +kernel
theorem dX2_init_0 : decode cX2_init 0 = .ok (.aload_n 0, 1) := by decide +kernel
theorem dX2_init_1 : decode cX2_init 1 = .ok (.invokespecial 1, 3) := by decide +kernel
theorem dX2_init_4 : decode cX2_init 4 = .ok (.aload_n 0, 1) := by decide +kernel
theorem dX2_init_5 : decode cX2_init 5 = .ok (.new 7, 3) := by decide +kernel
theorem dX2_init_8 : decode cX2_init 8 = .ok (.dup, 1) := by decide +kernel
theorem dX2_init_9 : decode cX2_init 9 = .ok (.invokespecial 9, 3) := by decide +kernel
theorem dX2_init_12 : decode cX2_init 12 = .ok (.putfield 10, 3) := by decide +kernel
theorem dX2_init_15 : decode cX2_init 15 = .ok (.aload_n 0, 1) := by decide +kernel
theorem dX2_init_16 : decode cX2_init 16 = .ok (.new 7, 3) := by decide +kernel
theorem dX2_init_19 : decode cX2_init 19 = .ok (.dup, 1) := by decide +kernel
theorem dX2_init_20 : decode cX2_init 20 = .ok (.invokespecial 9, 3) := by decide +kernel
theorem dX2_init_23 : decode cX2_init 23 = .ok (.putfield 16, 3) := by decide +kernel
theorem dX2_init_26 : decode cX2_init 26 = .ok (.aload_n 0, 1) := by decide +kernel
theorem dX2_init_27 : decode cX2_init 27 = .ok (.iconst 5, 1) := by decide +kernel
theorem dX2_init_28 : decode cX2_init 28 = .ok (.anewarray 7, 3) := by decide +kernel
theorem dX2_init_31 : decode cX2_init 31 = .ok (.putfield 19, 3) := by decide +kernel
theorem dX2_init_34 : decode cX2_init 34 = .ok (.aload_n 0, 1) := by decide +kernel
theorem dX2_init_35 : decode cX2_init 35 = .ok (.bipush 80, 2) := by decide +kernel
theorem dX2_init_37 : decode cX2_init 37 = .ok (.newarray .char, 2) := by decide +kernel
theorem dX2_init_39 : decode cX2_init 39 = .ok (.putfield 23, 3) := by decide +kernel
theorem dX2_init_42 : decode cX2_init 42 = .ok (.aload_n 0, 1) := by decide +kernel
theorem dX2_init_43 : decode cX2_init 43 = .ok (.bipush 36, 2) := by decide +kernel
theorem dX2_init_45 : decode cX2_init 45 = .ok (.newarray .int, 2) := by decide +kernel
theorem dX2_init_47 : decode cX2_init 47 = .ok (.putfield 27, 3) := by decide +kernel
theorem dX2_init_50 : decode cX2_init 50 = .ok (.aload_n 0, 1) := by decide +kernel
theorem dX2_init_51 : decode cX2_init 51 = .ok (.bipush 36, 2) := by decide +kernel
theorem dX2_init_53 : decode cX2_init 53 = .ok (.newarray .int, 2) := by decide +kernel
theorem dX2_init_55 : decode cX2_init 55 = .ok (.putfield 31, 3) := by decide +kernel
theorem dX2_init_58 : decode cX2_init 58 = .ok (.iconst 0, 1) := by decide +kernel
theorem dX2_init_59 : decode cX2_init 59 = .ok (.istore_n 1, 1) := by decide +kernel
theorem dX2_init_60 : decode cX2_init 60 = .ok (.iload_n 1, 1) := by decide +kernel
theorem dX2_init_61 : decode cX2_init 61 = .ok (.aload_n 0, 1) := by decide +kernel
theorem dX2_init_62 : decode cX2_init 62 = .ok (.getfield 19, 3) := by decide +kernel
theorem dX2_init_65 : decode cX2_init 65 = .ok (.arraylength, 1) := by decide +kernel
theorem dX2_init_66 : decode cX2_init 66 = .ok (.if_icmp .ge 22, 3) := by decide +kernel
theorem dX2_init_69 : decode cX2_init 69 = .ok (.aload_n 0, 1) := by decide +kernel
theorem dX2_init_70 : decode cX2_init 70 = .ok (.getfield 19, 3) := by decide +kernel
theorem dX2_init_73 : decode cX2_init 73 = .ok (.iload_n 1, 1) := by decide +kernel
theorem dX2_init_74 : decode cX2_init 74 = .ok (.new 7, 3) := by decide +kernel
theorem dX2_init_77 : decode cX2_init 77 = .ok (.dup, 1) := by decide +kernel
theorem dX2_init_78 : decode cX2_init 78 = .ok (.invokespecial 9, 3) := by decide +kernel
theorem dX2_init_81 : decode cX2_init 81 = .ok (.aastore, 1) := by decide +kernel
theorem dX2_init_82 : decode cX2_init 82 = .ok (.iinc 1 1, 3) := by decide +kernel
theorem dX2_init_85 : decode cX2_init 85 = .ok (.goto (-25), 3) := by decide +kernel
theorem dX2_init_88 : decode cX2_init 88 = .ok (.aload_n 0, 1) := by decide +kernel
theorem dX2_init_89 : decode cX2_init 89 = .ok (.getfield 10, 3) := by decide +kernel
theorem dX2_init_92 : decode cX2_init 92 = .ok (.invokevirtual 34, 3) := by decide +kernel
theorem dX2_init_95 : decode cX2_init 95 = .ok (.return_, 1) := by decide +kernel
theorem dX2_setUp_0 : decode cX2_setUp 0 = .ok (.aload_n 0, 1) := by decide +kernel
theorem dX2_setUp_1 : decode cX2_setUp 1 = .ok (.invokevirtual 37, 3) := by decide +kernel
theorem dX2_setUp_4 : decode cX2_setUp 4 = .ok (.aload_n 0, 1) := by decide +kernel
theorem dX2_setUp_5 : decode cX2_setUp 5 = .ok (.getfield 10, 3) := by decide +kernel
theorem dX2_setUp_8 : decode cX2_setUp 8 = .ok (.invokevirtual 34, 3) := by decide +kernel
theorem dX2_setUp_11 : decode cX2_setUp 11 = .ok (.aload_n 0, 1) := by decide +kernel
theorem dX2_setUp_12 : decode cX2_setUp 12 = .ok (.getfield 10, 3) := by decide +kernel
theorem dX2_setUp_15 : decode cX2_setUp 15 = .ok (.getfield 40, 3) := by decide +kernel
theorem dX2_setUp_18 : decode cX2_setUp 18 = .ok (.invokevirtual 44, 3) := by decide +kernel
theorem dX2_setUp_21 : decode cX2_setUp 21 = .ok (.ireturn, 1) := by decide +kernel
theorem dX2_set_0 : decode cX2_set 0 = .ok (.iload_n 1, 1) := by decide +kernel
theorem dX2_set_1 : decode cX2_set 1 = .ok (.iload_n 2, 1) := by decide +kernel
theorem dX2_set_2 : decode cX2_set 2 = .ok (.invokestatic 50, 3) := by decide +kernel
theorem dX2_set_5 : decode cX2_set 5 = .ok (.ifCond .ne 5, 3) := by decide +kernel
theorem dX2_set_8 : decode cX2_set 8 = .ok (.iconst (-1), 1) := by decide +kernel
theorem dX2_set_9 : decode cX2_set 9 = .ok (.ireturn, 1) := by decide +kernel
theorem dX2_set_10 : decode cX2_set 10 = .ok (.aload_n 0, 1) := by decide +kernel
theorem dX2_set_11 : decode cX2_set 11 = .ok (.invokevirtual 37, 3) := by decide +kernel
theorem dX2_set_14 : decode cX2_set 14 = .ok (.aload_n 0, 1) := by decide +kernel
theorem dX2_set_15 : decode cX2_set 15 = .ok (.getfield 10, 3) := by decide +kernel
theorem dX2_set_18 : decode cX2_set 18 = .ok (.iload_n 1, 1) := by decide +kernel
theorem dX2_set_19 : decode cX2_set 19 = .ok (.invokevirtual 54, 3) := by decide +kernel
theorem dX2_set_22 : decode cX2_set 22 = .ok (.istore_n 3, 1) := by decide +kernel
theorem dX2_set_23 : decode cX2_set 23 = .ok (.aload_n 0, 1) := by decide +kernel
theorem dX2_set_24 : decode cX2_set 24 = .ok (.getfield 10, 3) := by decide +kernel
theorem dX2_set_27 : decode cX2_set 27 = .ok (.iload_n 1, 1) := by decide +kernel
theorem dX2_set_28 : decode cX2_set 28 = .ok (.iload_n 2, 1) := by decide +kernel
theorem dX2_set_29 : decode cX2_set 29 = .ok (.invokevirtual 58, 3) := by decide +kernel
theorem dX2_set_32 : decode cX2_set 32 = .ok (.iload_n 3, 1) := by decide +kernel
theorem dX2_set_33 : decode cX2_set 33 = .ok (.ireturn, 1) := by decide +kernel
theorem dX2_put_0 : decode cX2_put 0 = .ok (.iload_n 2, 1) := by decide +kernel
theorem dX2_put_1 : decode cX2_put 1 = .ok (.invokestatic 62, 3) := by decide +kernel
theorem dX2_put_4 : decode cX2_put 4 = .ok (.ifCond .ne 8, 3) := by decide +kernel
theorem dX2_put_7 : decode cX2_put 7 = .ok (.iload_n 2, 1) := by decide +kernel
theorem dX2_put_8 : decode cX2_put 8 = .ok (.iconst (-1), 1) := by decide +kernel
theorem dX2_put_9 : decode cX2_put 9 = .ok (.if_icmp .ne 7, 3) := by decide +kernel
theorem dX2_put_12 : decode cX2_put 12 = .ok (.iconst 1, 1) := by decide +kernel
theorem dX2_put_13 : decode cX2_put 13 = .ok (.goto 4, 3) := by decide +kernel
theorem dX2_put_16 : decode cX2_put 16 = .ok (.iconst 0, 1) := by decide +kernel
theorem dX2_put_17 : decode cX2_put 17 = .ok (.istore 5, 2) := by decide +kernel
theorem dX2_put_19 : decode cX2_put 19 = .ok (.iload_n 3, 1) := by decide +kernel
theorem dX2_put_20 : decode cX2_put 20 = .ok (.ifCond .lt 12, 3) := by decide +kernel
theorem dX2_put_23 : decode cX2_put 23 = .ok (.iload_n 3, 1) := by decide +kernel
theorem dX2_put_24 : decode cX2_put 24 = .ok (.iconst 4, 1) := by decide +kernel
theorem dX2_put_25 : decode cX2_put 25 = .ok (.if_icmp .gt 7, 3) := by decide +kernel
theorem dX2_put_28 : decode cX2_put 28 = .ok (.iconst 1, 1) := by decide +kernel
theorem dX2_put_29 : decode cX2_put 29 = .ok (.goto 4, 3) := by decide +kernel
theorem dX2_put_32 : decode cX2_put 32 = .ok (.iconst 0, 1) := by decide +kernel
theorem dX2_put_33 : decode cX2_put 33 = .ok (.istore 6, 2) := by decide +kernel
theorem dX2_put_35 : decode cX2_put 35 = .ok (.iload 4, 2) := by decide +kernel
theorem dX2_put_37 : decode cX2_put 37 = .ok (.ifCond .lt 19, 3) := by decide +kernel
theorem dX2_put_40 : decode cX2_put 40 = .ok (.iload 4, 2) := by decide +kernel
theorem dX2_put_42 : decode cX2_put 42 = .ok (.aload_n 0, 1) := by decide +kernel
theorem dX2_put_43 : decode cX2_put 43 = .ok (.getfield 10, 3) := by decide +kernel
theorem dX2_put_46 : decode cX2_put 46 = .ok (.getfield 66, 3) := by decide +kernel
theorem dX2_put_49 : decode cX2_put 49 = .ok (.if_icmp .gt 7, 3) := by decide +kernel
theorem dX2_put_52 : decode cX2_put 52 = .ok (.iconst 1, 1) := by decide +kernel
theorem dX2_put_53 : decode cX2_put 53 = .ok (.goto 4, 3) := by decide +kernel
theorem dX2_put_56 : decode cX2_put 56 = .ok (.iconst 0, 1) := by decide +kernel
theorem dX2_put_57 : decode cX2_put 57 = .ok (.istore 7, 2) := by decide +kernel
theorem dX2_put_59 : decode cX2_put 59 = .ok (.iload_n 1, 1) := by decide +kernel
theorem dX2_put_60 : decode cX2_put 60 = .ok (.invokestatic 70, 3) := by decide +kernel
theorem dX2_put_63 : decode cX2_put 63 = .ok (.ifCond .eq 18, 3) := by decide +kernel
theorem dX2_put_66 : decode cX2_put 66 = .ok (.iload 5, 2) := by decide +kernel
theorem dX2_put_68 : decode cX2_put 68 = .ok (.ifCond .eq 13, 3) := by decide +kernel
theorem dX2_put_71 : decode cX2_put 71 = .ok (.iload 6, 2) := by decide +kernel
theorem dX2_put_73 : decode cX2_put 73 = .ok (.ifCond .eq 8, 3) := by decide +kernel
theorem dX2_put_76 : decode cX2_put 76 = .ok (.iload 7, 2) := by decide +kernel
theorem dX2_put_78 : decode cX2_put 78 = .ok (.ifCond .ne 5, 3) := by decide +kernel
theorem dX2_put_81 : decode cX2_put 81 = .ok (.iconst (-1), 1) := by decide +kernel
theorem dX2_put_82 : decode cX2_put 82 = .ok (.ireturn, 1) := by decide +kernel
theorem dX2_put_83 : decode cX2_put 83 = .ok (.aload_n 0, 1) := by decide +kernel
theorem dX2_put_84 : decode cX2_put 84 = .ok (.getfield 10, 3) := by decide +kernel
theorem dX2_put_87 : decode cX2_put 87 = .ok (.invokevirtual 73, 3) := by decide +kernel
theorem dX2_put_90 : decode cX2_put 90 = .ok (.ifCond .eq 6, 3) := by decide +kernel
theorem dX2_put_93 : decode cX2_put 93 = .ok (.bipush (-2), 2) := by decide +kernel
theorem dX2_put_95 : decode cX2_put 95 = .ok (.ireturn, 1) := by decide +kernel
theorem dX2_put_96 : decode cX2_put 96 = .ok (.aload_n 0, 1) := by decide +kernel
theorem dX2_put_97 : decode cX2_put 97 = .ok (.invokevirtual 37, 3) := by decide +kernel
theorem dX2_put_100 : decode cX2_put 100 = .ok (.aload_n 0, 1) := by decide +kernel
theorem dX2_put_101 : decode cX2_put 101 = .ok (.getfield 10, 3) := by decide +kernel
theorem dX2_put_104 : decode cX2_put 104 = .ok (.getfield 40, 3) := by decide +kernel
theorem dX2_put_107 : decode cX2_put 107 = .ok (.iload_n 1, 1) := by decide +kernel
theorem dX2_put_108 : decode cX2_put 108 = .ok (.invokevirtual 77, 3) := by decide +kernel
theorem dX2_put_111 : decode cX2_put 111 = .ok (.istore 8, 2) := by decide +kernel
theorem dX2_put_113 : decode cX2_put 113 = .ok (.aload_n 0, 1) := by decide +kernel
theorem dX2_put_114 : decode cX2_put 114 = .ok (.getfield 10, 3) := by decide +kernel
theorem dX2_put_117 : decode cX2_put 117 = .ok (.iload_n 1, 1) := by decide +kernel
theorem dX2_put_118 : decode cX2_put 118 = .ok (.iload_n 2, 1) := by decide +kernel
theorem dX2_put_119 : decode cX2_put 119 = .ok (.iload_n 3, 1) := by decide +kernel
theorem dX2_put_120 : decode cX2_put 120 = .ok (.iload 4, 2) := by decide +kernel
theorem dX2_put_122 : decode cX2_put 122 = .ok (.invokevirtual 80, 3) := by decide +kernel
theorem dX2_put_125 : decode cX2_put 125 = .ok (.iload 8, 2) := by decide +kernel
theorem dX2_put_127 : decode cX2_put 127 = .ok (.ifCond .eq 7, 3) := by decide +kernel
theorem dX2_put_130 : decode cX2_put 130 = .ok (.iconst 1, 1) := by decide +kernel
theorem dX2_put_131 : decode cX2_put 131 = .ok (.goto 4, 3) := by decide +kernel
theorem dX2_put_134 : decode cX2_put 134 = .ok (.iconst 0, 1) := by decide +kernel
theorem dX2_put_135 : decode cX2_put 135 = .ok (.ireturn, 1) := by decide +kernel
theorem dX2_tower_0 : decode cX2_tower 0 = .ok (.iload_n 1, 1) := by decide +kernel
theorem dX2_tower_1 : decode cX2_tower 1 = .ok (.invokestatic 70, 3) := by decide +kernel
theorem dX2_tower_4 : decode cX2_tower 4 = .ok (.ifCond .ne 5, 3) := by decide +kernel
theorem dX2_tower_7 : decode cX2_tower 7 = .ok (.iconst (-1), 1) := by decide +kernel
theorem dX2_tower_8 : decode cX2_tower 8 = .ok (.ireturn, 1) := by decide +kernel
theorem dX2_tower_9 : decode cX2_tower 9 = .ok (.aload_n 0, 1) := by decide +kernel
theorem dX2_tower_10 : decode cX2_tower 10 = .ok (.getfield 10, 3) := by decide +kernel
theorem dX2_tower_13 : decode cX2_tower 13 = .ok (.getfield 40, 3) := by decide +kernel
theorem dX2_tower_16 : decode cX2_tower 16 = .ok (.iload_n 1, 1) := by decide +kernel
theorem dX2_tower_17 : decode cX2_tower 17 = .ok (.invokevirtual 84, 3) := by decide +kernel
theorem dX2_tower_20 : decode cX2_tower 20 = .ok (.ifCond .ne 21, 3) := by decide +kernel
theorem dX2_tower_23 : decode cX2_tower 23 = .ok (.aload_n 0, 1) := by decide +kernel
theorem dX2_tower_24 : decode cX2_tower 24 = .ok (.getfield 10, 3) := by decide +kernel
theorem dX2_tower_27 : decode cX2_tower 27 = .ok (.getfield 40, 3) := by decide +kernel
theorem dX2_tower_30 : decode cX2_tower 30 = .ok (.invokevirtual 87, 3) := by decide +kernel
theorem dX2_tower_33 : decode cX2_tower 33 = .ok (.bipush 6, 2) := by decide +kernel
theorem dX2_tower_35 : decode cX2_tower 35 = .ok (.if_icmp .lt 6, 3) := by decide +kernel
theorem dX2_tower_38 : decode cX2_tower 38 = .ok (.bipush (-3), 2) := by decide +kernel
theorem dX2_tower_40 : decode cX2_tower 40 = .ok (.ireturn, 1) := by decide +kernel
theorem dX2_tower_41 : decode cX2_tower 41 = .ok (.aload_n 0, 1) := by decide +kernel
theorem dX2_tower_42 : decode cX2_tower 42 = .ok (.invokevirtual 37, 3) := by decide +kernel
theorem dX2_tower_45 : decode cX2_tower 45 = .ok (.aload_n 0, 1) := by decide +kernel
theorem dX2_tower_46 : decode cX2_tower 46 = .ok (.getfield 10, 3) := by decide +kernel
theorem dX2_tower_49 : decode cX2_tower 49 = .ok (.getfield 40, 3) := by decide +kernel
theorem dX2_tower_52 : decode cX2_tower 52 = .ok (.iload_n 1, 1) := by decide +kernel
theorem dX2_tower_53 : decode cX2_tower 53 = .ok (.aload_n 0, 1) := by decide +kernel
theorem dX2_tower_54 : decode cX2_tower 54 = .ok (.getfield 10, 3) := by decide +kernel
theorem dX2_tower_57 : decode cX2_tower 57 = .ok (.getfield 40, 3) := by decide +kernel
theorem dX2_tower_60 : decode cX2_tower 60 = .ok (.iload_n 1, 1) := by decide +kernel
theorem dX2_tower_61 : decode cX2_tower 61 = .ok (.invokevirtual 84, 3) := by decide +kernel
theorem dX2_tower_64 : decode cX2_tower 64 = .ok (.ifCond .ne 7, 3) := by decide +kernel
theorem dX2_tower_67 : decode cX2_tower 67 = .ok (.iconst 1, 1) := by decide +kernel
theorem dX2_tower_68 : decode cX2_tower 68 = .ok (.goto 4, 3) := by decide +kernel
theorem dX2_tower_71 : decode cX2_tower 71 = .ok (.iconst 0, 1) := by decide +kernel
theorem dX2_tower_72 : decode cX2_tower 72 = .ok (.invokevirtual 90, 3) := by decide +kernel
theorem dX2_tower_75 : decode cX2_tower 75 = .ok (.aload_n 0, 1) := by decide +kernel
theorem dX2_tower_76 : decode cX2_tower 76 = .ok (.getfield 10, 3) := by decide +kernel
theorem dX2_tower_79 : decode cX2_tower 79 = .ok (.getfield 40, 3) := by decide +kernel
theorem dX2_tower_82 : decode cX2_tower 82 = .ok (.invokevirtual 87, 3) := by decide +kernel
theorem dX2_tower_85 : decode cX2_tower 85 = .ok (.ireturn, 1) := by decide +kernel
theorem dX2_cell_0 : decode cX2_cell 0 = .ok (.iload_n 1, 1) := by decide +kernel
theorem dX2_cell_1 : decode cX2_cell 1 = .ok (.invokestatic 70, 3) := by decide +kernel
theorem dX2_cell_4 : decode cX2_cell 4 = .ok (.ifCond .eq 12, 3) := by decide +kernel
theorem dX2_cell_7 : decode cX2_cell 7 = .ok (.iload_n 2, 1) := by decide +kernel
theorem dX2_cell_8 : decode cX2_cell 8 = .ok (.ifCond .lt 8, 3) := by decide +kernel
theorem dX2_cell_11 : decode cX2_cell 11 = .ok (.iload_n 2, 1) := by decide +kernel
theorem dX2_cell_12 : decode cX2_cell 12 = .ok (.iconst 4, 1) := by decide +kernel
theorem dX2_cell_13 : decode cX2_cell 13 = .ok (.if_icmp .le 5, 3) := by decide +kernel
theorem dX2_cell_16 : decode cX2_cell 16 = .ok (.iconst (-1), 1) := by decide +kernel
theorem dX2_cell_17 : decode cX2_cell 17 = .ok (.ireturn, 1) := by decide +kernel
theorem dX2_cell_18 : decode cX2_cell 18 = .ok (.aload_n 0, 1) := by decide +kernel
theorem dX2_cell_19 : decode cX2_cell 19 = .ok (.getfield 10, 3) := by decide +kernel
theorem dX2_cell_22 : decode cX2_cell 22 = .ok (.getfield 40, 3) := by decide +kernel
theorem dX2_cell_25 : decode cX2_cell 25 = .ok (.astore_n 3, 1) := by decide +kernel
theorem dX2_cell_26 : decode cX2_cell 26 = .ok (.iload_n 2, 1) := by decide +kernel
theorem dX2_cell_27 : decode cX2_cell 27 = .ok (.iconst 3, 1) := by decide +kernel
theorem dX2_cell_28 : decode cX2_cell 28 = .ok (.if_icmp .ne 17, 3) := by decide +kernel
theorem dX2_cell_31 : decode cX2_cell 31 = .ok (.aload_n 3, 1) := by decide +kernel
theorem dX2_cell_32 : decode cX2_cell 32 = .ok (.iload_n 1, 1) := by decide +kernel
theorem dX2_cell_33 : decode cX2_cell 33 = .ok (.invokevirtual 84, 3) := by decide +kernel
theorem dX2_cell_36 : decode cX2_cell 36 = .ok (.ifCond .eq 7, 3) := by decide +kernel
theorem dX2_cell_39 : decode cX2_cell 39 = .ok (.iconst 1, 1) := by decide +kernel
theorem dX2_cell_40 : decode cX2_cell 40 = .ok (.goto 4, 3) := by decide +kernel
theorem dX2_cell_43 : decode cX2_cell 43 = .ok (.iconst 0, 1) := by decide +kernel
theorem dX2_cell_44 : decode cX2_cell 44 = .ok (.ireturn, 1) := by decide +kernel
theorem dX2_cell_45 : decode cX2_cell 45 = .ok (.aload_n 3, 1) := by decide +kernel
theorem dX2_cell_46 : decode cX2_cell 46 = .ok (.iload_n 1, 1) := by decide +kernel
theorem dX2_cell_47 : decode cX2_cell 47 = .ok (.invokevirtual 77, 3) := by decide +kernel
theorem dX2_cell_50 : decode cX2_cell 50 = .ok (.ifCond .ne 6, 3) := by decide +kernel
theorem dX2_cell_53 : decode cX2_cell 53 = .ok (.bipush (-4), 2) := by decide +kernel
theorem dX2_cell_55 : decode cX2_cell 55 = .ok (.ireturn, 1) := by decide +kernel
theorem dX2_cell_56 : decode cX2_cell 56 = .ok (.iload_n 2, 1) := by decide +kernel
theorem dX2_cell_57 : decode cX2_cell 57 = .ok (.tableswitch 45 0 2 #[27, 33, 39], 27) := by decide +kernel
theorem dX2_cell_84 : decode cX2_cell 84 = .ok (.aload_n 3, 1) := by decide +kernel
theorem dX2_cell_85 : decode cX2_cell 85 = .ok (.iload_n 1, 1) := by decide +kernel
theorem dX2_cell_86 : decode cX2_cell 86 = .ok (.invokevirtual 94, 3) := by decide +kernel
theorem dX2_cell_89 : decode cX2_cell 89 = .ok (.ireturn, 1) := by decide +kernel
theorem dX2_cell_90 : decode cX2_cell 90 = .ok (.aload_n 3, 1) := by decide +kernel
theorem dX2_cell_91 : decode cX2_cell 91 = .ok (.iload_n 1, 1) := by decide +kernel
theorem dX2_cell_92 : decode cX2_cell 92 = .ok (.invokevirtual 97, 3) := by decide +kernel
theorem dX2_cell_95 : decode cX2_cell 95 = .ok (.ireturn, 1) := by decide +kernel
theorem dX2_cell_96 : decode cX2_cell 96 = .ok (.aload_n 3, 1) := by decide +kernel
theorem dX2_cell_97 : decode cX2_cell 97 = .ok (.iload_n 1, 1) := by decide +kernel
theorem dX2_cell_98 : decode cX2_cell 98 = .ok (.invokevirtual 100, 3) := by decide +kernel
theorem dX2_cell_101 : decode cX2_cell 101 = .ok (.ireturn, 1) := by decide +kernel
theorem dX2_cell_102 : decode cX2_cell 102 = .ok (.aload_n 3, 1) := by decide +kernel
theorem dX2_cell_103 : decode cX2_cell 103 = .ok (.iload_n 1, 1) := by decide +kernel
theorem dX2_cell_104 : decode cX2_cell 104 = .ok (.invokevirtual 103, 3) := by decide +kernel
theorem dX2_cell_107 : decode cX2_cell 107 = .ok (.ireturn, 1) := by decide +kernel
theorem dX2_count_0 : decode cX2_count 0 = .ok (.iload_n 1, 1) := by decide +kernel
theorem dX2_count_1 : decode cX2_count 1 = .ok (.tableswitch 183 0 12 #[67, 75, 83, 107, 115, 126, 137, 149, 161, 166, 171, 171, 171], 67) := by decide +kernel
theorem dX2_count_68 : decode cX2_count 68 = .ok (.aload_n 0, 1) := by decide +kernel
theorem dX2_count_69 : decode cX2_count 69 = .ok (.getfield 10, 3) := by decide +kernel
theorem dX2_count_72 : decode cX2_count 72 = .ok (.getfield 106, 3) := by decide +kernel
theorem dX2_count_75 : decode cX2_count 75 = .ok (.ireturn, 1) := by decide +kernel
theorem dX2_count_76 : decode cX2_count 76 = .ok (.aload_n 0, 1) := by decide +kernel
theorem dX2_count_77 : decode cX2_count 77 = .ok (.getfield 10, 3) := by decide +kernel
theorem dX2_count_80 : decode cX2_count 80 = .ok (.getfield 109, 3) := by decide +kernel
theorem dX2_count_83 : decode cX2_count 83 = .ok (.ireturn, 1) := by decide +kernel
theorem dX2_count_84 : decode cX2_count 84 = .ok (.aload_n 0, 1) := by decide +kernel
theorem dX2_count_85 : decode cX2_count 85 = .ok (.getfield 10, 3) := by decide +kernel
theorem dX2_count_88 : decode cX2_count 88 = .ok (.getfield 112, 3) := by decide +kernel
theorem dX2_count_91 : decode cX2_count 91 = .ok (.iconst (-1), 1) := by decide +kernel
theorem dX2_count_92 : decode cX2_count 92 = .ok (.if_icmp .ne 8, 3) := by decide +kernel
theorem dX2_count_95 : decode cX2_count 95 = .ok (.bipush (-4), 2) := by decide +kernel
theorem dX2_count_97 : decode cX2_count 97 = .ok (.goto 10, 3) := by decide +kernel
theorem dX2_count_100 : decode cX2_count 100 = .ok (.aload_n 0, 1) := by decide +kernel
theorem dX2_count_101 : decode cX2_count 101 = .ok (.getfield 10, 3) := by decide +kernel
theorem dX2_count_104 : decode cX2_count 104 = .ok (.getfield 112, 3) := by decide +kernel
theorem dX2_count_107 : decode cX2_count 107 = .ok (.ireturn, 1) := by decide +kernel
theorem dX2_count_108 : decode cX2_count 108 = .ok (.aload_n 0, 1) := by decide +kernel
theorem dX2_count_109 : decode cX2_count 109 = .ok (.getfield 10, 3) := by decide +kernel
theorem dX2_count_112 : decode cX2_count 112 = .ok (.getfield 115, 3) := by decide +kernel
theorem dX2_count_115 : decode cX2_count 115 = .ok (.ireturn, 1) := by decide +kernel
theorem dX2_count_116 : decode cX2_count 116 = .ok (.aload_n 0, 1) := by decide +kernel
theorem dX2_count_117 : decode cX2_count 117 = .ok (.getfield 10, 3) := by decide +kernel
theorem dX2_count_120 : decode cX2_count 120 = .ok (.getfield 40, 3) := by decide +kernel
theorem dX2_count_123 : decode cX2_count 123 = .ok (.invokevirtual 118, 3) := by decide +kernel
theorem dX2_count_126 : decode cX2_count 126 = .ok (.ireturn, 1) := by decide +kernel
theorem dX2_count_127 : decode cX2_count 127 = .ok (.aload_n 0, 1) := by decide +kernel
theorem dX2_count_128 : decode cX2_count 128 = .ok (.getfield 10, 3) := by decide +kernel
theorem dX2_count_131 : decode cX2_count 131 = .ok (.getfield 40, 3) := by decide +kernel
theorem dX2_count_134 : decode cX2_count 134 = .ok (.invokevirtual 87, 3) := by decide +kernel
theorem dX2_count_137 : decode cX2_count 137 = .ok (.ireturn, 1) := by decide +kernel
theorem dX2_count_138 : decode cX2_count 138 = .ok (.aload_n 0, 1) := by decide +kernel
theorem dX2_count_139 : decode cX2_count 139 = .ok (.getfield 10, 3) := by decide +kernel
theorem dX2_count_142 : decode cX2_count 142 = .ok (.getfield 40, 3) := by decide +kernel
theorem dX2_count_145 : decode cX2_count 145 = .ok (.iconst 0, 1) := by decide +kernel
theorem dX2_count_146 : decode cX2_count 146 = .ok (.invokevirtual 121, 3) := by decide +kernel
theorem dX2_count_149 : decode cX2_count 149 = .ok (.ireturn, 1) := by decide +kernel
theorem dX2_count_150 : decode cX2_count 150 = .ok (.aload_n 0, 1) := by decide +kernel
theorem dX2_count_151 : decode cX2_count 151 = .ok (.getfield 10, 3) := by decide +kernel
theorem dX2_count_154 : decode cX2_count 154 = .ok (.getfield 40, 3) := by decide +kernel
theorem dX2_count_157 : decode cX2_count 157 = .ok (.iconst 1, 1) := by decide +kernel
theorem dX2_count_158 : decode cX2_count 158 = .ok (.invokevirtual 121, 3) := by decide +kernel
theorem dX2_count_161 : decode cX2_count 161 = .ok (.ireturn, 1) := by decide +kernel
theorem dX2_count_162 : decode cX2_count 162 = .ok (.aload_n 0, 1) := by decide +kernel
theorem dX2_count_163 : decode cX2_count 163 = .ok (.getfield 124, 3) := by decide +kernel
theorem dX2_count_166 : decode cX2_count 166 = .ok (.ireturn, 1) := by decide +kernel
theorem dX2_count_167 : decode cX2_count 167 = .ok (.aload_n 0, 1) := by decide +kernel
theorem dX2_count_168 : decode cX2_count 168 = .ok (.getfield 127, 3) := by decide +kernel
theorem dX2_count_171 : decode cX2_count 171 = .ok (.ireturn, 1) := by decide +kernel
theorem dX2_count_172 : decode cX2_count 172 = .ok (.aload_n 0, 1) := by decide +kernel
theorem dX2_count_173 : decode cX2_count 173 = .ok (.getfield 10, 3) := by decide +kernel
theorem dX2_count_176 : decode cX2_count 176 = .ok (.iload_n 1, 1) := by decide +kernel
theorem dX2_count_177 : decode cX2_count 177 = .ok (.bipush 10, 2) := by decide +kernel
theorem dX2_count_179 : decode cX2_count 179 = .ok (.isub, 1) := by decide +kernel
theorem dX2_count_180 : decode cX2_count 180 = .ok (.invokevirtual 54, 3) := by decide +kernel
theorem dX2_count_183 : decode cX2_count 183 = .ok (.ireturn, 1) := by decide +kernel
theorem dX2_count_184 : decode cX2_count 184 = .ok (.iload_n 1, 1) := by decide +kernel
theorem dX2_count_185 : decode cX2_count 185 = .ok (.bipush 20, 2) := by decide +kernel
theorem dX2_count_187 : decode cX2_count 187 = .ok (.isub, 1) := by decide +kernel
theorem dX2_count_188 : decode cX2_count 188 = .ok (.invokestatic 130, 3) := by decide +kernel
theorem dX2_count_191 : decode cX2_count 191 = .ok (.ifCond .eq 17, 3) := by decide +kernel
theorem dX2_count_194 : decode cX2_count 194 = .ok (.aload_n 0, 1) := by decide +kernel
theorem dX2_count_195 : decode cX2_count 195 = .ok (.getfield 10, 3) := by decide +kernel
theorem dX2_count_198 : decode cX2_count 198 = .ok (.iload_n 1, 1) := by decide +kernel
theorem dX2_count_199 : decode cX2_count 199 = .ok (.bipush 20, 2) := by decide +kernel
theorem dX2_count_201 : decode cX2_count 201 = .ok (.isub, 1) := by decide +kernel
theorem dX2_count_202 : decode cX2_count 202 = .ok (.invokevirtual 133, 3) := by decide +kernel
theorem dX2_count_205 : decode cX2_count 205 = .ok (.goto 4, 3) := by decide +kernel
theorem dX2_count_208 : decode cX2_count 208 = .ok (.iconst (-1), 1) := by decide +kernel
theorem dX2_count_209 : decode cX2_count 209 = .ok (.ireturn, 1) := by decide +kernel
theorem dX2_undo_0 : decode cX2_undo 0 = .ok (.aload_n 0, 1) := by decide +kernel
theorem dX2_undo_1 : decode cX2_undo 1 = .ok (.aload_n 0, 1) := by decide +kernel
theorem dX2_undo_2 : decode cX2_undo 2 = .ok (.getfield 124, 3) := by decide +kernel
theorem dX2_undo_5 : decode cX2_undo 5 = .ok (.iconst 1, 1) := by decide +kernel
theorem dX2_undo_6 : decode cX2_undo 6 = .ok (.isub, 1) := by decide +kernel
theorem dX2_undo_7 : decode cX2_undo 7 = .ok (.invokevirtual 136, 3) := by decide +kernel
theorem dX2_undo_10 : decode cX2_undo 10 = .ok (.astore_n 1, 1) := by decide +kernel
theorem dX2_undo_11 : decode cX2_undo 11 = .ok (.aload_n 1, 1) := by decide +kernel
theorem dX2_undo_12 : decode cX2_undo 12 = .ok (.ifnonnull 6, 3) := by decide +kernel
theorem dX2_undo_15 : decode cX2_undo 15 = .ok (.bipush (-2), 2) := by decide +kernel
theorem dX2_undo_17 : decode cX2_undo 17 = .ok (.ireturn, 1) := by decide +kernel
theorem dX2_undo_18 : decode cX2_undo 18 = .ok (.aload_n 0, 1) := by decide +kernel
theorem dX2_undo_19 : decode cX2_undo 19 = .ok (.dup, 1) := by decide +kernel
theorem dX2_undo_20 : decode cX2_undo 20 = .ok (.getfield 124, 3) := by decide +kernel
theorem dX2_undo_23 : decode cX2_undo 23 = .ok (.iconst 1, 1) := by decide +kernel
theorem dX2_undo_24 : decode cX2_undo 24 = .ok (.isub, 1) := by decide +kernel
theorem dX2_undo_25 : decode cX2_undo 25 = .ok (.putfield 124, 3) := by decide +kernel
theorem dX2_undo_28 : decode cX2_undo 28 = .ok (.aload_n 0, 1) := by decide +kernel
theorem dX2_undo_29 : decode cX2_undo 29 = .ok (.getfield 10, 3) := by decide +kernel
theorem dX2_undo_32 : decode cX2_undo 32 = .ok (.aload_n 1, 1) := by decide +kernel
theorem dX2_undo_33 : decode cX2_undo 33 = .ok (.invokevirtual 140, 3) := by decide +kernel
theorem dX2_undo_36 : decode cX2_undo 36 = .ok (.aload_n 0, 1) := by decide +kernel
theorem dX2_undo_37 : decode cX2_undo 37 = .ok (.getfield 124, 3) := by decide +kernel
theorem dX2_undo_40 : decode cX2_undo 40 = .ok (.ireturn, 1) := by decide +kernel
theorem dX2_move_0 : decode cX2_move 0 = .ok (.iload_n 1, 1) := by decide +kernel
theorem dX2_move_1 : decode cX2_move 1 = .ok (.invokestatic 70, 3) := by decide +kernel
theorem dX2_move_4 : decode cX2_move 4 = .ok (.ifCond .eq 10, 3) := by decide +kernel
theorem dX2_move_7 : decode cX2_move 7 = .ok (.iload_n 2, 1) := by decide +kernel
theorem dX2_move_8 : decode cX2_move 8 = .ok (.invokestatic 70, 3) := by decide +kernel
theorem dX2_move_11 : decode cX2_move 11 = .ok (.ifCond .ne 5, 3) := by decide +kernel
theorem dX2_move_14 : decode cX2_move 14 = .ok (.iconst (-1), 1) := by decide +kernel
theorem dX2_move_15 : decode cX2_move 15 = .ok (.ireturn, 1) := by decide +kernel
theorem dX2_move_16 : decode cX2_move 16 = .ok (.aload_n 0, 1) := by decide +kernel
theorem dX2_move_17 : decode cX2_move 17 = .ok (.getfield 10, 3) := by decide +kernel
theorem dX2_move_20 : decode cX2_move 20 = .ok (.iload_n 1, 1) := by decide +kernel
theorem dX2_move_21 : decode cX2_move 21 = .ok (.iload_n 2, 1) := by decide +kernel
theorem dX2_move_22 : decode cX2_move 22 = .ok (.invokevirtual 144, 3) := by decide +kernel
theorem dX2_move_25 : decode cX2_move 25 = .ok (.ifCond .eq 6, 3) := by decide +kernel
theorem dX2_move_28 : decode cX2_move 28 = .ok (.bipush (-2), 2) := by decide +kernel
theorem dX2_move_30 : decode cX2_move 30 = .ok (.ireturn, 1) := by decide +kernel
theorem dX2_move_31 : decode cX2_move 31 = .ok (.aload_n 0, 1) := by decide +kernel
theorem dX2_move_32 : decode cX2_move 32 = .ok (.invokevirtual 37, 3) := by decide +kernel
theorem dX2_move_35 : decode cX2_move 35 = .ok (.aload_n 0, 1) := by decide +kernel
theorem dX2_move_36 : decode cX2_move 36 = .ok (.getfield 10, 3) := by decide +kernel
theorem dX2_move_39 : decode cX2_move 39 = .ok (.iload_n 1, 1) := by decide +kernel
theorem dX2_move_40 : decode cX2_move 40 = .ok (.iload_n 2, 1) := by decide +kernel
theorem dX2_move_41 : decode cX2_move 41 = .ok (.invokevirtual 148, 3) := by decide +kernel
theorem dX2_move_44 : decode cX2_move 44 = .ok (.ireturn, 1) := by decide +kernel
theorem dX2_pass_0 : decode cX2_pass 0 = .ok (.aload_n 0, 1) := by decide +kernel
theorem dX2_pass_1 : decode cX2_pass 1 = .ok (.getfield 10, 3) := by decide +kernel
theorem dX2_pass_4 : decode cX2_pass 4 = .ok (.invokevirtual 151, 3) := by decide +kernel
theorem dX2_pass_7 : decode cX2_pass 7 = .ok (.ifCond .eq 6, 3) := by decide +kernel
theorem dX2_pass_10 : decode cX2_pass 10 = .ok (.bipush (-2), 2) := by decide +kernel
theorem dX2_pass_12 : decode cX2_pass 12 = .ok (.ireturn, 1) := by decide +kernel
theorem dX2_pass_13 : decode cX2_pass 13 = .ok (.aload_n 0, 1) := by decide +kernel
theorem dX2_pass_14 : decode cX2_pass 14 = .ok (.invokevirtual 37, 3) := by decide +kernel
theorem dX2_pass_17 : decode cX2_pass 17 = .ok (.aload_n 0, 1) := by decide +kernel
theorem dX2_pass_18 : decode cX2_pass 18 = .ok (.getfield 10, 3) := by decide +kernel
theorem dX2_pass_21 : decode cX2_pass 21 = .ok (.invokevirtual 154, 3) := by decide +kernel
theorem dX2_pass_24 : decode cX2_pass 24 = .ok (.aload_n 0, 1) := by decide +kernel
theorem dX2_pass_25 : decode cX2_pass 25 = .ok (.getfield 10, 3) := by decide +kernel
theorem dX2_pass_28 : decode cX2_pass 28 = .ok (.invokevirtual 73, 3) := by decide +kernel
theorem dX2_pass_31 : decode cX2_pass 31 = .ok (.ifCond .eq 7, 3) := by decide +kernel
theorem dX2_pass_34 : decode cX2_pass 34 = .ok (.iconst 1, 1) := by decide +kernel
theorem dX2_pass_35 : decode cX2_pass 35 = .ok (.goto 4, 3) := by decide +kernel
theorem dX2_pass_38 : decode cX2_pass 38 = .ok (.iconst 0, 1) := by decide +kernel
theorem dX2_pass_39 : decode cX2_pass 39 = .ok (.ireturn, 1) := by decide +kernel
theorem dX2_refusal_0 : decode cX2_refusal 0 = .ok (.iload_n 1, 1) := by decide +kernel
theorem dX2_refusal_1 : decode cX2_refusal 1 = .ok (.invokestatic 70, 3) := by decide +kernel
theorem dX2_refusal_4 : decode cX2_refusal 4 = .ok (.ifCond .eq 10, 3) := by decide +kernel
theorem dX2_refusal_7 : decode cX2_refusal 7 = .ok (.iload_n 2, 1) := by decide +kernel
theorem dX2_refusal_8 : decode cX2_refusal 8 = .ok (.invokestatic 70, 3) := by decide +kernel
theorem dX2_refusal_11 : decode cX2_refusal 11 = .ok (.ifCond .ne 5, 3) := by decide +kernel
theorem dX2_refusal_14 : decode cX2_refusal 14 = .ok (.iconst (-1), 1) := by decide +kernel
theorem dX2_refusal_15 : decode cX2_refusal 15 = .ok (.ireturn, 1) := by decide +kernel
theorem dX2_refusal_16 : decode cX2_refusal 16 = .ok (.aload_n 0, 1) := by decide +kernel
theorem dX2_refusal_17 : decode cX2_refusal 17 = .ok (.getfield 10, 3) := by decide +kernel
theorem dX2_refusal_20 : decode cX2_refusal 20 = .ok (.iload_n 1, 1) := by decide +kernel
theorem dX2_refusal_21 : decode cX2_refusal 21 = .ok (.iload_n 2, 1) := by decide +kernel
theorem dX2_refusal_22 : decode cX2_refusal 22 = .ok (.invokevirtual 144, 3) := by decide +kernel
theorem dX2_refusal_25 : decode cX2_refusal 25 = .ok (.ireturn, 1) := by decide +kernel
theorem dX2_cost_0 : decode cX2_cost 0 = .ok (.iload_n 1, 1) := by decide +kernel
theorem dX2_cost_1 : decode cX2_cost 1 = .ok (.invokestatic 70, 3) := by decide +kernel
theorem dX2_cost_4 : decode cX2_cost 4 = .ok (.ifCond .eq 10, 3) := by decide +kernel
theorem dX2_cost_7 : decode cX2_cost 7 = .ok (.iload_n 2, 1) := by decide +kernel
theorem dX2_cost_8 : decode cX2_cost 8 = .ok (.invokestatic 70, 3) := by decide +kernel
theorem dX2_cost_11 : decode cX2_cost 11 = .ok (.ifCond .ne 5, 3) := by decide +kernel
theorem dX2_cost_14 : decode cX2_cost 14 = .ok (.iconst (-1), 1) := by decide +kernel
theorem dX2_cost_15 : decode cX2_cost 15 = .ok (.ireturn, 1) := by decide +kernel
theorem dX2_cost_16 : decode cX2_cost 16 = .ok (.aload_n 0, 1) := by decide +kernel
theorem dX2_cost_17 : decode cX2_cost 17 = .ok (.getfield 10, 3) := by decide +kernel
theorem dX2_cost_20 : decode cX2_cost 20 = .ok (.getfield 40, 3) := by decide +kernel
theorem dX2_cost_23 : decode cX2_cost 23 = .ok (.iload_n 1, 1) := by decide +kernel
theorem dX2_cost_24 : decode cX2_cost 24 = .ok (.iload_n 2, 1) := by decide +kernel
theorem dX2_cost_25 : decode cX2_cost 25 = .ok (.invokevirtual 157, 3) := by decide +kernel
theorem dX2_cost_28 : decode cX2_cost 28 = .ok (.istore_n 3, 1) := by decide +kernel
theorem dX2_cost_29 : decode cX2_cost 29 = .ok (.iload_n 3, 1) := by decide +kernel
theorem dX2_cost_30 : decode cX2_cost 30 = .ok (.ifCond .ne 8, 3) := by decide +kernel
theorem dX2_cost_33 : decode cX2_cost 33 = .ok (.bipush (-4), 2) := by decide +kernel
theorem dX2_cost_35 : decode cX2_cost 35 = .ok (.goto 4, 3) := by decide +kernel
theorem dX2_cost_38 : decode cX2_cost 38 = .ok (.iload_n 3, 1) := by decide +kernel
theorem dX2_cost_39 : decode cX2_cost 39 = .ok (.ireturn, 1) := by decide +kernel
theorem dX2_moves_0 : decode cX2_moves 0 = .ok (.iload_n 1, 1) := by decide +kernel
theorem dX2_moves_1 : decode cX2_moves 1 = .ok (.invokestatic 62, 3) := by decide +kernel
theorem dX2_moves_4 : decode cX2_moves 4 = .ok (.ifCond .eq 17, 3) := by decide +kernel
theorem dX2_moves_7 : decode cX2_moves 7 = .ok (.aload_n 0, 1) := by decide +kernel
theorem dX2_moves_8 : decode cX2_moves 8 = .ok (.getfield 10, 3) := by decide +kernel
theorem dX2_moves_11 : decode cX2_moves 11 = .ok (.getfield 40, 3) := by decide +kernel
theorem dX2_moves_14 : decode cX2_moves 14 = .ok (.iload_n 1, 1) := by decide +kernel
theorem dX2_moves_15 : decode cX2_moves 15 = .ok (.invokevirtual 160, 3) := by decide +kernel
theorem dX2_moves_18 : decode cX2_moves 18 = .ok (.goto 4, 3) := by decide +kernel
theorem dX2_moves_21 : decode cX2_moves 21 = .ok (.iconst (-1), 1) := by decide +kernel
theorem dX2_moves_22 : decode cX2_moves 22 = .ok (.ireturn, 1) := by decide +kernel
theorem dX2_listed_0 : decode cX2_listed 0 = .ok (.iload_n 1, 1) := by decide +kernel
theorem dX2_listed_1 : decode cX2_listed 1 = .ok (.invokestatic 62, 3) := by decide +kernel
theorem dX2_listed_4 : decode cX2_listed 4 = .ok (.ifCond .eq 7, 3) := by decide +kernel
theorem dX2_listed_7 : decode cX2_listed 7 = .ok (.iload_n 2, 1) := by decide +kernel
theorem dX2_listed_8 : decode cX2_listed 8 = .ok (.ifCond .ge 5, 3) := by decide +kernel
theorem dX2_listed_11 : decode cX2_listed 11 = .ok (.iconst (-1), 1) := by decide +kernel
theorem dX2_listed_12 : decode cX2_listed 12 = .ok (.ireturn, 1) := by decide +kernel
theorem dX2_listed_13 : decode cX2_listed 13 = .ok (.aload_n 0, 1) := by decide +kernel
theorem dX2_listed_14 : decode cX2_listed 14 = .ok (.getfield 10, 3) := by decide +kernel
theorem dX2_listed_17 : decode cX2_listed 17 = .ok (.getfield 40, 3) := by decide +kernel
theorem dX2_listed_20 : decode cX2_listed 20 = .ok (.astore_n 3, 1) := by decide +kernel
theorem dX2_listed_21 : decode cX2_listed 21 = .ok (.iconst 0, 1) := by decide +kernel
theorem dX2_listed_22 : decode cX2_listed 22 = .ok (.istore 4, 2) := by decide +kernel
theorem dX2_listed_24 : decode cX2_listed 24 = .ok (.iconst 0, 1) := by decide +kernel
theorem dX2_listed_25 : decode cX2_listed 25 = .ok (.istore 5, 2) := by decide +kernel
theorem dX2_listed_27 : decode cX2_listed 27 = .ok (.iload 5, 2) := by decide +kernel
theorem dX2_listed_29 : decode cX2_listed 29 = .ok (.bipush 36, 2) := by decide +kernel
theorem dX2_listed_31 : decode cX2_listed 31 = .ok (.if_icmp .ge 64, 3) := by decide +kernel
theorem dX2_listed_34 : decode cX2_listed 34 = .ok (.iconst 0, 1) := by decide +kernel
theorem dX2_listed_35 : decode cX2_listed 35 = .ok (.istore 6, 2) := by decide +kernel
theorem dX2_listed_37 : decode cX2_listed 37 = .ok (.aload_n 3, 1) := by decide +kernel
theorem dX2_listed_38 : decode cX2_listed 38 = .ok (.iload 5, 2) := by decide +kernel
theorem dX2_listed_40 : decode cX2_listed 40 = .ok (.invokevirtual 94, 3) := by decide +kernel
theorem dX2_listed_43 : decode cX2_listed 43 = .ok (.iload_n 1, 1) := by decide +kernel
theorem dX2_listed_44 : decode cX2_listed 44 = .ok (.if_icmp .ne 45, 3) := by decide +kernel
theorem dX2_listed_47 : decode cX2_listed 47 = .ok (.iload 6, 2) := by decide +kernel
theorem dX2_listed_49 : decode cX2_listed 49 = .ok (.bipush 36, 2) := by decide +kernel
theorem dX2_listed_51 : decode cX2_listed 51 = .ok (.if_icmp .ge 38, 3) := by decide +kernel
theorem dX2_listed_54 : decode cX2_listed 54 = .ok (.aload_n 3, 1) := by decide +kernel
theorem dX2_listed_55 : decode cX2_listed 55 = .ok (.iload 5, 2) := by decide +kernel
theorem dX2_listed_57 : decode cX2_listed 57 = .ok (.iload 6, 2) := by decide +kernel
theorem dX2_listed_59 : decode cX2_listed 59 = .ok (.invokevirtual 163, 3) := by decide +kernel
theorem dX2_listed_62 : decode cX2_listed 62 = .ok (.ifCond .eq 21, 3) := by decide +kernel
theorem dX2_listed_65 : decode cX2_listed 65 = .ok (.iload 4, 2) := by decide +kernel
theorem dX2_listed_67 : decode cX2_listed 67 = .ok (.iload_n 2, 1) := by decide +kernel
theorem dX2_listed_68 : decode cX2_listed 68 = .ok (.if_icmp .ne 12, 3) := by decide +kernel
theorem dX2_listed_71 : decode cX2_listed 71 = .ok (.bipush 36, 2) := by decide +kernel
theorem dX2_listed_73 : decode cX2_listed 73 = .ok (.iload 5, 2) := by decide +kernel
theorem dX2_listed_75 : decode cX2_listed 75 = .ok (.imul, 1) := by decide +kernel
theorem dX2_listed_76 : decode cX2_listed 76 = .ok (.iload 6, 2) := by decide +kernel
theorem dX2_listed_78 : decode cX2_listed 78 = .ok (.iadd, 1) := by decide +kernel
theorem dX2_listed_79 : decode cX2_listed 79 = .ok (.ireturn, 1) := by decide +kernel
theorem dX2_listed_80 : decode cX2_listed 80 = .ok (.iinc 4 1, 3) := by decide +kernel
theorem dX2_listed_83 : decode cX2_listed 83 = .ok (.iinc 6 1, 3) := by decide +kernel
theorem dX2_listed_86 : decode cX2_listed 86 = .ok (.goto (-49), 3) := by decide +kernel
theorem dX2_listed_89 : decode cX2_listed 89 = .ok (.iinc 5 1, 3) := by decide +kernel
theorem dX2_listed_92 : decode cX2_listed 92 = .ok (.goto (-65), 3) := by decide +kernel
theorem dX2_listed_95 : decode cX2_listed 95 = .ok (.bipush (-4), 2) := by decide +kernel
theorem dX2_listed_97 : decode cX2_listed 97 = .ok (.ireturn, 1) := by decide +kernel
theorem dX2_struck_0 : decode cX2_struck 0 = .ok (.iload_n 1, 1) := by decide +kernel
theorem dX2_struck_1 : decode cX2_struck 1 = .ok (.invokestatic 70, 3) := by decide +kernel
theorem dX2_struck_4 : decode cX2_struck 4 = .ok (.ifCond .eq 10, 3) := by decide +kernel
theorem dX2_struck_7 : decode cX2_struck 7 = .ok (.iload_n 2, 1) := by decide +kernel
theorem dX2_struck_8 : decode cX2_struck 8 = .ok (.invokestatic 62, 3) := by decide +kernel
theorem dX2_struck_11 : decode cX2_struck 11 = .ok (.ifCond .ne 5, 3) := by decide +kernel
theorem dX2_struck_14 : decode cX2_struck 14 = .ok (.iconst (-1), 1) := by decide +kernel
theorem dX2_struck_15 : decode cX2_struck 15 = .ok (.ireturn, 1) := by decide +kernel
theorem dX2_struck_16 : decode cX2_struck 16 = .ok (.aload_n 0, 1) := by decide +kernel
theorem dX2_struck_17 : decode cX2_struck 17 = .ok (.getfield 16, 3) := by decide +kernel
theorem dX2_struck_20 : decode cX2_struck 20 = .ok (.getfield 40, 3) := by decide +kernel
theorem dX2_struck_23 : decode cX2_struck 23 = .ok (.astore_n 3, 1) := by decide +kernel
theorem dX2_struck_24 : decode cX2_struck 24 = .ok (.aload_n 3, 1) := by decide +kernel
theorem dX2_struck_25 : decode cX2_struck 25 = .ok (.aload_n 0, 1) := by decide +kernel
theorem dX2_struck_26 : decode cX2_struck 26 = .ok (.getfield 10, 3) := by decide +kernel
theorem dX2_struck_29 : decode cX2_struck 29 = .ok (.getfield 40, 3) := by decide +kernel
theorem dX2_struck_32 : decode cX2_struck 32 = .ok (.invokevirtual 166, 3) := by decide +kernel
theorem dX2_struck_35 : decode cX2_struck 35 = .ok (.aload_n 3, 1) := by decide +kernel
theorem dX2_struck_36 : decode cX2_struck 36 = .ok (.iload_n 1, 1) := by decide +kernel
theorem dX2_struck_37 : decode cX2_struck 37 = .ok (.iconst 1, 1) := by decide +kernel
theorem dX2_struck_38 : decode cX2_struck 38 = .ok (.iload_n 2, 1) := by decide +kernel
theorem dX2_struck_39 : decode cX2_struck 39 = .ok (.isub, 1) := by decide +kernel
theorem dX2_struck_40 : decode cX2_struck 40 = .ok (.iconst 4, 1) := by decide +kernel
theorem dX2_struck_41 : decode cX2_struck 41 = .ok (.iconst 0, 1) := by decide +kernel
theorem dX2_struck_42 : decode cX2_struck 42 = .ok (.invokevirtual 169, 3) := by decide +kernel
theorem dX2_struck_45 : decode cX2_struck 45 = .ok (.iconst 0, 1) := by decide +kernel
theorem dX2_struck_46 : decode cX2_struck 46 = .ok (.istore 4, 2) := by decide +kernel
theorem dX2_struck_48 : decode cX2_struck 48 = .ok (.iconst 0, 1) := by decide +kernel
theorem dX2_struck_49 : decode cX2_struck 49 = .ok (.istore 5, 2) := by decide +kernel
theorem dX2_struck_51 : decode cX2_struck 51 = .ok (.iload 5, 2) := by decide +kernel
theorem dX2_struck_53 : decode cX2_struck 53 = .ok (.bipush 36, 2) := by decide +kernel
theorem dX2_struck_55 : decode cX2_struck 55 = .ok (.if_icmp .ge 32, 3) := by decide +kernel
theorem dX2_struck_58 : decode cX2_struck 58 = .ok (.aload_n 3, 1) := by decide +kernel
theorem dX2_struck_59 : decode cX2_struck 59 = .ok (.iload 5, 2) := by decide +kernel
theorem dX2_struck_61 : decode cX2_struck 61 = .ok (.invokevirtual 94, 3) := by decide +kernel
theorem dX2_struck_64 : decode cX2_struck 64 = .ok (.iload_n 2, 1) := by decide +kernel
theorem dX2_struck_65 : decode cX2_struck 65 = .ok (.if_icmp .ne 16, 3) := by decide +kernel
theorem dX2_struck_68 : decode cX2_struck 68 = .ok (.aload_n 3, 1) := by decide +kernel
theorem dX2_struck_69 : decode cX2_struck 69 = .ok (.iload 5, 2) := by decide +kernel
theorem dX2_struck_71 : decode cX2_struck 71 = .ok (.iload_n 1, 1) := by decide +kernel
theorem dX2_struck_72 : decode cX2_struck 72 = .ok (.invokevirtual 163, 3) := by decide +kernel
theorem dX2_struck_75 : decode cX2_struck 75 = .ok (.ifCond .eq 6, 3) := by decide +kernel
theorem dX2_struck_78 : decode cX2_struck 78 = .ok (.iinc 4 1, 3) := by decide +kernel
theorem dX2_struck_81 : decode cX2_struck 81 = .ok (.iinc 5 1, 3) := by decide +kernel
theorem dX2_struck_84 : decode cX2_struck 84 = .ok (.goto (-33), 3) := by decide +kernel
theorem dX2_struck_87 : decode cX2_struck 87 = .ok (.iload 4, 2) := by decide +kernel
theorem dX2_struck_89 : decode cX2_struck 89 = .ok (.ireturn, 1) := by decide +kernel
theorem dX2_reach_0 : decode cX2_reach 0 = .ok (.iload_n 1, 1) := by decide +kernel
theorem dX2_reach_1 : decode cX2_reach 1 = .ok (.invokestatic 70, 3) := by decide +kernel
theorem dX2_reach_4 : decode cX2_reach 4 = .ok (.ifCond .eq 13, 3) := by decide +kernel
theorem dX2_reach_7 : decode cX2_reach 7 = .ok (.iload_n 2, 1) := by decide +kernel
theorem dX2_reach_8 : decode cX2_reach 8 = .ok (.ifCond .lt 9, 3) := by decide +kernel
theorem dX2_reach_11 : decode cX2_reach 11 = .ok (.iload_n 2, 1) := by decide +kernel
theorem dX2_reach_12 : decode cX2_reach 12 = .ok (.bipush 12, 2) := by decide +kernel
theorem dX2_reach_14 : decode cX2_reach 14 = .ok (.if_icmp .le 5, 3) := by decide +kernel
theorem dX2_reach_17 : decode cX2_reach 17 = .ok (.iconst (-1), 1) := by decide +kernel
theorem dX2_reach_18 : decode cX2_reach 18 = .ok (.ireturn, 1) := by decide +kernel
theorem dX2_reach_19 : decode cX2_reach 19 = .ok (.aload_n 0, 1) := by decide +kernel
theorem dX2_reach_20 : decode cX2_reach 20 = .ok (.getfield 10, 3) := by decide +kernel
theorem dX2_reach_23 : decode cX2_reach 23 = .ok (.getfield 40, 3) := by decide +kernel
theorem dX2_reach_26 : decode cX2_reach 26 = .ok (.iload_n 1, 1) := by decide +kernel
theorem dX2_reach_27 : decode cX2_reach 27 = .ok (.invokevirtual 77, 3) := by decide +kernel
theorem dX2_reach_30 : decode cX2_reach 30 = .ok (.ifCond .ne 6, 3) := by decide +kernel
theorem dX2_reach_33 : decode cX2_reach 33 = .ok (.bipush (-4), 2) := by decide +kernel
theorem dX2_reach_35 : decode cX2_reach 35 = .ok (.ireturn, 1) := by decide +kernel
theorem dX2_reach_36 : decode cX2_reach 36 = .ok (.aload_n 0, 1) := by decide +kernel
theorem dX2_reach_37 : decode cX2_reach 37 = .ok (.getfield 10, 3) := by decide +kernel
theorem dX2_reach_40 : decode cX2_reach 40 = .ok (.getfield 40, 3) := by decide +kernel
theorem dX2_reach_43 : decode cX2_reach 43 = .ok (.iload_n 1, 1) := by decide +kernel
theorem dX2_reach_44 : decode cX2_reach 44 = .ok (.invokevirtual 94, 3) := by decide +kernel
theorem dX2_reach_47 : decode cX2_reach 47 = .ok (.istore_n 3, 1) := by decide +kernel
theorem dX2_reach_48 : decode cX2_reach 48 = .ok (.aload_n 0, 1) := by decide +kernel
theorem dX2_reach_49 : decode cX2_reach 49 = .ok (.getfield 10, 3) := by decide +kernel
theorem dX2_reach_52 : decode cX2_reach 52 = .ok (.getfield 40, 3) := by decide +kernel
theorem dX2_reach_55 : decode cX2_reach 55 = .ok (.iload_n 1, 1) := by decide +kernel
theorem dX2_reach_56 : decode cX2_reach 56 = .ok (.invokevirtual 97, 3) := by decide +kernel
theorem dX2_reach_59 : decode cX2_reach 59 = .ok (.istore 4, 2) := by decide +kernel
theorem dX2_reach_61 : decode cX2_reach 61 = .ok (.aload_n 0, 1) := by decide +kernel
theorem dX2_reach_62 : decode cX2_reach 62 = .ok (.getfield 16, 3) := by decide +kernel
theorem dX2_reach_65 : decode cX2_reach 65 = .ok (.getfield 40, 3) := by decide +kernel
theorem dX2_reach_68 : decode cX2_reach 68 = .ok (.aload_n 0, 1) := by decide +kernel
theorem dX2_reach_69 : decode cX2_reach 69 = .ok (.getfield 10, 3) := by decide +kernel
theorem dX2_reach_72 : decode cX2_reach 72 = .ok (.getfield 40, 3) := by decide +kernel
theorem dX2_reach_75 : decode cX2_reach 75 = .ok (.invokevirtual 166, 3) := by decide +kernel
theorem dX2_reach_78 : decode cX2_reach 78 = .ok (.aload_n 0, 1) := by decide +kernel
theorem dX2_reach_79 : decode cX2_reach 79 = .ok (.getfield 16, 3) := by decide +kernel
theorem dX2_reach_82 : decode cX2_reach 82 = .ok (.getfield 40, 3) := by decide +kernel
theorem dX2_reach_85 : decode cX2_reach 85 = .ok (.iload_n 1, 1) := by decide +kernel
theorem dX2_reach_86 : decode cX2_reach 86 = .ok (.invokevirtual 172, 3) := by decide +kernel
theorem dX2_reach_89 : decode cX2_reach 89 = .ok (.iconst 0, 1) := by decide +kernel
theorem dX2_reach_90 : decode cX2_reach 90 = .ok (.istore 5, 2) := by decide +kernel
theorem dX2_reach_92 : decode cX2_reach 92 = .ok (.iload 5, 2) := by decide +kernel
theorem dX2_reach_94 : decode cX2_reach 94 = .ok (.bipush 36, 2) := by decide +kernel
theorem dX2_reach_96 : decode cX2_reach 96 = .ok (.if_icmp .ge 37, 3) := by decide +kernel
theorem dX2_reach_99 : decode cX2_reach 99 = .ok (.aload_n 0, 1) := by decide +kernel
theorem dX2_reach_100 : decode cX2_reach 100 = .ok (.getfield 27, 3) := by decide +kernel
theorem dX2_reach_103 : decode cX2_reach 103 = .ok (.iload 5, 2) := by decide +kernel
theorem dX2_reach_105 : decode cX2_reach 105 = .ok (.iload 5, 2) := by decide +kernel
theorem dX2_reach_107 : decode cX2_reach 107 = .ok (.iload_n 1, 1) := by decide +kernel
theorem dX2_reach_108 : decode cX2_reach 108 = .ok (.if_icmp .ne 17, 3) := by decide +kernel
theorem dX2_reach_111 : decode cX2_reach 111 = .ok (.aload_n 0, 1) := by decide +kernel
theorem dX2_reach_112 : decode cX2_reach 112 = .ok (.getfield 10, 3) := by decide +kernel
theorem dX2_reach_115 : decode cX2_reach 115 = .ok (.getfield 40, 3) := by decide +kernel
theorem dX2_reach_118 : decode cX2_reach 118 = .ok (.iload_n 1, 1) := by decide +kernel
theorem dX2_reach_119 : decode cX2_reach 119 = .ok (.invokevirtual 100, 3) := by decide +kernel
theorem dX2_reach_122 : decode cX2_reach 122 = .ok (.goto 4, 3) := by decide +kernel
theorem dX2_reach_125 : decode cX2_reach 125 = .ok (.iconst (-1), 1) := by decide +kernel
theorem dX2_reach_126 : decode cX2_reach 126 = .ok (.iastore, 1) := by decide +kernel
theorem dX2_reach_127 : decode cX2_reach 127 = .ok (.iinc 5 1, 3) := by decide +kernel
theorem dX2_reach_130 : decode cX2_reach 130 = .ok (.goto (-38), 3) := by decide +kernel
theorem dX2_reach_133 : decode cX2_reach 133 = .ok (.iconst 0, 1) := by decide +kernel
theorem dX2_reach_134 : decode cX2_reach 134 = .ok (.istore 5, 2) := by decide +kernel
theorem dX2_reach_136 : decode cX2_reach 136 = .ok (.iload 5, 2) := by decide +kernel
theorem dX2_reach_138 : decode cX2_reach 138 = .ok (.iload_n 2, 1) := by decide +kernel
theorem dX2_reach_139 : decode cX2_reach 139 = .ok (.if_icmp .ge 16, 3) := by decide +kernel
theorem dX2_reach_142 : decode cX2_reach 142 = .ok (.aload_n 0, 1) := by decide +kernel
theorem dX2_reach_143 : decode cX2_reach 143 = .ok (.iload_n 3, 1) := by decide +kernel
theorem dX2_reach_144 : decode cX2_reach 144 = .ok (.iload 4, 2) := by decide +kernel
theorem dX2_reach_146 : decode cX2_reach 146 = .ok (.invokevirtual 176, 3) := by decide +kernel
theorem dX2_reach_149 : decode cX2_reach 149 = .ok (.iinc 5 1, 3) := by decide +kernel
theorem dX2_reach_152 : decode cX2_reach 152 = .ok (.goto (-16), 3) := by decide +kernel
theorem dX2_reach_155 : decode cX2_reach 155 = .ok (.aload_n 0, 1) := by decide +kernel
theorem dX2_reach_156 : decode cX2_reach 156 = .ok (.invokevirtual 179, 3) := by decide +kernel
theorem dX2_reach_159 : decode cX2_reach 159 = .ok (.ireturn, 1) := by decide +kernel
theorem dX2_replies_0 : decode cX2_replies 0 = .ok (.iconst 0, 1) := by decide +kernel
theorem dX2_replies_1 : decode cX2_replies 1 = .ok (.istore_n 1, 1) := by decide +kernel
theorem dX2_replies_2 : decode cX2_replies 2 = .ok (.iconst 0, 1) := by decide +kernel
theorem dX2_replies_3 : decode cX2_replies 3 = .ok (.istore_n 2, 1) := by decide +kernel
theorem dX2_replies_4 : decode cX2_replies 4 = .ok (.iload_n 2, 1) := by decide +kernel
theorem dX2_replies_5 : decode cX2_replies 5 = .ok (.bipush 36, 2) := by decide +kernel
theorem dX2_replies_7 : decode cX2_replies 7 = .ok (.if_icmp .ge 44, 3) := by decide +kernel
theorem dX2_replies_10 : decode cX2_replies 10 = .ok (.iconst 0, 1) := by decide +kernel
theorem dX2_replies_11 : decode cX2_replies 11 = .ok (.istore_n 3, 1) := by decide +kernel
theorem dX2_replies_12 : decode cX2_replies 12 = .ok (.iload_n 3, 1) := by decide +kernel
theorem dX2_replies_13 : decode cX2_replies 13 = .ok (.bipush 36, 2) := by decide +kernel
theorem dX2_replies_15 : decode cX2_replies 15 = .ok (.if_icmp .ge 30, 3) := by decide +kernel
theorem dX2_replies_18 : decode cX2_replies 18 = .ok (.aload_n 0, 1) := by decide +kernel
theorem dX2_replies_19 : decode cX2_replies 19 = .ok (.getfield 10, 3) := by decide +kernel
theorem dX2_replies_22 : decode cX2_replies 22 = .ok (.iload_n 2, 1) := by decide +kernel
theorem dX2_replies_23 : decode cX2_replies 23 = .ok (.iload_n 3, 1) := by decide +kernel
theorem dX2_replies_24 : decode cX2_replies 24 = .ok (.invokevirtual 144, 3) := by decide +kernel
theorem dX2_replies_27 : decode cX2_replies 27 = .ok (.ifCond .ne 12, 3) := by decide +kernel
theorem dX2_replies_30 : decode cX2_replies 30 = .ok (.iload_n 1, 1) := by decide +kernel
theorem dX2_replies_31 : decode cX2_replies 31 = .ok (.aload_n 0, 1) := by decide +kernel
theorem dX2_replies_32 : decode cX2_replies 32 = .ok (.iload_n 2, 1) := by decide +kernel
theorem dX2_replies_33 : decode cX2_replies 33 = .ok (.iload_n 3, 1) := by decide +kernel
theorem dX2_replies_34 : decode cX2_replies 34 = .ok (.invokevirtual 182, 3) := by decide +kernel
theorem dX2_replies_37 : decode cX2_replies 37 = .ok (.iadd, 1) := by decide +kernel
theorem dX2_replies_38 : decode cX2_replies 38 = .ok (.istore_n 1, 1) := by decide +kernel
theorem dX2_replies_39 : decode cX2_replies 39 = .ok (.iinc 3 1, 3) := by decide +kernel
theorem dX2_replies_42 : decode cX2_replies 42 = .ok (.goto (-30), 3) := by decide +kernel
theorem dX2_replies_45 : decode cX2_replies 45 = .ok (.iinc 2 1, 3) := by decide +kernel
theorem dX2_replies_48 : decode cX2_replies 48 = .ok (.goto (-44), 3) := by decide +kernel
theorem dX2_replies_51 : decode cX2_replies 51 = .ok (.iload_n 1, 1) := by decide +kernel
theorem dX2_replies_52 : decode cX2_replies 52 = .ok (.ireturn, 1) := by decide +kernel
theorem dX2_best_0 : decode cX2_best 0 = .ok (.bipush (-4), 2) := by decide +kernel
theorem dX2_best_2 : decode cX2_best 2 = .ok (.istore_n 1, 1) := by decide +kernel
theorem dX2_best_3 : decode cX2_best 3 = .ok (.iconst 0, 1) := by decide +kernel
theorem dX2_best_4 : decode cX2_best 4 = .ok (.istore_n 2, 1) := by decide +kernel
theorem dX2_best_5 : decode cX2_best 5 = .ok (.iconst 0, 1) := by decide +kernel
theorem dX2_best_6 : decode cX2_best 6 = .ok (.istore_n 3, 1) := by decide +kernel
theorem dX2_best_7 : decode cX2_best 7 = .ok (.iload_n 3, 1) := by decide +kernel
theorem dX2_best_8 : decode cX2_best 8 = .ok (.bipush 36, 2) := by decide +kernel
theorem dX2_best_10 : decode cX2_best 10 = .ok (.if_icmp .ge 70, 3) := by decide +kernel
theorem dX2_best_13 : decode cX2_best 13 = .ok (.iconst 0, 1) := by decide +kernel
theorem dX2_best_14 : decode cX2_best 14 = .ok (.istore 4, 2) := by decide +kernel
theorem dX2_best_16 : decode cX2_best 16 = .ok (.iload 4, 2) := by decide +kernel
theorem dX2_best_18 : decode cX2_best 18 = .ok (.bipush 36, 2) := by decide +kernel
theorem dX2_best_20 : decode cX2_best 20 = .ok (.if_icmp .ge 54, 3) := by decide +kernel
theorem dX2_best_23 : decode cX2_best 23 = .ok (.aload_n 0, 1) := by decide +kernel
theorem dX2_best_24 : decode cX2_best 24 = .ok (.getfield 10, 3) := by decide +kernel
theorem dX2_best_27 : decode cX2_best 27 = .ok (.iload_n 3, 1) := by decide +kernel
theorem dX2_best_28 : decode cX2_best 28 = .ok (.iload 4, 2) := by decide +kernel
theorem dX2_best_30 : decode cX2_best 30 = .ok (.invokevirtual 144, 3) := by decide +kernel
theorem dX2_best_33 : decode cX2_best 33 = .ok (.ifCond .ne 35, 3) := by decide +kernel
theorem dX2_best_36 : decode cX2_best 36 = .ok (.aload_n 0, 1) := by decide +kernel
theorem dX2_best_37 : decode cX2_best 37 = .ok (.iload_n 3, 1) := by decide +kernel
theorem dX2_best_38 : decode cX2_best 38 = .ok (.iload 4, 2) := by decide +kernel
theorem dX2_best_40 : decode cX2_best 40 = .ok (.invokevirtual 185, 3) := by decide +kernel
theorem dX2_best_43 : decode cX2_best 43 = .ok (.istore 5, 2) := by decide +kernel
theorem dX2_best_45 : decode cX2_best 45 = .ok (.iload_n 1, 1) := by decide +kernel
theorem dX2_best_46 : decode cX2_best 46 = .ok (.bipush (-4), 2) := by decide +kernel
theorem dX2_best_48 : decode cX2_best 48 = .ok (.if_icmp .eq 9, 3) := by decide +kernel
theorem dX2_best_51 : decode cX2_best 51 = .ok (.iload 5, 2) := by decide +kernel
theorem dX2_best_53 : decode cX2_best 53 = .ok (.iload_n 2, 1) := by decide +kernel
theorem dX2_best_54 : decode cX2_best 54 = .ok (.if_icmp .le 14, 3) := by decide +kernel
theorem dX2_best_57 : decode cX2_best 57 = .ok (.bipush 36, 2) := by decide +kernel
theorem dX2_best_59 : decode cX2_best 59 = .ok (.iload_n 3, 1) := by decide +kernel
theorem dX2_best_60 : decode cX2_best 60 = .ok (.imul, 1) := by decide +kernel
theorem dX2_best_61 : decode cX2_best 61 = .ok (.iload 4, 2) := by decide +kernel
theorem dX2_best_63 : decode cX2_best 63 = .ok (.iadd, 1) := by decide +kernel
theorem dX2_best_64 : decode cX2_best 64 = .ok (.istore_n 1, 1) := by decide +kernel
theorem dX2_best_65 : decode cX2_best 65 = .ok (.iload 5, 2) := by decide +kernel
theorem dX2_best_67 : decode cX2_best 67 = .ok (.istore_n 2, 1) := by decide +kernel
theorem dX2_best_68 : decode cX2_best 68 = .ok (.iinc 4 1, 3) := by decide +kernel
theorem dX2_best_71 : decode cX2_best 71 = .ok (.goto (-55), 3) := by decide +kernel
theorem dX2_best_74 : decode cX2_best 74 = .ok (.iinc 3 1, 3) := by decide +kernel
theorem dX2_best_77 : decode cX2_best 77 = .ok (.goto (-70), 3) := by decide +kernel
theorem dX2_best_80 : decode cX2_best 80 = .ok (.iload_n 1, 1) := by decide +kernel
theorem dX2_best_81 : decode cX2_best 81 = .ok (.ireturn, 1) := by decide +kernel
theorem dX2_type_0 : decode cX2_type 0 = .ok (.iload_n 1, 1) := by decide +kernel
theorem dX2_type_1 : decode cX2_type 1 = .ok (.bipush 32, 2) := by decide +kernel
theorem dX2_type_3 : decode cX2_type 3 = .ok (.if_icmp .lt 9, 3) := by decide +kernel
theorem dX2_type_6 : decode cX2_type 6 = .ok (.iload_n 1, 1) := by decide +kernel
theorem dX2_type_7 : decode cX2_type 7 = .ok (.bipush 126, 2) := by decide +kernel
theorem dX2_type_9 : decode cX2_type 9 = .ok (.if_icmp .le 5, 3) := by decide +kernel
theorem dX2_type_12 : decode cX2_type 12 = .ok (.iconst (-1), 1) := by decide +kernel
theorem dX2_type_13 : decode cX2_type 13 = .ok (.ireturn, 1) := by decide +kernel
theorem dX2_type_14 : decode cX2_type 14 = .ok (.aload_n 0, 1) := by decide +kernel
theorem dX2_type_15 : decode cX2_type 15 = .ok (.getfield 127, 3) := by decide +kernel
theorem dX2_type_18 : decode cX2_type 18 = .ok (.ifCond .lt 15, 3) := by decide +kernel
theorem dX2_type_21 : decode cX2_type 21 = .ok (.aload_n 0, 1) := by decide +kernel
theorem dX2_type_22 : decode cX2_type 22 = .ok (.getfield 127, 3) := by decide +kernel
theorem dX2_type_25 : decode cX2_type 25 = .ok (.aload_n 0, 1) := by decide +kernel
theorem dX2_type_26 : decode cX2_type 26 = .ok (.getfield 23, 3) := by decide +kernel
theorem dX2_type_29 : decode cX2_type 29 = .ok (.arraylength, 1) := by decide +kernel
theorem dX2_type_30 : decode cX2_type 30 = .ok (.if_icmp .lt 6, 3) := by decide +kernel
theorem dX2_type_33 : decode cX2_type 33 = .ok (.bipush (-3), 2) := by decide +kernel
theorem dX2_type_35 : decode cX2_type 35 = .ok (.ireturn, 1) := by decide +kernel
theorem dX2_type_36 : decode cX2_type 36 = .ok (.aload_n 0, 1) := by decide +kernel
theorem dX2_type_37 : decode cX2_type 37 = .ok (.getfield 23, 3) := by decide +kernel
theorem dX2_type_40 : decode cX2_type 40 = .ok (.aload_n 0, 1) := by decide +kernel
theorem dX2_type_41 : decode cX2_type 41 = .ok (.getfield 127, 3) := by decide +kernel
theorem dX2_type_44 : decode cX2_type 44 = .ok (.iload_n 1, 1) := by decide +kernel
theorem dX2_type_45 : decode cX2_type 45 = .ok (.i2c, 1) := by decide +kernel
theorem dX2_type_46 : decode cX2_type 46 = .ok (.castore, 1) := by decide +kernel
theorem dX2_type_47 : decode cX2_type 47 = .ok (.aload_n 0, 1) := by decide +kernel
theorem dX2_type_48 : decode cX2_type 48 = .ok (.dup, 1) := by decide +kernel
theorem dX2_type_49 : decode cX2_type 49 = .ok (.getfield 127, 3) := by decide +kernel
theorem dX2_type_52 : decode cX2_type 52 = .ok (.iconst 1, 1) := by decide +kernel
theorem dX2_type_53 : decode cX2_type 53 = .ok (.iadd, 1) := by decide +kernel
theorem dX2_type_54 : decode cX2_type 54 = .ok (.putfield 127, 3) := by decide +kernel
theorem dX2_type_57 : decode cX2_type 57 = .ok (.aload_n 0, 1) := by decide +kernel
theorem dX2_type_58 : decode cX2_type 58 = .ok (.getfield 127, 3) := by decide +kernel
theorem dX2_type_61 : decode cX2_type 61 = .ok (.ireturn, 1) := by decide +kernel
theorem dX2_clearText_0 : decode cX2_clearText 0 = .ok (.aload_n 0, 1) := by decide +kernel
theorem dX2_clearText_1 : decode cX2_clearText 1 = .ok (.getfield 127, 3) := by decide +kernel
theorem dX2_clearText_4 : decode cX2_clearText 4 = .ok (.istore_n 1, 1) := by decide +kernel
theorem dX2_clearText_5 : decode cX2_clearText 5 = .ok (.aload_n 0, 1) := by decide +kernel
theorem dX2_clearText_6 : decode cX2_clearText 6 = .ok (.iconst 0, 1) := by decide +kernel
theorem dX2_clearText_7 : decode cX2_clearText 7 = .ok (.putfield 127, 3) := by decide +kernel
theorem dX2_clearText_10 : decode cX2_clearText 10 = .ok (.iload_n 1, 1) := by decide +kernel
theorem dX2_clearText_11 : decode cX2_clearText 11 = .ok (.ireturn, 1) := by decide +kernel
theorem dX2_fault_0 : decode cX2_fault 0 = .ok (.iload_n 1, 1) := by decide +kernel
theorem dX2_fault_1 : decode cX2_fault 1 = .ok (.ifCond .eq 10, 3) := by decide +kernel
theorem dX2_fault_4 : decode cX2_fault 4 = .ok (.iload_n 1, 1) := by decide +kernel
theorem dX2_fault_5 : decode cX2_fault 5 = .ok (.iconst 1, 1) := by decide +kernel
theorem dX2_fault_6 : decode cX2_fault 6 = .ok (.if_icmp .eq 5, 3) := by decide +kernel
theorem dX2_fault_9 : decode cX2_fault 9 = .ok (.iconst (-1), 1) := by decide +kernel
theorem dX2_fault_10 : decode cX2_fault 10 = .ok (.ireturn, 1) := by decide +kernel
theorem dX2_fault_11 : decode cX2_fault 11 = .ok (.aload_n 0, 1) := by decide +kernel
theorem dX2_fault_12 : decode cX2_fault 12 = .ok (.invokevirtual 188, 3) := by decide +kernel
theorem dX2_fault_15 : decode cX2_fault 15 = .ok (.istore_n 2, 1) := by decide +kernel
theorem dX2_fault_16 : decode cX2_fault 16 = .ok (.iload_n 2, 1) := by decide +kernel
theorem dX2_fault_17 : decode cX2_fault 17 = .ok (.iconst (-1), 1) := by decide +kernel
theorem dX2_fault_18 : decode cX2_fault 18 = .ok (.if_icmp .ne 6, 3) := by decide +kernel
theorem dX2_fault_21 : decode cX2_fault 21 = .ok (.bipush (-4), 2) := by decide +kernel
theorem dX2_fault_23 : decode cX2_fault 23 = .ok (.ireturn, 1) := by decide +kernel
theorem dX2_fault_24 : decode cX2_fault 24 = .ok (.iload_n 1, 1) := by decide +kernel
theorem dX2_fault_25 : decode cX2_fault 25 = .ok (.ifCond .ne 10, 3) := by decide +kernel
theorem dX2_fault_28 : decode cX2_fault 28 = .ok (.iload_n 2, 1) := by decide +kernel
theorem dX2_fault_29 : decode cX2_fault 29 = .ok (.bipush 16, 2) := by decide +kernel
theorem dX2_fault_31 : decode cX2_fault 31 = .ok (.idiv, 1) := by decide +kernel
theorem dX2_fault_32 : decode cX2_fault 32 = .ok (.goto 7, 3) := by decide +kernel
theorem dX2_fault_35 : decode cX2_fault 35 = .ok (.iload_n 2, 1) := by decide +kernel
theorem dX2_fault_36 : decode cX2_fault 36 = .ok (.bipush 16, 2) := by decide +kernel
theorem dX2_fault_38 : decode cX2_fault 38 = .ok (.irem, 1) := by decide +kernel
theorem dX2_fault_39 : decode cX2_fault 39 = .ok (.ireturn, 1) := by decide +kernel
theorem dX2_play_0 : decode cX2_play 0 = .ok (.aload_n 0, 1) := by decide +kernel
theorem dX2_play_1 : decode cX2_play 1 = .ok (.invokevirtual 188, 3) := by decide +kernel
theorem dX2_play_4 : decode cX2_play 4 = .ok (.iconst (-1), 1) := by decide +kernel
theorem dX2_play_5 : decode cX2_play 5 = .ok (.if_icmp .eq 6, 3) := by decide +kernel
theorem dX2_play_8 : decode cX2_play 8 = .ok (.bipush (-2), 2) := by decide +kernel
theorem dX2_play_10 : decode cX2_play 10 = .ok (.ireturn, 1) := by decide +kernel
theorem dX2_play_11 : decode cX2_play 11 = .ok (.aload_n 0, 1) := by decide +kernel
theorem dX2_play_12 : decode cX2_play 12 = .ok (.invokevirtual 37, 3) := by decide +kernel
theorem dX2_play_15 : decode cX2_play 15 = .ok (.aload_n 0, 1) := by decide +kernel
theorem dX2_play_16 : decode cX2_play 16 = .ok (.getfield 10, 3) := by decide +kernel
theorem dX2_play_19 : decode cX2_play 19 = .ok (.aload_n 0, 1) := by decide +kernel
theorem dX2_play_20 : decode cX2_play 20 = .ok (.getfield 16, 3) := by decide +kernel
theorem dX2_play_23 : decode cX2_play 23 = .ok (.invokevirtual 140, 3) := by decide +kernel
theorem dX2_play_26 : decode cX2_play 26 = .ok (.aload_n 0, 1) := by decide +kernel
theorem dX2_play_27 : decode cX2_play 27 = .ok (.invokevirtual 191, 3) := by decide +kernel
theorem dX2_play_30 : decode cX2_play 30 = .ok (.ireturn, 1) := by decide +kernel
theorem dX2_isCell_0 : decode cX2_isCell 0 = .ok (.iload_n 0, 1) := by decide +kernel
theorem dX2_isCell_1 : decode cX2_isCell 1 = .ok (.ifCond .lt 13, 3) := by decide +kernel
theorem dX2_isCell_4 : decode cX2_isCell 4 = .ok (.iload_n 0, 1) := by decide +kernel
theorem dX2_isCell_5 : decode cX2_isCell 5 = .ok (.bipush 36, 2) := by decide +kernel
theorem dX2_isCell_7 : decode cX2_isCell 7 = .ok (.if_icmp .ge 7, 3) := by decide +kernel
theorem dX2_isCell_10 : decode cX2_isCell 10 = .ok (.iconst 1, 1) := by decide +kernel
theorem dX2_isCell_11 : decode cX2_isCell 11 = .ok (.goto 4, 3) := by decide +kernel
theorem dX2_isCell_14 : decode cX2_isCell 14 = .ok (.iconst 0, 1) := by decide +kernel
theorem dX2_isCell_15 : decode cX2_isCell 15 = .ok (.ireturn, 1) := by decide +kernel
theorem dX2_isSide_0 : decode cX2_isSide 0 = .ok (.iload_n 0, 1) := by decide +kernel
theorem dX2_isSide_1 : decode cX2_isSide 1 = .ok (.ifCond .eq 8, 3) := by decide +kernel
theorem dX2_isSide_4 : decode cX2_isSide 4 = .ok (.iload_n 0, 1) := by decide +kernel
theorem dX2_isSide_5 : decode cX2_isSide 5 = .ok (.iconst 1, 1) := by decide +kernel
theorem dX2_isSide_6 : decode cX2_isSide 6 = .ok (.if_icmp .ne 7, 3) := by decide +kernel
theorem dX2_isSide_9 : decode cX2_isSide 9 = .ok (.iconst 1, 1) := by decide +kernel
theorem dX2_isSide_10 : decode cX2_isSide 10 = .ok (.goto 4, 3) := by decide +kernel
theorem dX2_isSide_13 : decode cX2_isSide 13 = .ok (.iconst 0, 1) := by decide +kernel
theorem dX2_isSide_14 : decode cX2_isSide 14 = .ok (.ireturn, 1) := by decide +kernel
theorem dX2_isAccount_0 : decode cX2_isAccount 0 = .ok (.iload_n 0, 1) := by decide +kernel
theorem dX2_isAccount_1 : decode cX2_isAccount 1 = .ok (.ifCond .lt 13, 3) := by decide +kernel
theorem dX2_isAccount_4 : decode cX2_isAccount 4 = .ok (.iload_n 0, 1) := by decide +kernel
theorem dX2_isAccount_5 : decode cX2_isAccount 5 = .ok (.bipush 6, 2) := by decide +kernel
theorem dX2_isAccount_7 : decode cX2_isAccount 7 = .ok (.if_icmp .gt 7, 3) := by decide +kernel
theorem dX2_isAccount_10 : decode cX2_isAccount 10 = .ok (.iconst 1, 1) := by decide +kernel
theorem dX2_isAccount_11 : decode cX2_isAccount 11 = .ok (.goto 4, 3) := by decide +kernel
theorem dX2_isAccount_14 : decode cX2_isAccount 14 = .ok (.iconst 0, 1) := by decide +kernel
theorem dX2_isAccount_15 : decode cX2_isAccount 15 = .ok (.ireturn, 1) := by decide +kernel
theorem dX2_isSetting_0 : decode cX2_isSetting 0 = .ok (.iload_n 0, 1) := by decide +kernel
theorem dX2_isSetting_1 : decode cX2_isSetting 1 = .ok (.ifCond .ne 20, 3) := by decide +kernel
theorem dX2_isSetting_4 : decode cX2_isSetting 4 = .ok (.iload_n 1, 1) := by decide +kernel
theorem dX2_isSetting_5 : decode cX2_isSetting 5 = .ok (.iconst 1, 1) := by decide +kernel
theorem dX2_isSetting_6 : decode cX2_isSetting 6 = .ok (.if_icmp .lt 13, 3) := by decide +kernel
theorem dX2_isSetting_9 : decode cX2_isSetting 9 = .ok (.iload_n 1, 1) := by decide +kernel
theorem dX2_isSetting_10 : decode cX2_isSetting 10 = .ok (.bipush 12, 2) := by decide +kernel
theorem dX2_isSetting_12 : decode cX2_isSetting 12 = .ok (.if_icmp .gt 7, 3) := by decide +kernel
theorem dX2_isSetting_15 : decode cX2_isSetting 15 = .ok (.iconst 1, 1) := by decide +kernel
theorem dX2_isSetting_16 : decode cX2_isSetting 16 = .ok (.goto 4, 3) := by decide +kernel
theorem dX2_isSetting_19 : decode cX2_isSetting 19 = .ok (.iconst 0, 1) := by decide +kernel
theorem dX2_isSetting_20 : decode cX2_isSetting 20 = .ok (.ireturn, 1) := by decide +kernel
theorem dX2_isSetting_21 : decode cX2_isSetting 21 = .ok (.iload_n 0, 1) := by decide +kernel
theorem dX2_isSetting_22 : decode cX2_isSetting 22 = .ok (.iconst 1, 1) := by decide +kernel
theorem dX2_isSetting_23 : decode cX2_isSetting 23 = .ok (.if_icmp .eq 8, 3) := by decide +kernel
theorem dX2_isSetting_26 : decode cX2_isSetting 26 = .ok (.iload_n 0, 1) := by decide +kernel
theorem dX2_isSetting_27 : decode cX2_isSetting 27 = .ok (.iconst 2, 1) := by decide +kernel
theorem dX2_isSetting_28 : decode cX2_isSetting 28 = .ok (.if_icmp .ne 16, 3) := by decide +kernel
theorem dX2_isSetting_31 : decode cX2_isSetting 31 = .ok (.iload_n 1, 1) := by decide +kernel
theorem dX2_isSetting_32 : decode cX2_isSetting 32 = .ok (.ifCond .lt 12, 3) := by decide +kernel
theorem dX2_isSetting_35 : decode cX2_isSetting 35 = .ok (.iload_n 1, 1) := by decide +kernel
theorem dX2_isSetting_36 : decode cX2_isSetting 36 = .ok (.iconst 5, 1) := by decide +kernel
theorem dX2_isSetting_37 : decode cX2_isSetting 37 = .ok (.if_icmp .gt 7, 3) := by decide +kernel
theorem dX2_isSetting_40 : decode cX2_isSetting 40 = .ok (.iconst 1, 1) := by decide +kernel
theorem dX2_isSetting_41 : decode cX2_isSetting 41 = .ok (.goto 4, 3) := by decide +kernel
theorem dX2_isSetting_44 : decode cX2_isSetting 44 = .ok (.iconst 0, 1) := by decide +kernel
theorem dX2_isSetting_45 : decode cX2_isSetting 45 = .ok (.ireturn, 1) := by decide +kernel
theorem dX2_record_0 : decode cX2_record 0 = .ok (.aload_n 0, 1) := by decide +kernel
theorem dX2_record_1 : decode cX2_record 1 = .ok (.getfield 124, 3) := by decide +kernel
theorem dX2_record_4 : decode cX2_record 4 = .ok (.aload_n 0, 1) := by decide +kernel
theorem dX2_record_5 : decode cX2_record 5 = .ok (.getfield 19, 3) := by decide +kernel
theorem dX2_record_8 : decode cX2_record 8 = .ok (.arraylength, 1) := by decide +kernel
theorem dX2_record_9 : decode cX2_record 9 = .ok (.if_icmp .lt 65, 3) := by decide +kernel
theorem dX2_record_12 : decode cX2_record 12 = .ok (.aload_n 0, 1) := by decide +kernel
theorem dX2_record_13 : decode cX2_record 13 = .ok (.getfield 19, 3) := by decide +kernel
theorem dX2_record_16 : decode cX2_record 16 = .ok (.iconst 0, 1) := by decide +kernel
theorem dX2_record_17 : decode cX2_record 17 = .ok (.aaload, 1) := by decide +kernel
theorem dX2_record_18 : decode cX2_record 18 = .ok (.astore_n 1, 1) := by decide +kernel
theorem dX2_record_19 : decode cX2_record 19 = .ok (.iconst 1, 1) := by decide +kernel
theorem dX2_record_20 : decode cX2_record 20 = .ok (.istore_n 2, 1) := by decide +kernel
theorem dX2_record_21 : decode cX2_record 21 = .ok (.iload_n 2, 1) := by decide +kernel
theorem dX2_record_22 : decode cX2_record 22 = .ok (.aload_n 0, 1) := by decide +kernel
theorem dX2_record_23 : decode cX2_record 23 = .ok (.getfield 19, 3) := by decide +kernel
theorem dX2_record_26 : decode cX2_record 26 = .ok (.arraylength, 1) := by decide +kernel
theorem dX2_record_27 : decode cX2_record 27 = .ok (.if_icmp .ge 23, 3) := by decide +kernel
theorem dX2_record_30 : decode cX2_record 30 = .ok (.aload_n 0, 1) := by decide +kernel
theorem dX2_record_31 : decode cX2_record 31 = .ok (.getfield 19, 3) := by decide +kernel
theorem dX2_record_34 : decode cX2_record 34 = .ok (.iload_n 2, 1) := by decide +kernel
theorem dX2_record_35 : decode cX2_record 35 = .ok (.iconst 1, 1) := by decide +kernel
theorem dX2_record_36 : decode cX2_record 36 = .ok (.isub, 1) := by decide +kernel
theorem dX2_record_37 : decode cX2_record 37 = .ok (.aload_n 0, 1) := by decide +kernel
theorem dX2_record_38 : decode cX2_record 38 = .ok (.getfield 19, 3) := by decide +kernel
theorem dX2_record_41 : decode cX2_record 41 = .ok (.iload_n 2, 1) := by decide +kernel
theorem dX2_record_42 : decode cX2_record 42 = .ok (.aaload, 1) := by decide +kernel
theorem dX2_record_43 : decode cX2_record 43 = .ok (.aastore, 1) := by decide +kernel
theorem dX2_record_44 : decode cX2_record 44 = .ok (.iinc 2 1, 3) := by decide +kernel
theorem dX2_record_47 : decode cX2_record 47 = .ok (.goto (-26), 3) := by decide +kernel
theorem dX2_record_50 : decode cX2_record 50 = .ok (.aload_n 0, 1) := by decide +kernel
theorem dX2_record_51 : decode cX2_record 51 = .ok (.getfield 19, 3) := by decide +kernel
theorem dX2_record_54 : decode cX2_record 54 = .ok (.aload_n 0, 1) := by decide +kernel
theorem dX2_record_55 : decode cX2_record 55 = .ok (.getfield 19, 3) := by decide +kernel
theorem dX2_record_58 : decode cX2_record 58 = .ok (.arraylength, 1) := by decide +kernel
theorem dX2_record_59 : decode cX2_record 59 = .ok (.iconst 1, 1) := by decide +kernel
theorem dX2_record_60 : decode cX2_record 60 = .ok (.isub, 1) := by decide +kernel
theorem dX2_record_61 : decode cX2_record 61 = .ok (.aload_n 1, 1) := by decide +kernel
theorem dX2_record_62 : decode cX2_record 62 = .ok (.aastore, 1) := by decide +kernel
theorem dX2_record_63 : decode cX2_record 63 = .ok (.aload_n 0, 1) := by decide +kernel
theorem dX2_record_64 : decode cX2_record 64 = .ok (.aload_n 0, 1) := by decide +kernel
theorem dX2_record_65 : decode cX2_record 65 = .ok (.getfield 19, 3) := by decide +kernel
theorem dX2_record_68 : decode cX2_record 68 = .ok (.arraylength, 1) := by decide +kernel
theorem dX2_record_69 : decode cX2_record 69 = .ok (.iconst 1, 1) := by decide +kernel
theorem dX2_record_70 : decode cX2_record 70 = .ok (.isub, 1) := by decide +kernel
theorem dX2_record_71 : decode cX2_record 71 = .ok (.putfield 124, 3) := by decide +kernel
theorem dX2_record_74 : decode cX2_record 74 = .ok (.aload_n 0, 1) := by decide +kernel
theorem dX2_record_75 : decode cX2_record 75 = .ok (.aload_n 0, 1) := by decide +kernel
theorem dX2_record_76 : decode cX2_record 76 = .ok (.getfield 124, 3) := by decide +kernel
theorem dX2_record_79 : decode cX2_record 79 = .ok (.invokevirtual 136, 3) := by decide +kernel
theorem dX2_record_82 : decode cX2_record 82 = .ok (.astore_n 1, 1) := by decide +kernel
theorem dX2_record_83 : decode cX2_record 83 = .ok (.aload_n 1, 1) := by decide +kernel
theorem dX2_record_84 : decode cX2_record 84 = .ok (.ifnull 21, 3) := by decide +kernel
theorem dX2_record_87 : decode cX2_record 87 = .ok (.aload_n 1, 1) := by decide +kernel
theorem dX2_record_88 : decode cX2_record 88 = .ok (.aload_n 0, 1) := by decide +kernel
theorem dX2_record_89 : decode cX2_record 89 = .ok (.getfield 10, 3) := by decide +kernel
theorem dX2_record_92 : decode cX2_record 92 = .ok (.invokevirtual 140, 3) := by decide +kernel
theorem dX2_record_95 : decode cX2_record 95 = .ok (.aload_n 0, 1) := by decide +kernel
theorem dX2_record_96 : decode cX2_record 96 = .ok (.dup, 1) := by decide +kernel
theorem dX2_record_97 : decode cX2_record 97 = .ok (.getfield 124, 3) := by decide +kernel
theorem dX2_record_100 : decode cX2_record 100 = .ok (.iconst 1, 1) := by decide +kernel
theorem dX2_record_101 : decode cX2_record 101 = .ok (.iadd, 1) := by decide +kernel
theorem dX2_record_102 : decode cX2_record 102 = .ok (.putfield 124, 3) := by decide +kernel
theorem dX2_record_105 : decode cX2_record 105 = .ok (.return_, 1) := by decide +kernel
theorem dX2_stateAt_0 : decode cX2_stateAt 0 = .ok (.iload_n 1, 1) := by decide +kernel
theorem dX2_stateAt_1 : decode cX2_stateAt 1 = .ok (.ifCond .lt 21, 3) := by decide +kernel
theorem dX2_stateAt_4 : decode cX2_stateAt 4 = .ok (.iload_n 1, 1) := by decide +kernel
theorem dX2_stateAt_5 : decode cX2_stateAt 5 = .ok (.aload_n 0, 1) := by decide +kernel
theorem dX2_stateAt_6 : decode cX2_stateAt 6 = .ok (.getfield 19, 3) := by decide +kernel
theorem dX2_stateAt_9 : decode cX2_stateAt 9 = .ok (.arraylength, 1) := by decide +kernel
theorem dX2_stateAt_10 : decode cX2_stateAt 10 = .ok (.if_icmp .ge 12, 3) := by decide +kernel
theorem dX2_stateAt_13 : decode cX2_stateAt 13 = .ok (.aload_n 0, 1) := by decide +kernel
theorem dX2_stateAt_14 : decode cX2_stateAt 14 = .ok (.getfield 19, 3) := by decide +kernel
theorem dX2_stateAt_17 : decode cX2_stateAt 17 = .ok (.iload_n 1, 1) := by decide +kernel
theorem dX2_stateAt_18 : decode cX2_stateAt 18 = .ok (.aaload, 1) := by decide +kernel
theorem dX2_stateAt_19 : decode cX2_stateAt 19 = .ok (.goto 4, 3) := by decide +kernel
theorem dX2_stateAt_22 : decode cX2_stateAt 22 = .ok (.aconst_null, 1) := by decide +kernel
theorem dX2_stateAt_23 : decode cX2_stateAt 23 = .ok (.areturn, 1) := by decide +kernel
theorem dX2_makeReachWider_0 : decode cX2_makeReachWider 0 = .ok (.aload_n 0, 1) := by decide +kernel
theorem dX2_makeReachWider_1 : decode cX2_makeReachWider 1 = .ok (.getfield 16, 3) := by decide +kernel
theorem dX2_makeReachWider_4 : decode cX2_makeReachWider 4 = .ok (.getfield 40, 3) := by decide +kernel
theorem dX2_makeReachWider_7 : decode cX2_makeReachWider 7 = .ok (.astore_n 3, 1) := by decide +kernel
theorem dX2_makeReachWider_8 : decode cX2_makeReachWider 8 = .ok (.aload_n 0, 1) := by decide +kernel
theorem dX2_makeReachWider_9 : decode cX2_makeReachWider 9 = .ok (.getfield 27, 3) := by decide +kernel
theorem dX2_makeReachWider_12 : decode cX2_makeReachWider 12 = .ok (.iconst 0, 1) := by decide +kernel
theorem dX2_makeReachWider_13 : decode cX2_makeReachWider 13 = .ok (.aload_n 0, 1) := by decide +kernel
theorem dX2_makeReachWider_14 : decode cX2_makeReachWider 14 = .ok (.getfield 31, 3) := by decide +kernel
theorem dX2_makeReachWider_17 : decode cX2_makeReachWider 17 = .ok (.iconst 0, 1) := by decide +kernel
theorem dX2_makeReachWider_18 : decode cX2_makeReachWider 18 = .ok (.bipush 36, 2) := by decide +kernel
theorem dX2_makeReachWider_20 : decode cX2_makeReachWider 20 = .ok (.invokestatic 194, 3) := by decide +kernel
theorem dX2_makeReachWider_23 : decode cX2_makeReachWider 23 = .ok (.iconst 0, 1) := by decide +kernel
theorem dX2_makeReachWider_24 : decode cX2_makeReachWider 24 = .ok (.istore 4, 2) := by decide +kernel
theorem dX2_makeReachWider_26 : decode cX2_makeReachWider 26 = .ok (.iload 4, 2) := by decide +kernel
theorem dX2_makeReachWider_28 : decode cX2_makeReachWider 28 = .ok (.bipush 36, 2) := by decide +kernel
theorem dX2_makeReachWider_30 : decode cX2_makeReachWider 30 = .ok (.if_icmp .ge 46, 3) := by decide +kernel
theorem dX2_makeReachWider_33 : decode cX2_makeReachWider 33 = .ok (.aload_n 0, 1) := by decide +kernel
theorem dX2_makeReachWider_34 : decode cX2_makeReachWider 34 = .ok (.getfield 27, 3) := by decide +kernel
theorem dX2_makeReachWider_37 : decode cX2_makeReachWider 37 = .ok (.iload 4, 2) := by decide +kernel
theorem dX2_makeReachWider_39 : decode cX2_makeReachWider 39 = .ok (.iaload, 1) := by decide +kernel
theorem dX2_makeReachWider_40 : decode cX2_makeReachWider 40 = .ok (.ifCond .le 30, 3) := by decide +kernel
theorem dX2_makeReachWider_43 : decode cX2_makeReachWider 43 = .ok (.aload_n 3, 1) := by decide +kernel
theorem dX2_makeReachWider_44 : decode cX2_makeReachWider 44 = .ok (.iload 4, 2) := by decide +kernel
theorem dX2_makeReachWider_46 : decode cX2_makeReachWider 46 = .ok (.iload_n 1, 1) := by decide +kernel
theorem dX2_makeReachWider_47 : decode cX2_makeReachWider 47 = .ok (.iload_n 2, 1) := by decide +kernel
theorem dX2_makeReachWider_48 : decode cX2_makeReachWider 48 = .ok (.aload_n 0, 1) := by decide +kernel
theorem dX2_makeReachWider_49 : decode cX2_makeReachWider 49 = .ok (.getfield 27, 3) := by decide +kernel
theorem dX2_makeReachWider_52 : decode cX2_makeReachWider 52 = .ok (.iload 4, 2) := by decide +kernel
theorem dX2_makeReachWider_54 : decode cX2_makeReachWider 54 = .ok (.iaload, 1) := by decide +kernel
theorem dX2_makeReachWider_55 : decode cX2_makeReachWider 55 = .ok (.invokevirtual 169, 3) := by decide +kernel
theorem dX2_makeReachWider_58 : decode cX2_makeReachWider 58 = .ok (.aload_n 0, 1) := by decide +kernel
theorem dX2_makeReachWider_59 : decode cX2_makeReachWider 59 = .ok (.iload 4, 2) := by decide +kernel
theorem dX2_makeReachWider_61 : decode cX2_makeReachWider 61 = .ok (.invokevirtual 200, 3) := by decide +kernel
theorem dX2_makeReachWider_64 : decode cX2_makeReachWider 64 = .ok (.aload_n 3, 1) := by decide +kernel
theorem dX2_makeReachWider_65 : decode cX2_makeReachWider 65 = .ok (.iload 4, 2) := by decide +kernel
theorem dX2_makeReachWider_67 : decode cX2_makeReachWider 67 = .ok (.invokevirtual 172, 3) := by decide +kernel
theorem dX2_makeReachWider_70 : decode cX2_makeReachWider 70 = .ok (.iinc 4 1, 3) := by decide +kernel
theorem dX2_makeReachWider_73 : decode cX2_makeReachWider 73 = .ok (.goto (-47), 3) := by decide +kernel
theorem dX2_makeReachWider_76 : decode cX2_makeReachWider 76 = .ok (.aload_n 0, 1) := by decide +kernel
theorem dX2_makeReachWider_77 : decode cX2_makeReachWider 77 = .ok (.getfield 27, 3) := by decide +kernel
theorem dX2_makeReachWider_80 : decode cX2_makeReachWider 80 = .ok (.astore 4, 2) := by decide +kernel
theorem dX2_makeReachWider_82 : decode cX2_makeReachWider 82 = .ok (.aload_n 0, 1) := by decide +kernel
theorem dX2_makeReachWider_83 : decode cX2_makeReachWider 83 = .ok (.aload_n 0, 1) := by decide +kernel
theorem dX2_makeReachWider_84 : decode cX2_makeReachWider 84 = .ok (.getfield 31, 3) := by decide +kernel
theorem dX2_makeReachWider_87 : decode cX2_makeReachWider 87 = .ok (.putfield 27, 3) := by decide +kernel
theorem dX2_makeReachWider_90 : decode cX2_makeReachWider 90 = .ok (.aload_n 0, 1) := by decide +kernel
theorem dX2_makeReachWider_91 : decode cX2_makeReachWider 91 = .ok (.aload 4, 2) := by decide +kernel
theorem dX2_makeReachWider_93 : decode cX2_makeReachWider 93 = .ok (.putfield 31, 3) := by decide +kernel
theorem dX2_makeReachWider_96 : decode cX2_makeReachWider 96 = .ok (.return_, 1) := by decide +kernel
theorem dX2_leaveFrom_0 : decode cX2_leaveFrom 0 = .ok (.aload_n 0, 1) := by decide +kernel
theorem dX2_leaveFrom_1 : decode cX2_leaveFrom 1 = .ok (.getfield 16, 3) := by decide +kernel
theorem dX2_leaveFrom_4 : decode cX2_leaveFrom 4 = .ok (.getfield 40, 3) := by decide +kernel
theorem dX2_leaveFrom_7 : decode cX2_leaveFrom 7 = .ok (.astore_n 2, 1) := by decide +kernel
theorem dX2_leaveFrom_8 : decode cX2_leaveFrom 8 = .ok (.iconst 0, 1) := by decide +kernel
theorem dX2_leaveFrom_9 : decode cX2_leaveFrom 9 = .ok (.istore_n 3, 1) := by decide +kernel
theorem dX2_leaveFrom_10 : decode cX2_leaveFrom 10 = .ok (.iload_n 3, 1) := by decide +kernel
theorem dX2_leaveFrom_11 : decode cX2_leaveFrom 11 = .ok (.bipush 36, 2) := by decide +kernel
theorem dX2_leaveFrom_13 : decode cX2_leaveFrom 13 = .ok (.if_icmp .ge 57, 3) := by decide +kernel
theorem dX2_leaveFrom_16 : decode cX2_leaveFrom 16 = .ok (.aload_n 2, 1) := by decide +kernel
theorem dX2_leaveFrom_17 : decode cX2_leaveFrom 17 = .ok (.iload_n 3, 1) := by decide +kernel
theorem dX2_leaveFrom_18 : decode cX2_leaveFrom 18 = .ok (.invokevirtual 77, 3) := by decide +kernel
theorem dX2_leaveFrom_21 : decode cX2_leaveFrom 21 = .ok (.ifCond .ne 43, 3) := by decide +kernel
theorem dX2_leaveFrom_24 : decode cX2_leaveFrom 24 = .ok (.aload_n 2, 1) := by decide +kernel
theorem dX2_leaveFrom_25 : decode cX2_leaveFrom 25 = .ok (.iload_n 1, 1) := by decide +kernel
theorem dX2_leaveFrom_26 : decode cX2_leaveFrom 26 = .ok (.iload_n 3, 1) := by decide +kernel
theorem dX2_leaveFrom_27 : decode cX2_leaveFrom 27 = .ok (.invokevirtual 163, 3) := by decide +kernel
theorem dX2_leaveFrom_30 : decode cX2_leaveFrom 30 = .ok (.ifCond .eq 34, 3) := by decide +kernel
theorem dX2_leaveFrom_33 : decode cX2_leaveFrom 33 = .ok (.aload_n 2, 1) := by decide +kernel
theorem dX2_leaveFrom_34 : decode cX2_leaveFrom 34 = .ok (.iload_n 1, 1) := by decide +kernel
theorem dX2_leaveFrom_35 : decode cX2_leaveFrom 35 = .ok (.invokevirtual 100, 3) := by decide +kernel
theorem dX2_leaveFrom_38 : decode cX2_leaveFrom 38 = .ok (.aload_n 2, 1) := by decide +kernel
theorem dX2_leaveFrom_39 : decode cX2_leaveFrom 39 = .ok (.iload_n 1, 1) := by decide +kernel
theorem dX2_leaveFrom_40 : decode cX2_leaveFrom 40 = .ok (.iload_n 3, 1) := by decide +kernel
theorem dX2_leaveFrom_41 : decode cX2_leaveFrom 41 = .ok (.invokevirtual 157, 3) := by decide +kernel
theorem dX2_leaveFrom_44 : decode cX2_leaveFrom 44 = .ok (.isub, 1) := by decide +kernel
theorem dX2_leaveFrom_45 : decode cX2_leaveFrom 45 = .ok (.istore 4, 2) := by decide +kernel
theorem dX2_leaveFrom_47 : decode cX2_leaveFrom 47 = .ok (.aload_n 0, 1) := by decide +kernel
theorem dX2_leaveFrom_48 : decode cX2_leaveFrom 48 = .ok (.getfield 31, 3) := by decide +kernel
theorem dX2_leaveFrom_51 : decode cX2_leaveFrom 51 = .ok (.iload_n 3, 1) := by decide +kernel
theorem dX2_leaveFrom_52 : decode cX2_leaveFrom 52 = .ok (.aload_n 0, 1) := by decide +kernel
theorem dX2_leaveFrom_53 : decode cX2_leaveFrom 53 = .ok (.getfield 31, 3) := by decide +kernel
theorem dX2_leaveFrom_56 : decode cX2_leaveFrom 56 = .ok (.iload_n 3, 1) := by decide +kernel
theorem dX2_leaveFrom_57 : decode cX2_leaveFrom 57 = .ok (.iaload, 1) := by decide +kernel
theorem dX2_leaveFrom_58 : decode cX2_leaveFrom 58 = .ok (.iload 4, 2) := by decide +kernel
theorem dX2_leaveFrom_60 : decode cX2_leaveFrom 60 = .ok (.invokestatic 203, 3) := by decide +kernel
theorem dX2_leaveFrom_63 : decode cX2_leaveFrom 63 = .ok (.iastore, 1) := by decide +kernel
theorem dX2_leaveFrom_64 : decode cX2_leaveFrom 64 = .ok (.iinc 3 1, 3) := by decide +kernel
theorem dX2_leaveFrom_67 : decode cX2_leaveFrom 67 = .ok (.goto (-57), 3) := by decide +kernel
theorem dX2_leaveFrom_70 : decode cX2_leaveFrom 70 = .ok (.return_, 1) := by decide +kernel
theorem dX2_cellsReached_0 : decode cX2_cellsReached 0 = .ok (.iconst 0, 1) := by decide +kernel
theorem dX2_cellsReached_1 : decode cX2_cellsReached 1 = .ok (.istore_n 1, 1) := by decide +kernel
theorem dX2_cellsReached_2 : decode cX2_cellsReached 2 = .ok (.iconst 0, 1) := by decide +kernel
theorem dX2_cellsReached_3 : decode cX2_cellsReached 3 = .ok (.istore_n 2, 1) := by decide +kernel
theorem dX2_cellsReached_4 : decode cX2_cellsReached 4 = .ok (.iload_n 2, 1) := by decide +kernel
theorem dX2_cellsReached_5 : decode cX2_cellsReached 5 = .ok (.bipush 36, 2) := by decide +kernel
theorem dX2_cellsReached_7 : decode cX2_cellsReached 7 = .ok (.if_icmp .ge 22, 3) := by decide +kernel
theorem dX2_cellsReached_10 : decode cX2_cellsReached 10 = .ok (.aload_n 0, 1) := by decide +kernel
theorem dX2_cellsReached_11 : decode cX2_cellsReached 11 = .ok (.getfield 27, 3) := by decide +kernel
theorem dX2_cellsReached_14 : decode cX2_cellsReached 14 = .ok (.iload_n 2, 1) := by decide +kernel
theorem dX2_cellsReached_15 : decode cX2_cellsReached 15 = .ok (.iaload, 1) := by decide +kernel
theorem dX2_cellsReached_16 : decode cX2_cellsReached 16 = .ok (.iconst (-1), 1) := by decide +kernel
theorem dX2_cellsReached_17 : decode cX2_cellsReached 17 = .ok (.if_icmp .eq 6, 3) := by decide +kernel
theorem dX2_cellsReached_20 : decode cX2_cellsReached 20 = .ok (.iinc 1 1, 3) := by decide +kernel
theorem dX2_cellsReached_23 : decode cX2_cellsReached 23 = .ok (.iinc 2 1, 3) := by decide +kernel
theorem dX2_cellsReached_26 : decode cX2_cellsReached 26 = .ok (.goto (-22), 3) := by decide +kernel
theorem dX2_cellsReached_29 : decode cX2_cellsReached 29 = .ok (.iload_n 1, 1) := by decide +kernel
theorem dX2_cellsReached_30 : decode cX2_cellsReached 30 = .ok (.ireturn, 1) := by decide +kernel
theorem dX2_gamesBehind_0 : decode cX2_gamesBehind 0 = .ok (.aload_n 0, 1) := by decide +kernel
theorem dX2_gamesBehind_1 : decode cX2_gamesBehind 1 = .ok (.getfield 16, 3) := by decide +kernel
theorem dX2_gamesBehind_4 : decode cX2_gamesBehind 4 = .ok (.aload_n 0, 1) := by decide +kernel
theorem dX2_gamesBehind_5 : decode cX2_gamesBehind 5 = .ok (.getfield 10, 3) := by decide +kernel
theorem dX2_gamesBehind_8 : decode cX2_gamesBehind 8 = .ok (.invokevirtual 140, 3) := by decide +kernel
theorem dX2_gamesBehind_11 : decode cX2_gamesBehind 11 = .ok (.aload_n 0, 1) := by decide +kernel
theorem dX2_gamesBehind_12 : decode cX2_gamesBehind 12 = .ok (.getfield 16, 3) := by decide +kernel
theorem dX2_gamesBehind_15 : decode cX2_gamesBehind 15 = .ok (.iload_n 1, 1) := by decide +kernel
theorem dX2_gamesBehind_16 : decode cX2_gamesBehind 16 = .ok (.iload_n 2, 1) := by decide +kernel
theorem dX2_gamesBehind_17 : decode cX2_gamesBehind 17 = .ok (.invokevirtual 148, 3) := by decide +kernel
theorem dX2_gamesBehind_20 : decode cX2_gamesBehind 20 = .ok (.pop, 1) := by decide +kernel
theorem dX2_gamesBehind_21 : decode cX2_gamesBehind 21 = .ok (.aload_n 0, 1) := by decide +kernel
theorem dX2_gamesBehind_22 : decode cX2_gamesBehind 22 = .ok (.getfield 16, 3) := by decide +kernel
theorem dX2_gamesBehind_25 : decode cX2_gamesBehind 25 = .ok (.invokevirtual 73, 3) := by decide +kernel
theorem dX2_gamesBehind_28 : decode cX2_gamesBehind 28 = .ok (.ifCond .eq 7, 3) := by decide +kernel
theorem dX2_gamesBehind_31 : decode cX2_gamesBehind 31 = .ok (.iconst 1, 1) := by decide +kernel
theorem dX2_gamesBehind_32 : decode cX2_gamesBehind 32 = .ok (.goto 24, 3) := by decide +kernel
theorem dX2_gamesBehind_35 : decode cX2_gamesBehind 35 = .ok (.iconst 1, 1) := by decide +kernel
theorem dX2_gamesBehind_36 : decode cX2_gamesBehind 36 = .ok (.aload_n 0, 1) := by decide +kernel
theorem dX2_gamesBehind_37 : decode cX2_gamesBehind 37 = .ok (.getfield 16, 3) := by decide +kernel
theorem dX2_gamesBehind_40 : decode cX2_gamesBehind 40 = .ok (.getfield 40, 3) := by decide +kernel
theorem dX2_gamesBehind_43 : decode cX2_gamesBehind 43 = .ok (.aload_n 0, 1) := by decide +kernel
theorem dX2_gamesBehind_44 : decode cX2_gamesBehind 44 = .ok (.getfield 16, 3) := by decide +kernel
theorem dX2_gamesBehind_47 : decode cX2_gamesBehind 47 = .ok (.getfield 106, 3) := by decide +kernel
theorem dX2_gamesBehind_50 : decode cX2_gamesBehind 50 = .ok (.invokevirtual 160, 3) := by decide +kernel
theorem dX2_gamesBehind_53 : decode cX2_gamesBehind 53 = .ok (.invokestatic 203, 3) := by decide +kernel
theorem dX2_gamesBehind_56 : decode cX2_gamesBehind 56 = .ok (.ireturn, 1) := by decide +kernel
theorem dX2_worthOf_0 : decode cX2_worthOf 0 = .ok (.aload_n 0, 1) := by decide +kernel
theorem dX2_worthOf_1 : decode cX2_worthOf 1 = .ok (.getfield 16, 3) := by decide +kernel
theorem dX2_worthOf_4 : decode cX2_worthOf 4 = .ok (.aload_n 0, 1) := by decide +kernel
theorem dX2_worthOf_5 : decode cX2_worthOf 5 = .ok (.getfield 10, 3) := by decide +kernel
theorem dX2_worthOf_8 : decode cX2_worthOf 8 = .ok (.invokevirtual 140, 3) := by decide +kernel
theorem dX2_worthOf_11 : decode cX2_worthOf 11 = .ok (.aload_n 0, 1) := by decide +kernel
theorem dX2_worthOf_12 : decode cX2_worthOf 12 = .ok (.getfield 16, 3) := by decide +kernel
theorem dX2_worthOf_15 : decode cX2_worthOf 15 = .ok (.iload_n 1, 1) := by decide +kernel
theorem dX2_worthOf_16 : decode cX2_worthOf 16 = .ok (.iload_n 2, 1) := by decide +kernel
theorem dX2_worthOf_17 : decode cX2_worthOf 17 = .ok (.invokevirtual 208, 3) := by decide +kernel
theorem dX2_worthOf_20 : decode cX2_worthOf 20 = .ok (.pop, 1) := by decide +kernel
theorem dX2_worthOf_21 : decode cX2_worthOf 21 = .ok (.aload_n 0, 1) := by decide +kernel
theorem dX2_worthOf_22 : decode cX2_worthOf 22 = .ok (.getfield 10, 3) := by decide +kernel
theorem dX2_worthOf_25 : decode cX2_worthOf 25 = .ok (.getfield 106, 3) := by decide +kernel
theorem dX2_worthOf_28 : decode cX2_worthOf 28 = .ok (.istore_n 3, 1) := by decide +kernel
theorem dX2_worthOf_29 : decode cX2_worthOf 29 = .ok (.aload_n 0, 1) := by decide +kernel
theorem dX2_worthOf_30 : decode cX2_worthOf 30 = .ok (.getfield 16, 3) := by decide +kernel
theorem dX2_worthOf_33 : decode cX2_worthOf 33 = .ok (.getfield 40, 3) := by decide +kernel
theorem dX2_worthOf_36 : decode cX2_worthOf 36 = .ok (.iload_n 3, 1) := by decide +kernel
theorem dX2_worthOf_37 : decode cX2_worthOf 37 = .ok (.invokevirtual 121, 3) := by decide +kernel
theorem dX2_worthOf_40 : decode cX2_worthOf 40 = .ok (.aload_n 0, 1) := by decide +kernel
theorem dX2_worthOf_41 : decode cX2_worthOf 41 = .ok (.getfield 16, 3) := by decide +kernel
theorem dX2_worthOf_44 : decode cX2_worthOf 44 = .ok (.getfield 40, 3) := by decide +kernel
theorem dX2_worthOf_47 : decode cX2_worthOf 47 = .ok (.iconst 1, 1) := by decide +kernel
theorem dX2_worthOf_48 : decode cX2_worthOf 48 = .ok (.iload_n 3, 1) := by decide +kernel
theorem dX2_worthOf_49 : decode cX2_worthOf 49 = .ok (.isub, 1) := by decide +kernel
theorem dX2_worthOf_50 : decode cX2_worthOf 50 = .ok (.invokevirtual 121, 3) := by decide +kernel
theorem dX2_worthOf_53 : decode cX2_worthOf 53 = .ok (.isub, 1) := by decide +kernel
theorem dX2_worthOf_54 : decode cX2_worthOf 54 = .ok (.istore 4, 2) := by decide +kernel
theorem dX2_worthOf_56 : decode cX2_worthOf 56 = .ok (.aload_n 0, 1) := by decide +kernel
theorem dX2_worthOf_57 : decode cX2_worthOf 57 = .ok (.getfield 16, 3) := by decide +kernel
theorem dX2_worthOf_60 : decode cX2_worthOf 60 = .ok (.invokevirtual 73, 3) := by decide +kernel
theorem dX2_worthOf_63 : decode cX2_worthOf 63 = .ok (.ifCond .eq 12, 3) := by decide +kernel
theorem dX2_worthOf_66 : decode cX2_worthOf 66 = .ok (.iload 4, 2) := by decide +kernel
theorem dX2_worthOf_68 : decode cX2_worthOf 68 = .ok (.sipush 10000, 3) := by decide +kernel
theorem dX2_worthOf_71 : decode cX2_worthOf 71 = .ok (.iadd, 1) := by decide +kernel
theorem dX2_worthOf_72 : decode cX2_worthOf 72 = .ok (.goto 5, 3) := by decide +kernel
theorem dX2_worthOf_75 : decode cX2_worthOf 75 = .ok (.iload 4, 2) := by decide +kernel
theorem dX2_worthOf_77 : decode cX2_worthOf 77 = .ok (.ireturn, 1) := by decide +kernel
theorem dX2_tryText_0 : decode cX2_tryText 0 = .ok (.aload_n 0, 1) := by decide +kernel
theorem dX2_tryText_1 : decode cX2_tryText 1 = .ok (.getfield 16, 3) := by decide +kernel
theorem dX2_tryText_4 : decode cX2_tryText 4 = .ok (.aload_n 0, 1) := by decide +kernel
theorem dX2_tryText_5 : decode cX2_tryText 5 = .ok (.getfield 10, 3) := by decide +kernel
theorem dX2_tryText_8 : decode cX2_tryText 8 = .ok (.invokevirtual 140, 3) := by decide +kernel
theorem dX2_tryText_11 : decode cX2_tryText 11 = .ok (.iconst 0, 1) := by decide +kernel
theorem dX2_tryText_12 : decode cX2_tryText 12 = .ok (.istore_n 1, 1) := by decide +kernel
theorem dX2_tryText_13 : decode cX2_tryText 13 = .ok (.iconst 0, 1) := by decide +kernel
theorem dX2_tryText_14 : decode cX2_tryText 14 = .ok (.istore_n 2, 1) := by decide +kernel
theorem dX2_tryText_15 : decode cX2_tryText 15 = .ok (.iload_n 2, 1) := by decide +kernel
theorem dX2_tryText_16 : decode cX2_tryText 16 = .ok (.bipush 80, 2) := by decide +kernel
theorem dX2_tryText_18 : decode cX2_tryText 18 = .ok (.if_icmp .ge 121, 3) := by decide +kernel
theorem dX2_tryText_21 : decode cX2_tryText 21 = .ok (.iload_n 1, 1) := by decide +kernel
theorem dX2_tryText_22 : decode cX2_tryText 22 = .ok (.aload_n 0, 1) := by decide +kernel
theorem dX2_tryText_23 : decode cX2_tryText 23 = .ok (.getfield 127, 3) := by decide +kernel
theorem dX2_tryText_26 : decode cX2_tryText 26 = .ok (.if_icmp .ge 113, 3) := by decide +kernel
theorem dX2_tryText_29 : decode cX2_tryText 29 = .ok (.aload_n 0, 1) := by decide +kernel
theorem dX2_tryText_30 : decode cX2_tryText 30 = .ok (.iload_n 1, 1) := by decide +kernel
theorem dX2_tryText_31 : decode cX2_tryText 31 = .ok (.invokevirtual 211, 3) := by decide +kernel
theorem dX2_tryText_34 : decode cX2_tryText 34 = .ok (.istore_n 3, 1) := by decide +kernel
theorem dX2_tryText_35 : decode cX2_tryText 35 = .ok (.aload_n 0, 1) := by decide +kernel
theorem dX2_tryText_36 : decode cX2_tryText 36 = .ok (.iload_n 1, 1) := by decide +kernel
theorem dX2_tryText_37 : decode cX2_tryText 37 = .ok (.invokevirtual 214, 3) := by decide +kernel
theorem dX2_tryText_40 : decode cX2_tryText 40 = .ok (.istore 4, 2) := by decide +kernel
theorem dX2_tryText_42 : decode cX2_tryText 42 = .ok (.aload_n 0, 1) := by decide +kernel
theorem dX2_tryText_43 : decode cX2_tryText 43 = .ok (.iload_n 1, 1) := by decide +kernel
theorem dX2_tryText_44 : decode cX2_tryText 44 = .ok (.iconst 2, 1) := by decide +kernel
theorem dX2_tryText_45 : decode cX2_tryText 45 = .ok (.iadd, 1) := by decide +kernel
theorem dX2_tryText_46 : decode cX2_tryText 46 = .ok (.invokevirtual 214, 3) := by decide +kernel
theorem dX2_tryText_49 : decode cX2_tryText 49 = .ok (.istore 5, 2) := by decide +kernel
theorem dX2_tryText_51 : decode cX2_tryText 51 = .ok (.iconst 1, 1) := by decide +kernel
theorem dX2_tryText_52 : decode cX2_tryText 52 = .ok (.istore 6, 2) := by decide +kernel
theorem dX2_tryText_54 : decode cX2_tryText 54 = .ok (.iload_n 3, 1) := by decide +kernel
theorem dX2_tryText_55 : decode cX2_tryText 55 = .ok (.iconst 5, 1) := by decide +kernel
theorem dX2_tryText_56 : decode cX2_tryText 56 = .ok (.if_icmp .ne 19, 3) := by decide +kernel
theorem dX2_tryText_59 : decode cX2_tryText 59 = .ok (.aload_n 0, 1) := by decide +kernel
theorem dX2_tryText_60 : decode cX2_tryText 60 = .ok (.getfield 16, 3) := by decide +kernel
theorem dX2_tryText_63 : decode cX2_tryText 63 = .ok (.iload 4, 2) := by decide +kernel
theorem dX2_tryText_65 : decode cX2_tryText 65 = .ok (.iload 5, 2) := by decide +kernel
theorem dX2_tryText_67 : decode cX2_tryText 67 = .ok (.invokevirtual 144, 3) := by decide +kernel
theorem dX2_tryText_70 : decode cX2_tryText 70 = .ok (.istore 6, 2) := by decide +kernel
theorem dX2_tryText_72 : decode cX2_tryText 72 = .ok (.goto 17, 3) := by decide +kernel
theorem dX2_tryText_75 : decode cX2_tryText 75 = .ok (.iload_n 3, 1) := by decide +kernel
theorem dX2_tryText_76 : decode cX2_tryText 76 = .ok (.iconst 2, 1) := by decide +kernel
theorem dX2_tryText_77 : decode cX2_tryText 77 = .ok (.if_icmp .ne 12, 3) := by decide +kernel
theorem dX2_tryText_80 : decode cX2_tryText 80 = .ok (.aload_n 0, 1) := by decide +kernel
theorem dX2_tryText_81 : decode cX2_tryText 81 = .ok (.getfield 16, 3) := by decide +kernel
theorem dX2_tryText_84 : decode cX2_tryText 84 = .ok (.invokevirtual 151, 3) := by decide +kernel
theorem dX2_tryText_87 : decode cX2_tryText 87 = .ok (.istore 6, 2) := by decide +kernel
theorem dX2_tryText_89 : decode cX2_tryText 89 = .ok (.iload 6, 2) := by decide +kernel
theorem dX2_tryText_91 : decode cX2_tryText 91 = .ok (.ifCond .eq 11, 3) := by decide +kernel
theorem dX2_tryText_94 : decode cX2_tryText 94 = .ok (.bipush 16, 2) := by decide +kernel
theorem dX2_tryText_96 : decode cX2_tryText 96 = .ok (.iload_n 1, 1) := by decide +kernel
theorem dX2_tryText_97 : decode cX2_tryText 97 = .ok (.imul, 1) := by decide +kernel
theorem dX2_tryText_98 : decode cX2_tryText 98 = .ok (.iload 6, 2) := by decide +kernel
theorem dX2_tryText_100 : decode cX2_tryText 100 = .ok (.iadd, 1) := by decide +kernel
theorem dX2_tryText_101 : decode cX2_tryText 101 = .ok (.ireturn, 1) := by decide +kernel
theorem dX2_tryText_102 : decode cX2_tryText 102 = .ok (.iload_n 3, 1) := by decide +kernel
theorem dX2_tryText_103 : decode cX2_tryText 103 = .ok (.iconst 5, 1) := by decide +kernel
theorem dX2_tryText_104 : decode cX2_tryText 104 = .ok (.if_icmp .ne 18, 3) := by decide +kernel
theorem dX2_tryText_107 : decode cX2_tryText 107 = .ok (.aload_n 0, 1) := by decide +kernel
theorem dX2_tryText_108 : decode cX2_tryText 108 = .ok (.getfield 16, 3) := by decide +kernel
theorem dX2_tryText_111 : decode cX2_tryText 111 = .ok (.iload 4, 2) := by decide +kernel
theorem dX2_tryText_113 : decode cX2_tryText 113 = .ok (.iload 5, 2) := by decide +kernel
theorem dX2_tryText_115 : decode cX2_tryText 115 = .ok (.invokevirtual 148, 3) := by decide +kernel
theorem dX2_tryText_118 : decode cX2_tryText 118 = .ok (.pop, 1) := by decide +kernel
theorem dX2_tryText_119 : decode cX2_tryText 119 = .ok (.goto 10, 3) := by decide +kernel
theorem dX2_tryText_122 : decode cX2_tryText 122 = .ok (.aload_n 0, 1) := by decide +kernel
theorem dX2_tryText_123 : decode cX2_tryText 123 = .ok (.getfield 16, 3) := by decide +kernel
theorem dX2_tryText_126 : decode cX2_tryText 126 = .ok (.invokevirtual 154, 3) := by decide +kernel
theorem dX2_tryText_129 : decode cX2_tryText 129 = .ok (.iload_n 1, 1) := by decide +kernel
theorem dX2_tryText_130 : decode cX2_tryText 130 = .ok (.iload_n 3, 1) := by decide +kernel
theorem dX2_tryText_131 : decode cX2_tryText 131 = .ok (.iadd, 1) := by decide +kernel
theorem dX2_tryText_132 : decode cX2_tryText 132 = .ok (.istore_n 1, 1) := by decide +kernel
theorem dX2_tryText_133 : decode cX2_tryText 133 = .ok (.iinc 2 1, 3) := by decide +kernel
theorem dX2_tryText_136 : decode cX2_tryText 136 = .ok (.goto (-121), 3) := by decide +kernel
theorem dX2_tryText_139 : decode cX2_tryText 139 = .ok (.iconst (-1), 1) := by decide +kernel
theorem dX2_tryText_140 : decode cX2_tryText 140 = .ok (.ireturn, 1) := by decide +kernel
theorem dX2_signsOfForm_0 : decode cX2_signsOfForm 0 = .ok (.aload_n 0, 1) := by decide +kernel
theorem dX2_signsOfForm_1 : decode cX2_signsOfForm 1 = .ok (.iload_n 1, 1) := by decide +kernel
theorem dX2_signsOfForm_2 : decode cX2_signsOfForm 2 = .ok (.invokevirtual 217, 3) := by decide +kernel
theorem dX2_signsOfForm_5 : decode cX2_signsOfForm 5 = .ok (.bipush 45, 2) := by decide +kernel
theorem dX2_signsOfForm_7 : decode cX2_signsOfForm 7 = .ok (.if_icmp .ne 17, 3) := by decide +kernel
theorem dX2_signsOfForm_10 : decode cX2_signsOfForm 10 = .ok (.aload_n 0, 1) := by decide +kernel
theorem dX2_signsOfForm_11 : decode cX2_signsOfForm 11 = .ok (.iload_n 1, 1) := by decide +kernel
theorem dX2_signsOfForm_12 : decode cX2_signsOfForm 12 = .ok (.iconst 1, 1) := by decide +kernel
theorem dX2_signsOfForm_13 : decode cX2_signsOfForm 13 = .ok (.iadd, 1) := by decide +kernel
theorem dX2_signsOfForm_14 : decode cX2_signsOfForm 14 = .ok (.invokevirtual 217, 3) := by decide +kernel
theorem dX2_signsOfForm_17 : decode cX2_signsOfForm 17 = .ok (.bipush 59, 2) := by decide +kernel
theorem dX2_signsOfForm_19 : decode cX2_signsOfForm 19 = .ok (.if_icmp .ne 5, 3) := by decide +kernel
theorem dX2_signsOfForm_22 : decode cX2_signsOfForm 22 = .ok (.iconst 2, 1) := by decide +kernel
theorem dX2_signsOfForm_23 : decode cX2_signsOfForm 23 = .ok (.ireturn, 1) := by decide +kernel
theorem dX2_signsOfForm_24 : decode cX2_signsOfForm 24 = .ok (.aload_n 0, 1) := by decide +kernel
theorem dX2_signsOfForm_25 : decode cX2_signsOfForm 25 = .ok (.iload_n 1, 1) := by decide +kernel
theorem dX2_signsOfForm_26 : decode cX2_signsOfForm 26 = .ok (.invokevirtual 214, 3) := by decide +kernel
theorem dX2_signsOfForm_29 : decode cX2_signsOfForm 29 = .ok (.iconst (-1), 1) := by decide +kernel
theorem dX2_signsOfForm_30 : decode cX2_signsOfForm 30 = .ok (.if_icmp .eq 30, 3) := by decide +kernel
theorem dX2_signsOfForm_33 : decode cX2_signsOfForm 33 = .ok (.aload_n 0, 1) := by decide +kernel
theorem dX2_signsOfForm_34 : decode cX2_signsOfForm 34 = .ok (.iload_n 1, 1) := by decide +kernel
theorem dX2_signsOfForm_35 : decode cX2_signsOfForm 35 = .ok (.iconst 2, 1) := by decide +kernel
theorem dX2_signsOfForm_36 : decode cX2_signsOfForm 36 = .ok (.iadd, 1) := by decide +kernel
theorem dX2_signsOfForm_37 : decode cX2_signsOfForm 37 = .ok (.invokevirtual 214, 3) := by decide +kernel
theorem dX2_signsOfForm_40 : decode cX2_signsOfForm 40 = .ok (.iconst (-1), 1) := by decide +kernel
theorem dX2_signsOfForm_41 : decode cX2_signsOfForm 41 = .ok (.if_icmp .eq 19, 3) := by decide +kernel
theorem dX2_signsOfForm_44 : decode cX2_signsOfForm 44 = .ok (.aload_n 0, 1) := by decide +kernel
theorem dX2_signsOfForm_45 : decode cX2_signsOfForm 45 = .ok (.iload_n 1, 1) := by decide +kernel
theorem dX2_signsOfForm_46 : decode cX2_signsOfForm 46 = .ok (.iconst 4, 1) := by decide +kernel
theorem dX2_signsOfForm_47 : decode cX2_signsOfForm 47 = .ok (.iadd, 1) := by decide +kernel
theorem dX2_signsOfForm_48 : decode cX2_signsOfForm 48 = .ok (.invokevirtual 217, 3) := by decide +kernel
theorem dX2_signsOfForm_51 : decode cX2_signsOfForm 51 = .ok (.bipush 59, 2) := by decide +kernel
theorem dX2_signsOfForm_53 : decode cX2_signsOfForm 53 = .ok (.if_icmp .ne 7, 3) := by decide +kernel
theorem dX2_signsOfForm_56 : decode cX2_signsOfForm 56 = .ok (.iconst 1, 1) := by decide +kernel
theorem dX2_signsOfForm_57 : decode cX2_signsOfForm 57 = .ok (.goto 4, 3) := by decide +kernel
theorem dX2_signsOfForm_60 : decode cX2_signsOfForm 60 = .ok (.iconst 0, 1) := by decide +kernel
theorem dX2_signsOfForm_61 : decode cX2_signsOfForm 61 = .ok (.istore_n 2, 1) := by decide +kernel
theorem dX2_signsOfForm_62 : decode cX2_signsOfForm 62 = .ok (.iload_n 2, 1) := by decide +kernel
theorem dX2_signsOfForm_63 : decode cX2_signsOfForm 63 = .ok (.ifCond .eq 7, 3) := by decide +kernel
theorem dX2_signsOfForm_66 : decode cX2_signsOfForm 66 = .ok (.iconst 5, 1) := by decide +kernel
theorem dX2_signsOfForm_67 : decode cX2_signsOfForm 67 = .ok (.goto 4, 3) := by decide +kernel
theorem dX2_signsOfForm_70 : decode cX2_signsOfForm 70 = .ok (.iconst 0, 1) := by decide +kernel
theorem dX2_signsOfForm_71 : decode cX2_signsOfForm 71 = .ok (.ireturn, 1) := by decide +kernel
theorem dX2_cellAt_0 : decode cX2_cellAt 0 = .ok (.aload_n 0, 1) := by decide +kernel
theorem dX2_cellAt_1 : decode cX2_cellAt 1 = .ok (.iload_n 1, 1) := by decide +kernel
theorem dX2_cellAt_2 : decode cX2_cellAt 2 = .ok (.invokevirtual 217, 3) := by decide +kernel
theorem dX2_cellAt_5 : decode cX2_cellAt 5 = .ok (.bipush 97, 2) := by decide +kernel
theorem dX2_cellAt_7 : decode cX2_cellAt 7 = .ok (.isub, 1) := by decide +kernel
theorem dX2_cellAt_8 : decode cX2_cellAt 8 = .ok (.istore_n 2, 1) := by decide +kernel
theorem dX2_cellAt_9 : decode cX2_cellAt 9 = .ok (.aload_n 0, 1) := by decide +kernel
theorem dX2_cellAt_10 : decode cX2_cellAt 10 = .ok (.iload_n 1, 1) := by decide +kernel
theorem dX2_cellAt_11 : decode cX2_cellAt 11 = .ok (.iconst 1, 1) := by decide +kernel
theorem dX2_cellAt_12 : decode cX2_cellAt 12 = .ok (.iadd, 1) := by decide +kernel
theorem dX2_cellAt_13 : decode cX2_cellAt 13 = .ok (.invokevirtual 217, 3) := by decide +kernel
theorem dX2_cellAt_16 : decode cX2_cellAt 16 = .ok (.bipush 49, 2) := by decide +kernel
theorem dX2_cellAt_18 : decode cX2_cellAt 18 = .ok (.isub, 1) := by decide +kernel
theorem dX2_cellAt_19 : decode cX2_cellAt 19 = .ok (.istore_n 3, 1) := by decide +kernel
theorem dX2_cellAt_20 : decode cX2_cellAt 20 = .ok (.iload_n 2, 1) := by decide +kernel
theorem dX2_cellAt_21 : decode cX2_cellAt 21 = .ok (.ifCond .lt 23, 3) := by decide +kernel
theorem dX2_cellAt_24 : decode cX2_cellAt 24 = .ok (.iload_n 2, 1) := by decide +kernel
theorem dX2_cellAt_25 : decode cX2_cellAt 25 = .ok (.bipush 6, 2) := by decide +kernel
theorem dX2_cellAt_27 : decode cX2_cellAt 27 = .ok (.if_icmp .ge 17, 3) := by decide +kernel
theorem dX2_cellAt_30 : decode cX2_cellAt 30 = .ok (.iload_n 3, 1) := by decide +kernel
theorem dX2_cellAt_31 : decode cX2_cellAt 31 = .ok (.ifCond .lt 13, 3) := by decide +kernel
theorem dX2_cellAt_34 : decode cX2_cellAt 34 = .ok (.iload_n 3, 1) := by decide +kernel
theorem dX2_cellAt_35 : decode cX2_cellAt 35 = .ok (.bipush 6, 2) := by decide +kernel
theorem dX2_cellAt_37 : decode cX2_cellAt 37 = .ok (.if_icmp .ge 7, 3) := by decide +kernel
theorem dX2_cellAt_40 : decode cX2_cellAt 40 = .ok (.iconst 1, 1) := by decide +kernel
theorem dX2_cellAt_41 : decode cX2_cellAt 41 = .ok (.goto 4, 3) := by decide +kernel
theorem dX2_cellAt_44 : decode cX2_cellAt 44 = .ok (.iconst 0, 1) := by decide +kernel
theorem dX2_cellAt_45 : decode cX2_cellAt 45 = .ok (.istore 4, 2) := by decide +kernel
theorem dX2_cellAt_47 : decode cX2_cellAt 47 = .ok (.iload 4, 2) := by decide +kernel
theorem dX2_cellAt_49 : decode cX2_cellAt 49 = .ok (.ifCond .eq 12, 3) := by decide +kernel
theorem dX2_cellAt_52 : decode cX2_cellAt 52 = .ok (.bipush 6, 2) := by decide +kernel
theorem dX2_cellAt_54 : decode cX2_cellAt 54 = .ok (.iload_n 3, 1) := by decide +kernel
theorem dX2_cellAt_55 : decode cX2_cellAt 55 = .ok (.imul, 1) := by decide +kernel
theorem dX2_cellAt_56 : decode cX2_cellAt 56 = .ok (.iload_n 2, 1) := by decide +kernel
theorem dX2_cellAt_57 : decode cX2_cellAt 57 = .ok (.iadd, 1) := by decide +kernel
theorem dX2_cellAt_58 : decode cX2_cellAt 58 = .ok (.goto 4, 3) := by decide +kernel
theorem dX2_cellAt_61 : decode cX2_cellAt 61 = .ok (.iconst (-1), 1) := by decide +kernel
theorem dX2_cellAt_62 : decode cX2_cellAt 62 = .ok (.ireturn, 1) := by decide +kernel
theorem dX2_signAt_0 : decode cX2_signAt 0 = .ok (.iload_n 1, 1) := by decide +kernel
theorem dX2_signAt_1 : decode cX2_signAt 1 = .ok (.ifCond .lt 29, 3) := by decide +kernel
theorem dX2_signAt_4 : decode cX2_signAt 4 = .ok (.iload_n 1, 1) := by decide +kernel
theorem dX2_signAt_5 : decode cX2_signAt 5 = .ok (.aload_n 0, 1) := by decide +kernel
theorem dX2_signAt_6 : decode cX2_signAt 6 = .ok (.getfield 127, 3) := by decide +kernel
theorem dX2_signAt_9 : decode cX2_signAt 9 = .ok (.if_icmp .ge 21, 3) := by decide +kernel
theorem dX2_signAt_12 : decode cX2_signAt 12 = .ok (.iload_n 1, 1) := by decide +kernel
theorem dX2_signAt_13 : decode cX2_signAt 13 = .ok (.aload_n 0, 1) := by decide +kernel
theorem dX2_signAt_14 : decode cX2_signAt 14 = .ok (.getfield 23, 3) := by decide +kernel
theorem dX2_signAt_17 : decode cX2_signAt 17 = .ok (.arraylength, 1) := by decide +kernel
theorem dX2_signAt_18 : decode cX2_signAt 18 = .ok (.if_icmp .ge 12, 3) := by decide +kernel
theorem dX2_signAt_21 : decode cX2_signAt 21 = .ok (.aload_n 0, 1) := by decide +kernel
theorem dX2_signAt_22 : decode cX2_signAt 22 = .ok (.getfield 23, 3) := by decide +kernel
theorem dX2_signAt_25 : decode cX2_signAt 25 = .ok (.iload_n 1, 1) := by decide +kernel
theorem dX2_signAt_26 : decode cX2_signAt 26 = .ok (.caload, 1) := by decide +kernel
theorem dX2_signAt_27 : decode cX2_signAt 27 = .ok (.goto 4, 3) := by decide +kernel
theorem dX2_signAt_30 : decode cX2_signAt 30 = .ok (.iconst 0, 1) := by decide +kernel
theorem dX2_signAt_31 : decode cX2_signAt 31 = .ok (.ireturn, 1) := by decide +kernel
theorem dX2_movesInText_0 : decode cX2_movesInText 0 = .ok (.iconst 0, 1) := by decide +kernel
theorem dX2_movesInText_1 : decode cX2_movesInText 1 = .ok (.istore_n 1, 1) := by decide +kernel
theorem dX2_movesInText_2 : decode cX2_movesInText 2 = .ok (.iconst 0, 1) := by decide +kernel
theorem dX2_movesInText_3 : decode cX2_movesInText 3 = .ok (.istore_n 2, 1) := by decide +kernel
theorem dX2_movesInText_4 : decode cX2_movesInText 4 = .ok (.iload_n 2, 1) := by decide +kernel
theorem dX2_movesInText_5 : decode cX2_movesInText 5 = .ok (.aload_n 0, 1) := by decide +kernel
theorem dX2_movesInText_6 : decode cX2_movesInText 6 = .ok (.getfield 127, 3) := by decide +kernel
theorem dX2_movesInText_9 : decode cX2_movesInText 9 = .ok (.if_icmp .ge 22, 3) := by decide +kernel
theorem dX2_movesInText_12 : decode cX2_movesInText 12 = .ok (.aload_n 0, 1) := by decide +kernel
theorem dX2_movesInText_13 : decode cX2_movesInText 13 = .ok (.iload_n 2, 1) := by decide +kernel
theorem dX2_movesInText_14 : decode cX2_movesInText 14 = .ok (.invokevirtual 217, 3) := by decide +kernel
theorem dX2_movesInText_17 : decode cX2_movesInText 17 = .ok (.bipush 59, 2) := by decide +kernel
theorem dX2_movesInText_19 : decode cX2_movesInText 19 = .ok (.if_icmp .ne 6, 3) := by decide +kernel
theorem dX2_movesInText_22 : decode cX2_movesInText 22 = .ok (.iinc 1 1, 3) := by decide +kernel
theorem dX2_movesInText_25 : decode cX2_movesInText 25 = .ok (.iinc 2 1, 3) := by decide +kernel
theorem dX2_movesInText_28 : decode cX2_movesInText 28 = .ok (.goto (-24), 3) := by decide +kernel
theorem dX2_movesInText_31 : decode cX2_movesInText 31 = .ok (.iload_n 1, 1) := by decide +kernel
theorem dX2_movesInText_32 : decode cX2_movesInText 32 = .ok (.ireturn, 1) := by decide +kernel
theorem dJ6_compare_7cf53_0 : decode cJ6_compare_7cf53 0 = .ok (.iload_n 0, 1) := by decide +kernel
theorem dJ6_compare_7cf53_1 : decode cJ6_compare_7cf53 1 = .ok (.iload_n 1, 1) := by decide +kernel
theorem dJ6_compare_7cf53_2 : decode cJ6_compare_7cf53 2 = .ok (.if_icmp .ge 7, 3) := by decide +kernel
theorem dJ6_compare_7cf53_5 : decode cJ6_compare_7cf53 5 = .ok (.iconst (-1), 1) := by decide +kernel
theorem dJ6_compare_7cf53_6 : decode cJ6_compare_7cf53 6 = .ok (.goto 13, 3) := by decide +kernel
theorem dJ6_compare_7cf53_9 : decode cJ6_compare_7cf53 9 = .ok (.iload_n 0, 1) := by decide +kernel
theorem dJ6_compare_7cf53_10 : decode cJ6_compare_7cf53 10 = .ok (.iload_n 1, 1) := by decide +kernel
theorem dJ6_compare_7cf53_11 : decode cJ6_compare_7cf53 11 = .ok (.if_icmp .ne 7, 3) := by decide +kernel
theorem dJ6_compare_7cf53_14 : decode cJ6_compare_7cf53 14 = .ok (.iconst 0, 1) := by decide +kernel
theorem dJ6_compare_7cf53_15 : decode cJ6_compare_7cf53 15 = .ok (.goto 4, 3) := by decide +kernel
theorem dJ6_compare_7cf53_18 : decode cJ6_compare_7cf53 18 = .ok (.iconst 1, 1) := by decide +kernel
theorem dJ6_compare_7cf53_19 : decode cJ6_compare_7cf53 19 = .ok (.ireturn, 1) := by decide +kernel
theorem dJ9_abs_0f7a4_0 : decode cJ9_abs_0f7a4 0 = .ok (.iload_n 0, 1) := by decide +kernel
theorem dJ9_abs_0f7a4_1 : decode cJ9_abs_0f7a4 1 = .ok (.ifCond .ge 8, 3) := by decide +kernel
theorem dJ9_abs_0f7a4_4 : decode cJ9_abs_0f7a4 4 = .ok (.iload_n 0, 1) := by decide +kernel
theorem dJ9_abs_0f7a4_5 : decode cJ9_abs_0f7a4 5 = .ok (.ineg, 1) := by decide +kernel
theorem dJ9_abs_0f7a4_6 : decode cJ9_abs_0f7a4 6 = .ok (.goto 4, 3) := by decide +kernel
theorem dJ9_abs_0f7a4_9 : decode cJ9_abs_0f7a4 9 = .ok (.iload_n 0, 1) := by decide +kernel
theorem dJ9_abs_0f7a4_10 : decode cJ9_abs_0f7a4 10 = .ok (.ireturn, 1) := by decide +kernel
theorem dJ9_max_7cf53_0 : decode cJ9_max_7cf53 0 = .ok (.iload_n 0, 1) := by decide +kernel
theorem dJ9_max_7cf53_1 : decode cJ9_max_7cf53 1 = .ok (.iload_n 1, 1) := by decide +kernel
theorem dJ9_max_7cf53_2 : decode cJ9_max_7cf53 2 = .ok (.if_icmp .lt 7, 3) := by decide +kernel
theorem dJ9_max_7cf53_5 : decode cJ9_max_7cf53 5 = .ok (.iload_n 0, 1) := by decide +kernel
theorem dJ9_max_7cf53_6 : decode cJ9_max_7cf53 6 = .ok (.goto 4, 3) := by decide +kernel
theorem dJ9_max_7cf53_9 : decode cJ9_max_7cf53 9 = .ok (.iload_n 1, 1) := by decide +kernel
theorem dJ9_max_7cf53_10 : decode cJ9_max_7cf53 10 = .ok (.ireturn, 1) := by decide +kernel
theorem dJ9_min_7cf53_0 : decode cJ9_min_7cf53 0 = .ok (.iload_n 0, 1) := by decide +kernel
theorem dJ9_min_7cf53_1 : decode cJ9_min_7cf53 1 = .ok (.iload_n 1, 1) := by decide +kernel
theorem dJ9_min_7cf53_2 : decode cJ9_min_7cf53 2 = .ok (.if_icmp .gt 7, 3) := by decide +kernel
theorem dJ9_min_7cf53_5 : decode cJ9_min_7cf53 5 = .ok (.iload_n 0, 1) := by decide +kernel
theorem dJ9_min_7cf53_6 : decode cJ9_min_7cf53 6 = .ok (.goto 4, 3) := by decide +kernel
theorem dJ9_min_7cf53_9 : decode cJ9_min_7cf53 9 = .ok (.iload_n 1, 1) := by decide +kernel
theorem dJ9_min_7cf53_10 : decode cJ9_min_7cf53 10 = .ok (.ireturn, 1) := by decide +kernel
theorem dL_part_0 : decode cL_part 0 = .ok (.iload_n 0, 1) := by decide +kernel
theorem dL_part_1 : decode cL_part 1 = .ok (.ldc 7, 2) := by decide +kernel
theorem dL_part_3 : decode cL_part 3 = .ok (.iand, 1) := by decide +kernel
theorem dL_part_4 : decode cL_part 4 = .ok (.iload_n 1, 1) := by decide +kernel
theorem dL_part_5 : decode cL_part 5 = .ok (.irem, 1) := by decide +kernel
theorem dL_part_6 : decode cL_part 6 = .ok (.ireturn, 1) := by decide +kernel
theorem dL_take_0 : decode cL_take 0 = .ok (.aload_n 0, 1) := by decide +kernel
theorem dL_take_1 : decode cL_take 1 = .ok (.arraylength, 1) := by decide +kernel
theorem dL_take_2 : decode cL_take 2 = .ok (.ifCond .ne 13, 3) := by decide +kernel
theorem dL_take_5 : decode cL_take 5 = .ok (.sipush 7919, 3) := by decide +kernel
theorem dL_take_8 : decode cL_take 8 = .ok (.iload_n 1, 1) := by decide +kernel
theorem dL_take_9 : decode cL_take 9 = .ok (.imul, 1) := by decide +kernel
theorem dL_take_10 : decode cL_take 10 = .ok (.iconst 3, 1) := by decide +kernel
theorem dL_take_11 : decode cL_take 11 = .ok (.iadd, 1) := by decide +kernel
theorem dL_take_12 : decode cL_take 12 = .ok (.goto 27, 3) := by decide +kernel
theorem dL_take_15 : decode cL_take 15 = .ok (.aload_n 0, 1) := by decide +kernel
theorem dL_take_16 : decode cL_take 16 = .ok (.iload_n 1, 1) := by decide +kernel
theorem dL_take_17 : decode cL_take 17 = .ok (.aload_n 0, 1) := by decide +kernel
theorem dL_take_18 : decode cL_take 18 = .ok (.arraylength, 1) := by decide +kernel
theorem dL_take_19 : decode cL_take 19 = .ok (.irem, 1) := by decide +kernel
theorem dL_take_20 : decode cL_take 20 = .ok (.iaload, 1) := by decide +kernel
theorem dL_take_21 : decode cL_take 21 = .ok (.iload_n 1, 1) := by decide +kernel
theorem dL_take_22 : decode cL_take 22 = .ok (.bipush 7, 2) := by decide +kernel
theorem dL_take_24 : decode cL_take 24 = .ok (.irem, 1) := by decide +kernel
theorem dL_take_25 : decode cL_take 25 = .ok (.ishr, 1) := by decide +kernel
theorem dL_take_26 : decode cL_take 26 = .ok (.iload_n 1, 1) := by decide +kernel
theorem dL_take_27 : decode cL_take 27 = .ok (.aload_n 0, 1) := by decide +kernel
theorem dL_take_28 : decode cL_take 28 = .ok (.arraylength, 1) := by decide +kernel
theorem dL_take_29 : decode cL_take 29 = .ok (.idiv, 1) := by decide +kernel
theorem dL_take_30 : decode cL_take 30 = .ok (.bipush 31, 2) := by decide +kernel
theorem dL_take_32 : decode cL_take 32 = .ok (.imul, 1) := by decide +kernel
theorem dL_take_33 : decode cL_take 33 = .ok (.ixor, 1) := by decide +kernel
theorem dL_take_34 : decode cL_take 34 = .ok (.iload_n 1, 1) := by decide +kernel
theorem dL_take_35 : decode cL_take 35 = .ok (.ldc 8, 2) := by decide +kernel
theorem dL_take_37 : decode cL_take 37 = .ok (.imul, 1) := by decide +kernel
theorem dL_take_38 : decode cL_take 38 = .ok (.ixor, 1) := by decide +kernel
theorem dL_take_39 : decode cL_take 39 = .ok (.ireturn, 1) := by decide +kernel
theorem dL_mixed_0 : decode cL_mixed 0 = .ok (.ldc2_w 9, 3) := by decide +kernel
theorem dL_mixed_3 : decode cL_mixed 3 = .ok (.lload_n 0, 1) := by decide +kernel
theorem dL_mixed_4 : decode cL_mixed 4 = .ok (.lmul, 1) := by decide +kernel
theorem dL_mixed_5 : decode cL_mixed 5 = .ok (.lload_n 2, 1) := by decide +kernel
theorem dL_mixed_6 : decode cL_mixed 6 = .ok (.ladd, 1) := by decide +kernel
theorem dL_mixed_7 : decode cL_mixed 7 = .ok (.lreturn, 1) := by decide +kernel
theorem dL_state_0 : decode cL_state 0 = .ok (.ldc2_w 11, 3) := by decide +kernel
theorem dL_state_3 : decode cL_state 3 = .ok (.lstore_n 1, 1) := by decide +kernel
theorem dL_state_4 : decode cL_state 4 = .ok (.iconst 0, 1) := by decide +kernel
theorem dL_state_5 : decode cL_state 5 = .ok (.istore_n 3, 1) := by decide +kernel
theorem dL_state_6 : decode cL_state 6 = .ok (.iload_n 3, 1) := by decide +kernel
theorem dL_state_7 : decode cL_state 7 = .ok (.bipush 27, 2) := by decide +kernel
theorem dL_state_9 : decode cL_state 9 = .ok (.if_icmp .ge 32, 3) := by decide +kernel
theorem dL_state_12 : decode cL_state 12 = .ok (.iload_n 3, 1) := by decide +kernel
theorem dL_state_13 : decode cL_state 13 = .ok (.bipush 8, 2) := by decide +kernel
theorem dL_state_15 : decode cL_state 15 = .ok (.if_icmp .eq 20, 3) := by decide +kernel
theorem dL_state_18 : decode cL_state 18 = .ok (.iload_n 3, 1) := by decide +kernel
theorem dL_state_19 : decode cL_state 19 = .ok (.bipush 9, 2) := by decide +kernel
theorem dL_state_21 : decode cL_state 21 = .ok (.if_icmp .eq 14, 3) := by decide +kernel
theorem dL_state_24 : decode cL_state 24 = .ok (.lload_n 1, 1) := by decide +kernel
theorem dL_state_25 : decode cL_state 25 = .ok (.aload_n 0, 1) := by decide +kernel
theorem dL_state_26 : decode cL_state 26 = .ok (.iload_n 3, 1) := by decide +kernel
theorem dL_state_27 : decode cL_state 27 = .ok (.invokevirtual 13, 3) := by decide +kernel
theorem dL_state_30 : decode cL_state 30 = .ok (.i2l, 1) := by decide +kernel
theorem dL_state_31 : decode cL_state 31 = .ok (.invokestatic 19, 3) := by decide +kernel
theorem dL_state_34 : decode cL_state 34 = .ok (.lstore_n 1, 1) := by decide +kernel
theorem dL_state_35 : decode cL_state 35 = .ok (.iinc 3 1, 3) := by decide +kernel
theorem dL_state_38 : decode cL_state 38 = .ok (.goto (-32), 3) := by decide +kernel
theorem dL_state_41 : decode cL_state 41 = .ok (.iconst 0, 1) := by decide +kernel
theorem dL_state_42 : decode cL_state 42 = .ok (.istore_n 3, 1) := by decide +kernel
theorem dL_state_43 : decode cL_state 43 = .ok (.iload_n 3, 1) := by decide +kernel
theorem dL_state_44 : decode cL_state 44 = .ok (.sipush 144, 3) := by decide +kernel
theorem dL_state_47 : decode cL_state 47 = .ok (.if_icmp .ge 25, 3) := by decide +kernel
theorem dL_state_50 : decode cL_state 50 = .ok (.lload_n 1, 1) := by decide +kernel
theorem dL_state_51 : decode cL_state 51 = .ok (.aload_n 0, 1) := by decide +kernel
theorem dL_state_52 : decode cL_state 52 = .ok (.iload_n 3, 1) := by decide +kernel
theorem dL_state_53 : decode cL_state 53 = .ok (.iconst 4, 1) := by decide +kernel
theorem dL_state_54 : decode cL_state 54 = .ok (.idiv, 1) := by decide +kernel
theorem dL_state_55 : decode cL_state 55 = .ok (.iload_n 3, 1) := by decide +kernel
theorem dL_state_56 : decode cL_state 56 = .ok (.iconst 4, 1) := by decide +kernel
theorem dL_state_57 : decode cL_state 57 = .ok (.irem, 1) := by decide +kernel
theorem dL_state_58 : decode cL_state 58 = .ok (.invokevirtual 25, 3) := by decide +kernel
theorem dL_state_61 : decode cL_state 61 = .ok (.i2l, 1) := by decide +kernel
theorem dL_state_62 : decode cL_state 62 = .ok (.invokestatic 19, 3) := by decide +kernel
theorem dL_state_65 : decode cL_state 65 = .ok (.lstore_n 1, 1) := by decide +kernel
theorem dL_state_66 : decode cL_state 66 = .ok (.iinc 3 1, 3) := by decide +kernel
theorem dL_state_69 : decode cL_state 69 = .ok (.goto (-26), 3) := by decide +kernel
theorem dL_state_72 : decode cL_state 72 = .ok (.lload_n 1, 1) := by decide +kernel
theorem dL_state_73 : decode cL_state 73 = .ok (.lreturn, 1) := by decide +kernel
theorem dL_refused_0 : decode cL_refused 0 = .ok (.aload_n 0, 1) := by decide +kernel
theorem dL_refused_1 : decode cL_refused 1 = .ok (.invokestatic 29, 3) := by decide +kernel
theorem dL_refused_4 : decode cL_refused 4 = .ok (.aload_n 0, 1) := by decide +kernel
theorem dL_refused_5 : decode cL_refused 5 = .ok (.bipush 8, 2) := by decide +kernel
theorem dL_refused_7 : decode cL_refused 7 = .ok (.invokevirtual 13, 3) := by decide +kernel
theorem dL_refused_10 : decode cL_refused 10 = .ok (.i2l, 1) := by decide +kernel
theorem dL_refused_11 : decode cL_refused 11 = .ok (.invokestatic 19, 3) := by decide +kernel
theorem dL_refused_14 : decode cL_refused 14 = .ok (.aload_n 0, 1) := by decide +kernel
theorem dL_refused_15 : decode cL_refused 15 = .ok (.bipush 9, 2) := by decide +kernel
theorem dL_refused_17 : decode cL_refused 17 = .ok (.invokevirtual 13, 3) := by decide +kernel
theorem dL_refused_20 : decode cL_refused 20 = .ok (.i2l, 1) := by decide +kernel
theorem dL_refused_21 : decode cL_refused 21 = .ok (.invokestatic 19, 3) := by decide +kernel
theorem dL_refused_24 : decode cL_refused 24 = .ok (.lstore_n 1, 1) := by decide +kernel
theorem dL_refused_25 : decode cL_refused 25 = .ok (.iconst 0, 1) := by decide +kernel
theorem dL_refused_26 : decode cL_refused 26 = .ok (.istore_n 3, 1) := by decide +kernel
theorem dL_refused_27 : decode cL_refused 27 = .ok (.iload_n 3, 1) := by decide +kernel
theorem dL_refused_28 : decode cL_refused 28 = .ok (.iconst 2, 1) := by decide +kernel
theorem dL_refused_29 : decode cL_refused 29 = .ok (.if_icmp .ge 200, 3) := by decide +kernel
theorem dL_refused_32 : decode cL_refused 32 = .ok (.iload_n 3, 1) := by decide +kernel
theorem dL_refused_33 : decode cL_refused 33 = .ok (.ifCond .ne 8, 3) := by decide +kernel
theorem dL_refused_36 : decode cL_refused 36 = .ok (.bipush 36, 2) := by decide +kernel
theorem dL_refused_38 : decode cL_refused 38 = .ok (.goto 4, 3) := by decide +kernel
theorem dL_refused_41 : decode cL_refused 41 = .ok (.iconst (-1), 1) := by decide +kernel
theorem dL_refused_42 : decode cL_refused 42 = .ok (.istore 4, 2) := by decide +kernel
theorem dL_refused_44 : decode cL_refused 44 = .ok (.aload_n 0, 1) := by decide +kernel
theorem dL_refused_45 : decode cL_refused 45 = .ok (.iload 4, 2) := by decide +kernel
theorem dL_refused_47 : decode cL_refused 47 = .ok (.iconst 0, 1) := by decide +kernel
theorem dL_refused_48 : decode cL_refused 48 = .ok (.iconst 0, 1) := by decide +kernel
theorem dL_refused_49 : decode cL_refused 49 = .ok (.iconst 0, 1) := by decide +kernel
theorem dL_refused_50 : decode cL_refused 50 = .ok (.invokevirtual 33, 3) := by decide +kernel
theorem dL_refused_53 : decode cL_refused 53 = .ok (.iconst (-1), 1) := by decide +kernel
theorem dL_refused_54 : decode cL_refused 54 = .ok (.if_icmp .ne 112, 3) := by decide +kernel
theorem dL_refused_57 : decode cL_refused 57 = .ok (.aload_n 0, 1) := by decide +kernel
theorem dL_refused_58 : decode cL_refused 58 = .ok (.iload 4, 2) := by decide +kernel
theorem dL_refused_60 : decode cL_refused 60 = .ok (.invokevirtual 37, 3) := by decide +kernel
theorem dL_refused_63 : decode cL_refused 63 = .ok (.iconst (-1), 1) := by decide +kernel
theorem dL_refused_64 : decode cL_refused 64 = .ok (.if_icmp .ne 102, 3) := by decide +kernel
theorem dL_refused_67 : decode cL_refused 67 = .ok (.aload_n 0, 1) := by decide +kernel
theorem dL_refused_68 : decode cL_refused 68 = .ok (.iload 4, 2) := by decide +kernel
theorem dL_refused_70 : decode cL_refused 70 = .ok (.iconst 0, 1) := by decide +kernel
theorem dL_refused_71 : decode cL_refused 71 = .ok (.invokevirtual 25, 3) := by decide +kernel
theorem dL_refused_74 : decode cL_refused 74 = .ok (.iconst (-1), 1) := by decide +kernel
theorem dL_refused_75 : decode cL_refused 75 = .ok (.if_icmp .ne 91, 3) := by decide +kernel
theorem dL_refused_78 : decode cL_refused 78 = .ok (.aload_n 0, 1) := by decide +kernel
theorem dL_refused_79 : decode cL_refused 79 = .ok (.iload 4, 2) := by decide +kernel
theorem dL_refused_81 : decode cL_refused 81 = .ok (.iconst 0, 1) := by decide +kernel
theorem dL_refused_82 : decode cL_refused 82 = .ok (.invokevirtual 40, 3) := by decide +kernel
theorem dL_refused_85 : decode cL_refused 85 = .ok (.iconst (-1), 1) := by decide +kernel
theorem dL_refused_86 : decode cL_refused 86 = .ok (.if_icmp .ne 80, 3) := by decide +kernel
theorem dL_refused_89 : decode cL_refused 89 = .ok (.aload_n 0, 1) := by decide +kernel
theorem dL_refused_90 : decode cL_refused 90 = .ok (.iconst 0, 1) := by decide +kernel
theorem dL_refused_91 : decode cL_refused 91 = .ok (.iload 4, 2) := by decide +kernel
theorem dL_refused_93 : decode cL_refused 93 = .ok (.invokevirtual 40, 3) := by decide +kernel
theorem dL_refused_96 : decode cL_refused 96 = .ok (.iconst (-1), 1) := by decide +kernel
theorem dL_refused_97 : decode cL_refused 97 = .ok (.if_icmp .ne 69, 3) := by decide +kernel
theorem dL_refused_100 : decode cL_refused 100 = .ok (.aload_n 0, 1) := by decide +kernel
theorem dL_refused_101 : decode cL_refused 101 = .ok (.iload 4, 2) := by decide +kernel
theorem dL_refused_103 : decode cL_refused 103 = .ok (.iconst 0, 1) := by decide +kernel
theorem dL_refused_104 : decode cL_refused 104 = .ok (.invokevirtual 43, 3) := by decide +kernel
theorem dL_refused_107 : decode cL_refused 107 = .ok (.iconst (-1), 1) := by decide +kernel
theorem dL_refused_108 : decode cL_refused 108 = .ok (.if_icmp .ne 58, 3) := by decide +kernel
theorem dL_refused_111 : decode cL_refused 111 = .ok (.aload_n 0, 1) := by decide +kernel
theorem dL_refused_112 : decode cL_refused 112 = .ok (.iconst 0, 1) := by decide +kernel
theorem dL_refused_113 : decode cL_refused 113 = .ok (.iload 4, 2) := by decide +kernel
theorem dL_refused_115 : decode cL_refused 115 = .ok (.invokevirtual 43, 3) := by decide +kernel
theorem dL_refused_118 : decode cL_refused 118 = .ok (.iconst (-1), 1) := by decide +kernel
theorem dL_refused_119 : decode cL_refused 119 = .ok (.if_icmp .ne 47, 3) := by decide +kernel
theorem dL_refused_122 : decode cL_refused 122 = .ok (.aload_n 0, 1) := by decide +kernel
theorem dL_refused_123 : decode cL_refused 123 = .ok (.iload 4, 2) := by decide +kernel
theorem dL_refused_125 : decode cL_refused 125 = .ok (.iconst 0, 1) := by decide +kernel
theorem dL_refused_126 : decode cL_refused 126 = .ok (.invokevirtual 46, 3) := by decide +kernel
theorem dL_refused_129 : decode cL_refused 129 = .ok (.iconst (-1), 1) := by decide +kernel
theorem dL_refused_130 : decode cL_refused 130 = .ok (.if_icmp .ne 36, 3) := by decide +kernel
theorem dL_refused_133 : decode cL_refused 133 = .ok (.aload_n 0, 1) := by decide +kernel
theorem dL_refused_134 : decode cL_refused 134 = .ok (.iconst 0, 1) := by decide +kernel
theorem dL_refused_135 : decode cL_refused 135 = .ok (.iload 4, 2) := by decide +kernel
theorem dL_refused_137 : decode cL_refused 137 = .ok (.invokevirtual 46, 3) := by decide +kernel
theorem dL_refused_140 : decode cL_refused 140 = .ok (.iconst (-1), 1) := by decide +kernel
theorem dL_refused_141 : decode cL_refused 141 = .ok (.if_icmp .ne 25, 3) := by decide +kernel
theorem dL_refused_144 : decode cL_refused 144 = .ok (.aload_n 0, 1) := by decide +kernel
theorem dL_refused_145 : decode cL_refused 145 = .ok (.iload 4, 2) := by decide +kernel
theorem dL_refused_147 : decode cL_refused 147 = .ok (.iconst 0, 1) := by decide +kernel
theorem dL_refused_148 : decode cL_refused 148 = .ok (.invokevirtual 49, 3) := by decide +kernel
theorem dL_refused_151 : decode cL_refused 151 = .ok (.iconst (-1), 1) := by decide +kernel
theorem dL_refused_152 : decode cL_refused 152 = .ok (.if_icmp .ne 14, 3) := by decide +kernel
theorem dL_refused_155 : decode cL_refused 155 = .ok (.aload_n 0, 1) := by decide +kernel
theorem dL_refused_156 : decode cL_refused 156 = .ok (.iload 4, 2) := by decide +kernel
theorem dL_refused_158 : decode cL_refused 158 = .ok (.iconst 0, 1) := by decide +kernel
theorem dL_refused_159 : decode cL_refused 159 = .ok (.invokevirtual 52, 3) := by decide +kernel
theorem dL_refused_162 : decode cL_refused 162 = .ok (.iconst (-1), 1) := by decide +kernel
theorem dL_refused_163 : decode cL_refused 163 = .ok (.if_icmp .eq 5, 3) := by decide +kernel
theorem dL_refused_166 : decode cL_refused 166 = .ok (.iconst 0, 1) := by decide +kernel
theorem dL_refused_167 : decode cL_refused 167 = .ok (.ireturn, 1) := by decide +kernel
theorem dL_refused_168 : decode cL_refused 168 = .ok (.iload_n 3, 1) := by decide +kernel
theorem dL_refused_169 : decode cL_refused 169 = .ok (.ifCond .ne 7, 3) := by decide +kernel
theorem dL_refused_172 : decode cL_refused 172 = .ok (.iconst 2, 1) := by decide +kernel
theorem dL_refused_173 : decode cL_refused 173 = .ok (.goto 4, 3) := by decide +kernel
theorem dL_refused_176 : decode cL_refused 176 = .ok (.iconst (-1), 1) := by decide +kernel
theorem dL_refused_177 : decode cL_refused 177 = .ok (.istore 5, 2) := by decide +kernel
theorem dL_refused_179 : decode cL_refused 179 = .ok (.aload_n 0, 1) := by decide +kernel
theorem dL_refused_180 : decode cL_refused 180 = .ok (.iload 5, 2) := by decide +kernel
theorem dL_refused_182 : decode cL_refused 182 = .ok (.invokevirtual 55, 3) := by decide +kernel
theorem dL_refused_185 : decode cL_refused 185 = .ok (.iconst (-1), 1) := by decide +kernel
theorem dL_refused_186 : decode cL_refused 186 = .ok (.if_icmp .ne 35, 3) := by decide +kernel
theorem dL_refused_189 : decode cL_refused 189 = .ok (.aload_n 0, 1) := by decide +kernel
theorem dL_refused_190 : decode cL_refused 190 = .ok (.iload 5, 2) := by decide +kernel
theorem dL_refused_192 : decode cL_refused 192 = .ok (.iconst 0, 1) := by decide +kernel
theorem dL_refused_193 : decode cL_refused 193 = .ok (.invokevirtual 58, 3) := by decide +kernel
theorem dL_refused_196 : decode cL_refused 196 = .ok (.iconst (-1), 1) := by decide +kernel
theorem dL_refused_197 : decode cL_refused 197 = .ok (.if_icmp .ne 24, 3) := by decide +kernel
theorem dL_refused_200 : decode cL_refused 200 = .ok (.aload_n 0, 1) := by decide +kernel
theorem dL_refused_201 : decode cL_refused 201 = .ok (.iconst 0, 1) := by decide +kernel
theorem dL_refused_202 : decode cL_refused 202 = .ok (.iload 5, 2) := by decide +kernel
theorem dL_refused_204 : decode cL_refused 204 = .ok (.invokevirtual 49, 3) := by decide +kernel
theorem dL_refused_207 : decode cL_refused 207 = .ok (.iconst (-1), 1) := by decide +kernel
theorem dL_refused_208 : decode cL_refused 208 = .ok (.if_icmp .ne 13, 3) := by decide +kernel
theorem dL_refused_211 : decode cL_refused 211 = .ok (.aload_n 0, 1) := by decide +kernel
theorem dL_refused_212 : decode cL_refused 212 = .ok (.iload 5, 2) := by decide +kernel
theorem dL_refused_214 : decode cL_refused 214 = .ok (.invokevirtual 61, 3) := by decide +kernel
theorem dL_refused_217 : decode cL_refused 217 = .ok (.iconst (-1), 1) := by decide +kernel
theorem dL_refused_218 : decode cL_refused 218 = .ok (.if_icmp .eq 5, 3) := by decide +kernel
theorem dL_refused_221 : decode cL_refused 221 = .ok (.iconst 0, 1) := by decide +kernel
theorem dL_refused_222 : decode cL_refused 222 = .ok (.ireturn, 1) := by decide +kernel
theorem dL_refused_223 : decode cL_refused 223 = .ok (.iinc 3 1, 3) := by decide +kernel
theorem dL_refused_226 : decode cL_refused 226 = .ok (.goto (-199), 3) := by decide +kernel
theorem dL_refused_229 : decode cL_refused 229 = .ok (.aload_n 0, 1) := by decide +kernel
theorem dL_refused_230 : decode cL_refused 230 = .ok (.iconst 0, 1) := by decide +kernel
theorem dL_refused_231 : decode cL_refused 231 = .ok (.iconst 2, 1) := by decide +kernel
theorem dL_refused_232 : decode cL_refused 232 = .ok (.iconst 0, 1) := by decide +kernel
theorem dL_refused_233 : decode cL_refused 233 = .ok (.iconst 0, 1) := by decide +kernel
theorem dL_refused_234 : decode cL_refused 234 = .ok (.invokevirtual 33, 3) := by decide +kernel
theorem dL_refused_237 : decode cL_refused 237 = .ok (.iconst (-1), 1) := by decide +kernel
theorem dL_refused_238 : decode cL_refused 238 = .ok (.if_icmp .ne 154, 3) := by decide +kernel
theorem dL_refused_241 : decode cL_refused 241 = .ok (.aload_n 0, 1) := by decide +kernel
theorem dL_refused_242 : decode cL_refused 242 = .ok (.iconst 0, 1) := by decide +kernel
theorem dL_refused_243 : decode cL_refused 243 = .ok (.bipush (-2), 2) := by decide +kernel
theorem dL_refused_245 : decode cL_refused 245 = .ok (.iconst 0, 1) := by decide +kernel
theorem dL_refused_246 : decode cL_refused 246 = .ok (.iconst 0, 1) := by decide +kernel
theorem dL_refused_247 : decode cL_refused 247 = .ok (.invokevirtual 33, 3) := by decide +kernel
theorem dL_refused_250 : decode cL_refused 250 = .ok (.iconst (-1), 1) := by decide +kernel
theorem dL_refused_251 : decode cL_refused 251 = .ok (.if_icmp .ne 141, 3) := by decide +kernel
theorem dL_refused_254 : decode cL_refused 254 = .ok (.aload_n 0, 1) := by decide +kernel
theorem dL_refused_255 : decode cL_refused 255 = .ok (.iconst 0, 1) := by decide +kernel
theorem dL_refused_256 : decode cL_refused 256 = .ok (.iconst 0, 1) := by decide +kernel
theorem dL_refused_257 : decode cL_refused 257 = .ok (.iconst 5, 1) := by decide +kernel
theorem dL_refused_258 : decode cL_refused 258 = .ok (.iconst 0, 1) := by decide +kernel
theorem dL_refused_259 : decode cL_refused 259 = .ok (.invokevirtual 33, 3) := by decide +kernel
theorem dL_refused_262 : decode cL_refused 262 = .ok (.iconst (-1), 1) := by decide +kernel
theorem dL_refused_263 : decode cL_refused 263 = .ok (.if_icmp .ne 129, 3) := by decide +kernel
theorem dL_refused_266 : decode cL_refused 266 = .ok (.aload_n 0, 1) := by decide +kernel
theorem dL_refused_267 : decode cL_refused 267 = .ok (.iconst 0, 1) := by decide +kernel
theorem dL_refused_268 : decode cL_refused 268 = .ok (.iconst (-1), 1) := by decide +kernel
theorem dL_refused_269 : decode cL_refused 269 = .ok (.iconst (-1), 1) := by decide +kernel
theorem dL_refused_270 : decode cL_refused 270 = .ok (.iconst 0, 1) := by decide +kernel
theorem dL_refused_271 : decode cL_refused 271 = .ok (.invokevirtual 33, 3) := by decide +kernel
theorem dL_refused_274 : decode cL_refused 274 = .ok (.iconst (-1), 1) := by decide +kernel
theorem dL_refused_275 : decode cL_refused 275 = .ok (.if_icmp .ne 117, 3) := by decide +kernel
theorem dL_refused_278 : decode cL_refused 278 = .ok (.aload_n 0, 1) := by decide +kernel
theorem dL_refused_279 : decode cL_refused 279 = .ok (.iconst 0, 1) := by decide +kernel
theorem dL_refused_280 : decode cL_refused 280 = .ok (.iconst 0, 1) := by decide +kernel
theorem dL_refused_281 : decode cL_refused 281 = .ok (.iconst 0, 1) := by decide +kernel
theorem dL_refused_282 : decode cL_refused 282 = .ok (.aload_n 0, 1) := by decide +kernel
theorem dL_refused_283 : decode cL_refused 283 = .ok (.bipush 10, 2) := by decide +kernel
theorem dL_refused_285 : decode cL_refused 285 = .ok (.invokevirtual 13, 3) := by decide +kernel
theorem dL_refused_288 : decode cL_refused 288 = .ok (.iconst 1, 1) := by decide +kernel
theorem dL_refused_289 : decode cL_refused 289 = .ok (.iadd, 1) := by decide +kernel
theorem dL_refused_290 : decode cL_refused 290 = .ok (.invokevirtual 33, 3) := by decide +kernel
theorem dL_refused_293 : decode cL_refused 293 = .ok (.iconst (-1), 1) := by decide +kernel
theorem dL_refused_294 : decode cL_refused 294 = .ok (.if_icmp .ne 98, 3) := by decide +kernel
theorem dL_refused_297 : decode cL_refused 297 = .ok (.aload_n 0, 1) := by decide +kernel
theorem dL_refused_298 : decode cL_refused 298 = .ok (.iconst 0, 1) := by decide +kernel
theorem dL_refused_299 : decode cL_refused 299 = .ok (.iconst (-1), 1) := by decide +kernel
theorem dL_refused_300 : decode cL_refused 300 = .ok (.iconst 0, 1) := by decide +kernel
theorem dL_refused_301 : decode cL_refused 301 = .ok (.iconst (-1), 1) := by decide +kernel
theorem dL_refused_302 : decode cL_refused 302 = .ok (.invokevirtual 33, 3) := by decide +kernel
theorem dL_refused_305 : decode cL_refused 305 = .ok (.iconst (-1), 1) := by decide +kernel
theorem dL_refused_306 : decode cL_refused 306 = .ok (.if_icmp .ne 86, 3) := by decide +kernel
theorem dL_refused_309 : decode cL_refused 309 = .ok (.aload_n 0, 1) := by decide +kernel
theorem dL_refused_310 : decode cL_refused 310 = .ok (.iconst (-1), 1) := by decide +kernel
theorem dL_refused_311 : decode cL_refused 311 = .ok (.iconst 1, 1) := by decide +kernel
theorem dL_refused_312 : decode cL_refused 312 = .ok (.invokevirtual 64, 3) := by decide +kernel
theorem dL_refused_315 : decode cL_refused 315 = .ok (.iconst (-1), 1) := by decide +kernel
theorem dL_refused_316 : decode cL_refused 316 = .ok (.if_icmp .ne 76, 3) := by decide +kernel
theorem dL_refused_319 : decode cL_refused 319 = .ok (.aload_n 0, 1) := by decide +kernel
theorem dL_refused_320 : decode cL_refused 320 = .ok (.iconst 3, 1) := by decide +kernel
theorem dL_refused_321 : decode cL_refused 321 = .ok (.iconst 1, 1) := by decide +kernel
theorem dL_refused_322 : decode cL_refused 322 = .ok (.invokevirtual 64, 3) := by decide +kernel
theorem dL_refused_325 : decode cL_refused 325 = .ok (.iconst (-1), 1) := by decide +kernel
theorem dL_refused_326 : decode cL_refused 326 = .ok (.if_icmp .ne 66, 3) := by decide +kernel
theorem dL_refused_329 : decode cL_refused 329 = .ok (.aload_n 0, 1) := by decide +kernel
theorem dL_refused_330 : decode cL_refused 330 = .ok (.iconst 0, 1) := by decide +kernel
theorem dL_refused_331 : decode cL_refused 331 = .ok (.iconst 0, 1) := by decide +kernel
theorem dL_refused_332 : decode cL_refused 332 = .ok (.invokevirtual 64, 3) := by decide +kernel
theorem dL_refused_335 : decode cL_refused 335 = .ok (.iconst (-1), 1) := by decide +kernel
theorem dL_refused_336 : decode cL_refused 336 = .ok (.if_icmp .ne 56, 3) := by decide +kernel
theorem dL_refused_339 : decode cL_refused 339 = .ok (.aload_n 0, 1) := by decide +kernel
theorem dL_refused_340 : decode cL_refused 340 = .ok (.iconst 0, 1) := by decide +kernel
theorem dL_refused_341 : decode cL_refused 341 = .ok (.bipush 13, 2) := by decide +kernel
theorem dL_refused_343 : decode cL_refused 343 = .ok (.invokevirtual 64, 3) := by decide +kernel
theorem dL_refused_346 : decode cL_refused 346 = .ok (.iconst (-1), 1) := by decide +kernel
theorem dL_refused_347 : decode cL_refused 347 = .ok (.if_icmp .ne 45, 3) := by decide +kernel
theorem dL_refused_350 : decode cL_refused 350 = .ok (.aload_n 0, 1) := by decide +kernel
theorem dL_refused_351 : decode cL_refused 351 = .ok (.iconst 1, 1) := by decide +kernel
theorem dL_refused_352 : decode cL_refused 352 = .ok (.bipush 6, 2) := by decide +kernel
theorem dL_refused_354 : decode cL_refused 354 = .ok (.invokevirtual 64, 3) := by decide +kernel
theorem dL_refused_357 : decode cL_refused 357 = .ok (.iconst (-1), 1) := by decide +kernel
theorem dL_refused_358 : decode cL_refused 358 = .ok (.if_icmp .ne 34, 3) := by decide +kernel
theorem dL_refused_361 : decode cL_refused 361 = .ok (.aload_n 0, 1) := by decide +kernel
theorem dL_refused_362 : decode cL_refused 362 = .ok (.iconst 1, 1) := by decide +kernel
theorem dL_refused_363 : decode cL_refused 363 = .ok (.iconst (-1), 1) := by decide +kernel
theorem dL_refused_364 : decode cL_refused 364 = .ok (.invokevirtual 64, 3) := by decide +kernel
theorem dL_refused_367 : decode cL_refused 367 = .ok (.iconst (-1), 1) := by decide +kernel
theorem dL_refused_368 : decode cL_refused 368 = .ok (.if_icmp .ne 24, 3) := by decide +kernel
theorem dL_refused_371 : decode cL_refused 371 = .ok (.aload_n 0, 1) := by decide +kernel
theorem dL_refused_372 : decode cL_refused 372 = .ok (.iconst 2, 1) := by decide +kernel
theorem dL_refused_373 : decode cL_refused 373 = .ok (.bipush 6, 2) := by decide +kernel
theorem dL_refused_375 : decode cL_refused 375 = .ok (.invokevirtual 64, 3) := by decide +kernel
theorem dL_refused_378 : decode cL_refused 378 = .ok (.iconst (-1), 1) := by decide +kernel
theorem dL_refused_379 : decode cL_refused 379 = .ok (.if_icmp .ne 13, 3) := by decide +kernel
theorem dL_refused_382 : decode cL_refused 382 = .ok (.aload_n 0, 1) := by decide +kernel
theorem dL_refused_383 : decode cL_refused 383 = .ok (.iconst 2, 1) := by decide +kernel
theorem dL_refused_384 : decode cL_refused 384 = .ok (.iconst (-1), 1) := by decide +kernel
theorem dL_refused_385 : decode cL_refused 385 = .ok (.invokevirtual 64, 3) := by decide +kernel
theorem dL_refused_388 : decode cL_refused 388 = .ok (.iconst (-1), 1) := by decide +kernel
theorem dL_refused_389 : decode cL_refused 389 = .ok (.if_icmp .eq 5, 3) := by decide +kernel
theorem dL_refused_392 : decode cL_refused 392 = .ok (.iconst 0, 1) := by decide +kernel
theorem dL_refused_393 : decode cL_refused 393 = .ok (.ireturn, 1) := by decide +kernel
theorem dL_refused_394 : decode cL_refused 394 = .ok (.aload_n 0, 1) := by decide +kernel
theorem dL_refused_395 : decode cL_refused 395 = .ok (.iconst 0, 1) := by decide +kernel
theorem dL_refused_396 : decode cL_refused 396 = .ok (.iconst 5, 1) := by decide +kernel
theorem dL_refused_397 : decode cL_refused 397 = .ok (.invokevirtual 25, 3) := by decide +kernel
theorem dL_refused_400 : decode cL_refused 400 = .ok (.iconst (-1), 1) := by decide +kernel
theorem dL_refused_401 : decode cL_refused 401 = .ok (.if_icmp .ne 116, 3) := by decide +kernel
theorem dL_refused_404 : decode cL_refused 404 = .ok (.aload_n 0, 1) := by decide +kernel
theorem dL_refused_405 : decode cL_refused 405 = .ok (.iconst 0, 1) := by decide +kernel
theorem dL_refused_406 : decode cL_refused 406 = .ok (.iconst (-1), 1) := by decide +kernel
theorem dL_refused_407 : decode cL_refused 407 = .ok (.invokevirtual 25, 3) := by decide +kernel
theorem dL_refused_410 : decode cL_refused 410 = .ok (.iconst (-1), 1) := by decide +kernel
theorem dL_refused_411 : decode cL_refused 411 = .ok (.if_icmp .ne 106, 3) := by decide +kernel
theorem dL_refused_414 : decode cL_refused 414 = .ok (.aload_n 0, 1) := by decide +kernel
theorem dL_refused_415 : decode cL_refused 415 = .ok (.iconst (-1), 1) := by decide +kernel
theorem dL_refused_416 : decode cL_refused 416 = .ok (.invokevirtual 13, 3) := by decide +kernel
theorem dL_refused_419 : decode cL_refused 419 = .ok (.iconst (-1), 1) := by decide +kernel
theorem dL_refused_420 : decode cL_refused 420 = .ok (.if_icmp .ne 97, 3) := by decide +kernel
theorem dL_refused_423 : decode cL_refused 423 = .ok (.aload_n 0, 1) := by decide +kernel
theorem dL_refused_424 : decode cL_refused 424 = .ok (.bipush 13, 2) := by decide +kernel
theorem dL_refused_426 : decode cL_refused 426 = .ok (.invokevirtual 13, 3) := by decide +kernel
theorem dL_refused_429 : decode cL_refused 429 = .ok (.iconst (-1), 1) := by decide +kernel
theorem dL_refused_430 : decode cL_refused 430 = .ok (.if_icmp .ne 87, 3) := by decide +kernel
theorem dL_refused_433 : decode cL_refused 433 = .ok (.aload_n 0, 1) := by decide +kernel
theorem dL_refused_434 : decode cL_refused 434 = .ok (.bipush 19, 2) := by decide +kernel
theorem dL_refused_436 : decode cL_refused 436 = .ok (.invokevirtual 13, 3) := by decide +kernel
theorem dL_refused_439 : decode cL_refused 439 = .ok (.iconst (-1), 1) := by decide +kernel
theorem dL_refused_440 : decode cL_refused 440 = .ok (.if_icmp .ne 77, 3) := by decide +kernel
theorem dL_refused_443 : decode cL_refused 443 = .ok (.aload_n 0, 1) := by decide +kernel
theorem dL_refused_444 : decode cL_refused 444 = .ok (.bipush 27, 2) := by decide +kernel
theorem dL_refused_446 : decode cL_refused 446 = .ok (.invokevirtual 13, 3) := by decide +kernel
theorem dL_refused_449 : decode cL_refused 449 = .ok (.iconst (-1), 1) := by decide +kernel
theorem dL_refused_450 : decode cL_refused 450 = .ok (.if_icmp .ne 67, 3) := by decide +kernel
theorem dL_refused_453 : decode cL_refused 453 = .ok (.aload_n 0, 1) := by decide +kernel
theorem dL_refused_454 : decode cL_refused 454 = .ok (.iconst 0, 1) := by decide +kernel
theorem dL_refused_455 : decode cL_refused 455 = .ok (.iconst (-1), 1) := by decide +kernel
theorem dL_refused_456 : decode cL_refused 456 = .ok (.invokevirtual 58, 3) := by decide +kernel
theorem dL_refused_459 : decode cL_refused 459 = .ok (.iconst (-1), 1) := by decide +kernel
theorem dL_refused_460 : decode cL_refused 460 = .ok (.if_icmp .ne 57, 3) := by decide +kernel
theorem dL_refused_463 : decode cL_refused 463 = .ok (.aload_n 0, 1) := by decide +kernel
theorem dL_refused_464 : decode cL_refused 464 = .ok (.iconst 0, 1) := by decide +kernel
theorem dL_refused_465 : decode cL_refused 465 = .ok (.sipush 500, 3) := by decide +kernel
theorem dL_refused_468 : decode cL_refused 468 = .ok (.invokevirtual 58, 3) := by decide +kernel
theorem dL_refused_471 : decode cL_refused 471 = .ok (.bipush (-4), 2) := by decide +kernel
theorem dL_refused_473 : decode cL_refused 473 = .ok (.if_icmp .ne 44, 3) := by decide +kernel
theorem dL_refused_476 : decode cL_refused 476 = .ok (.aload_n 0, 1) := by decide +kernel
theorem dL_refused_477 : decode cL_refused 477 = .ok (.iconst 0, 1) := by decide +kernel
theorem dL_refused_478 : decode cL_refused 478 = .ok (.iconst (-1), 1) := by decide +kernel
theorem dL_refused_479 : decode cL_refused 479 = .ok (.invokevirtual 52, 3) := by decide +kernel
theorem dL_refused_482 : decode cL_refused 482 = .ok (.iconst (-1), 1) := by decide +kernel
theorem dL_refused_483 : decode cL_refused 483 = .ok (.if_icmp .ne 34, 3) := by decide +kernel
theorem dL_refused_486 : decode cL_refused 486 = .ok (.aload_n 0, 1) := by decide +kernel
theorem dL_refused_487 : decode cL_refused 487 = .ok (.iconst 0, 1) := by decide +kernel
theorem dL_refused_488 : decode cL_refused 488 = .ok (.bipush 13, 2) := by decide +kernel
theorem dL_refused_490 : decode cL_refused 490 = .ok (.invokevirtual 52, 3) := by decide +kernel
theorem dL_refused_493 : decode cL_refused 493 = .ok (.iconst (-1), 1) := by decide +kernel
theorem dL_refused_494 : decode cL_refused 494 = .ok (.if_icmp .ne 23, 3) := by decide +kernel
theorem dL_refused_497 : decode cL_refused 497 = .ok (.aload_n 0, 1) := by decide +kernel
theorem dL_refused_498 : decode cL_refused 498 = .ok (.bipush 31, 2) := by decide +kernel
theorem dL_refused_500 : decode cL_refused 500 = .ok (.invokevirtual 67, 3) := by decide +kernel
theorem dL_refused_503 : decode cL_refused 503 = .ok (.iconst (-1), 1) := by decide +kernel
theorem dL_refused_504 : decode cL_refused 504 = .ok (.if_icmp .ne 13, 3) := by decide +kernel
theorem dL_refused_507 : decode cL_refused 507 = .ok (.aload_n 0, 1) := by decide +kernel
theorem dL_refused_508 : decode cL_refused 508 = .ok (.bipush 127, 2) := by decide +kernel
theorem dL_refused_510 : decode cL_refused 510 = .ok (.invokevirtual 67, 3) := by decide +kernel
theorem dL_refused_513 : decode cL_refused 513 = .ok (.iconst (-1), 1) := by decide +kernel
theorem dL_refused_514 : decode cL_refused 514 = .ok (.if_icmp .eq 5, 3) := by decide +kernel
theorem dL_refused_517 : decode cL_refused 517 = .ok (.iconst 0, 1) := by decide +kernel
theorem dL_refused_518 : decode cL_refused 518 = .ok (.ireturn, 1) := by decide +kernel
theorem dL_refused_519 : decode cL_refused 519 = .ok (.aload_n 0, 1) := by decide +kernel
theorem dL_refused_520 : decode cL_refused 520 = .ok (.invokestatic 29, 3) := by decide +kernel
theorem dL_refused_523 : decode cL_refused 523 = .ok (.aload_n 0, 1) := by decide +kernel
theorem dL_refused_524 : decode cL_refused 524 = .ok (.bipush 8, 2) := by decide +kernel
theorem dL_refused_526 : decode cL_refused 526 = .ok (.invokevirtual 13, 3) := by decide +kernel
theorem dL_refused_529 : decode cL_refused 529 = .ok (.i2l, 1) := by decide +kernel
theorem dL_refused_530 : decode cL_refused 530 = .ok (.invokestatic 19, 3) := by decide +kernel
theorem dL_refused_533 : decode cL_refused 533 = .ok (.aload_n 0, 1) := by decide +kernel
theorem dL_refused_534 : decode cL_refused 534 = .ok (.bipush 9, 2) := by decide +kernel
theorem dL_refused_536 : decode cL_refused 536 = .ok (.invokevirtual 13, 3) := by decide +kernel
theorem dL_refused_539 : decode cL_refused 539 = .ok (.i2l, 1) := by decide +kernel
theorem dL_refused_540 : decode cL_refused 540 = .ok (.invokestatic 19, 3) := by decide +kernel
theorem dL_refused_543 : decode cL_refused 543 = .ok (.lload_n 1, 1) := by decide +kernel
theorem dL_refused_544 : decode cL_refused 544 = .ok (.lcmp, 1) := by decide +kernel
theorem dL_refused_545 : decode cL_refused 545 = .ok (.ifCond .ne 7, 3) := by decide +kernel
theorem dL_refused_548 : decode cL_refused 548 = .ok (.iconst 1, 1) := by decide +kernel
theorem dL_refused_549 : decode cL_refused 549 = .ok (.goto 4, 3) := by decide +kernel
theorem dL_refused_552 : decode cL_refused 552 = .ok (.iconst 0, 1) := by decide +kernel
theorem dL_refused_553 : decode cL_refused 553 = .ok (.ireturn, 1) := by decide +kernel
theorem dL_types_0 : decode cL_types 0 = .ok (.bipush 7, 2) := by decide +kernel
theorem dL_types_2 : decode cL_types 2 = .ok (.istore_n 3, 1) := by decide +kernel
theorem dL_types_3 : decode cL_types 3 = .ok (.iload_n 3, 1) := by decide +kernel
theorem dL_types_4 : decode cL_types 4 = .ok (.ifCond .lt 34, 3) := by decide +kernel
theorem dL_types_7 : decode cL_types 7 = .ok (.lload_n 1, 1) := by decide +kernel
theorem dL_types_8 : decode cL_types 8 = .ok (.bipush 8, 2) := by decide +kernel
theorem dL_types_10 : decode cL_types 10 = .ok (.iload_n 3, 1) := by decide +kernel
theorem dL_types_11 : decode cL_types 11 = .ok (.imul, 1) := by decide +kernel
theorem dL_types_12 : decode cL_types 12 = .ok (.lshr, 1) := by decide +kernel
theorem dL_types_13 : decode cL_types 13 = .ok (.ldc2_w 70, 3) := by decide +kernel
theorem dL_types_16 : decode cL_types 16 = .ok (.land, 1) := by decide +kernel
theorem dL_types_17 : decode cL_types 17 = .ok (.l2i, 1) := by decide +kernel
theorem dL_types_18 : decode cL_types 18 = .ok (.istore 4, 2) := by decide +kernel
theorem dL_types_20 : decode cL_types 20 = .ok (.iload 4, 2) := by decide +kernel
theorem dL_types_22 : decode cL_types 22 = .ok (.ifCond .eq 10, 3) := by decide +kernel
theorem dL_types_25 : decode cL_types 25 = .ok (.aload_n 0, 1) := by decide +kernel
theorem dL_types_26 : decode cL_types 26 = .ok (.iload 4, 2) := by decide +kernel
theorem dL_types_28 : decode cL_types 28 = .ok (.invokevirtual 67, 3) := by decide +kernel
theorem dL_types_31 : decode cL_types 31 = .ok (.pop, 1) := by decide +kernel
theorem dL_types_32 : decode cL_types 32 = .ok (.iinc 3 (-1), 3) := by decide +kernel
theorem dL_types_35 : decode cL_types 35 = .ok (.goto (-32), 3) := by decide +kernel
theorem dL_types_38 : decode cL_types 38 = .ok (.return_, 1) := by decide +kernel
theorem dL_isFault_0 : decode cL_isFault 0 = .ok (.aload_n 0, 1) := by decide +kernel
theorem dL_isFault_1 : decode cL_isFault 1 = .ok (.invokevirtual 72, 3) := by decide +kernel
theorem dL_isFault_4 : decode cL_isFault 4 = .ok (.pop, 1) := by decide +kernel
theorem dL_isFault_5 : decode cL_isFault 5 = .ok (.aload_n 0, 1) := by decide +kernel
theorem dL_isFault_6 : decode cL_isFault 6 = .ok (.lload_n 1, 1) := by decide +kernel
theorem dL_isFault_7 : decode cL_isFault 7 = .ok (.invokestatic 76, 3) := by decide +kernel
theorem dL_isFault_10 : decode cL_isFault 10 = .ok (.aload_n 0, 1) := by decide +kernel
theorem dL_isFault_11 : decode cL_isFault 11 = .ok (.lload_n 3, 1) := by decide +kernel
theorem dL_isFault_12 : decode cL_isFault 12 = .ok (.invokestatic 76, 3) := by decide +kernel
theorem dL_isFault_15 : decode cL_isFault 15 = .ok (.aload_n 0, 1) := by decide +kernel
theorem dL_isFault_16 : decode cL_isFault 16 = .ok (.iconst 0, 1) := by decide +kernel
theorem dL_isFault_17 : decode cL_isFault 17 = .ok (.invokevirtual 61, 3) := by decide +kernel
theorem dL_isFault_20 : decode cL_isFault 20 = .ok (.iload 5, 2) := by decide +kernel
theorem dL_isFault_22 : decode cL_isFault 22 = .ok (.if_icmp .ne 17, 3) := by decide +kernel
theorem dL_isFault_25 : decode cL_isFault 25 = .ok (.aload_n 0, 1) := by decide +kernel
theorem dL_isFault_26 : decode cL_isFault 26 = .ok (.iconst 1, 1) := by decide +kernel
theorem dL_isFault_27 : decode cL_isFault 27 = .ok (.invokevirtual 61, 3) := by decide +kernel
theorem dL_isFault_30 : decode cL_isFault 30 = .ok (.iload 6, 2) := by decide +kernel
theorem dL_isFault_32 : decode cL_isFault 32 = .ok (.if_icmp .ne 7, 3) := by decide +kernel
theorem dL_isFault_35 : decode cL_isFault 35 = .ok (.iconst 1, 1) := by decide +kernel
theorem dL_isFault_36 : decode cL_isFault 36 = .ok (.goto 4, 3) := by decide +kernel
theorem dL_isFault_39 : decode cL_isFault 39 = .ok (.iconst 0, 1) := by decide +kernel
theorem dL_isFault_40 : decode cL_isFault 40 = .ok (.ireturn, 1) := by decide +kernel
theorem dL_texts_0 : decode cL_texts 0 = .ok (.new 14, 3) := by decide +kernel
theorem dL_texts_3 : decode cL_texts 3 = .ok (.dup, 1) := by decide +kernel
theorem dL_texts_4 : decode cL_texts 4 = .ok (.invokespecial 80, 3) := by decide +kernel
theorem dL_texts_7 : decode cL_texts 7 = .ok (.astore_n 0, 1) := by decide +kernel
theorem dL_texts_8 : decode cL_texts 8 = .ok (.aload_n 0, 1) := by decide +kernel
theorem dL_texts_9 : decode cL_texts 9 = .ok (.invokevirtual 81, 3) := by decide +kernel
theorem dL_texts_12 : decode cL_texts 12 = .ok (.ifCond .ne 13, 3) := by decide +kernel
theorem dL_texts_15 : decode cL_texts 15 = .ok (.aload_n 0, 1) := by decide +kernel
theorem dL_texts_16 : decode cL_texts 16 = .ok (.bipush 8, 2) := by decide +kernel
theorem dL_texts_18 : decode cL_texts 18 = .ok (.invokevirtual 13, 3) := by decide +kernel
theorem dL_texts_21 : decode cL_texts 21 = .ok (.iconst 1, 1) := by decide +kernel
theorem dL_texts_22 : decode cL_texts 22 = .ok (.if_icmp .eq 5, 3) := by decide +kernel
theorem dL_texts_25 : decode cL_texts 25 = .ok (.iconst 0, 1) := by decide +kernel
theorem dL_texts_26 : decode cL_texts 26 = .ok (.ireturn, 1) := by decide +kernel
theorem dL_texts_27 : decode cL_texts 27 = .ok (.aload_n 0, 1) := by decide +kernel
theorem dL_texts_28 : decode cL_texts 28 = .ok (.invokestatic 29, 3) := by decide +kernel
theorem dL_texts_31 : decode cL_texts 31 = .ok (.lstore_n 1, 1) := by decide +kernel
theorem dL_texts_32 : decode cL_texts 32 = .ok (.aload_n 0, 1) := by decide +kernel
theorem dL_texts_33 : decode cL_texts 33 = .ok (.ldc2_w 84, 3) := by decide +kernel
theorem dL_texts_36 : decode cL_texts 36 = .ok (.lconst 0, 1) := by decide +kernel
theorem dL_texts_37 : decode cL_texts 37 = .ok (.bipush (-4), 2) := by decide +kernel
theorem dL_texts_39 : decode cL_texts 39 = .ok (.bipush (-4), 2) := by decide +kernel
theorem dL_texts_41 : decode cL_texts 41 = .ok (.invokestatic 86, 3) := by decide +kernel
theorem dL_texts_44 : decode cL_texts 44 = .ok (.ifCond .eq 42, 3) := by decide +kernel
theorem dL_texts_47 : decode cL_texts 47 = .ok (.aload_n 0, 1) := by decide +kernel
theorem dL_texts_48 : decode cL_texts 48 = .ok (.lconst 0, 1) := by decide +kernel
theorem dL_texts_49 : decode cL_texts 49 = .ok (.lconst 0, 1) := by decide +kernel
theorem dL_texts_50 : decode cL_texts 50 = .ok (.bipush (-4), 2) := by decide +kernel
theorem dL_texts_52 : decode cL_texts 52 = .ok (.bipush (-4), 2) := by decide +kernel
theorem dL_texts_54 : decode cL_texts 54 = .ok (.invokestatic 86, 3) := by decide +kernel
theorem dL_texts_57 : decode cL_texts 57 = .ok (.ifCond .eq 29, 3) := by decide +kernel
theorem dL_texts_60 : decode cL_texts 60 = .ok (.aload_n 0, 1) := by decide +kernel
theorem dL_texts_61 : decode cL_texts 61 = .ok (.ldc2_w 90, 3) := by decide +kernel
theorem dL_texts_64 : decode cL_texts 64 = .ok (.lconst 0, 1) := by decide +kernel
theorem dL_texts_65 : decode cL_texts 65 = .ok (.iconst 0, 1) := by decide +kernel
theorem dL_texts_66 : decode cL_texts 66 = .ok (.iconst 1, 1) := by decide +kernel
theorem dL_texts_67 : decode cL_texts 67 = .ok (.invokestatic 86, 3) := by decide +kernel
theorem dL_texts_70 : decode cL_texts 70 = .ok (.ifCond .eq 16, 3) := by decide +kernel
theorem dL_texts_73 : decode cL_texts 73 = .ok (.aload_n 0, 1) := by decide +kernel
theorem dL_texts_74 : decode cL_texts 74 = .ok (.ldc2_w 92, 3) := by decide +kernel
theorem dL_texts_77 : decode cL_texts 77 = .ok (.lconst 0, 1) := by decide +kernel
theorem dL_texts_78 : decode cL_texts 78 = .ok (.iconst 0, 1) := by decide +kernel
theorem dL_texts_79 : decode cL_texts 79 = .ok (.iconst 1, 1) := by decide +kernel
theorem dL_texts_80 : decode cL_texts 80 = .ok (.invokestatic 86, 3) := by decide +kernel
theorem dL_texts_83 : decode cL_texts 83 = .ok (.ifCond .ne 5, 3) := by decide +kernel
theorem dL_texts_86 : decode cL_texts 86 = .ok (.iconst 0, 1) := by decide +kernel
theorem dL_texts_87 : decode cL_texts 87 = .ok (.ireturn, 1) := by decide +kernel
theorem dL_texts_88 : decode cL_texts 88 = .ok (.aload_n 0, 1) := by decide +kernel
theorem dL_texts_89 : decode cL_texts 89 = .ok (.ldc2_w 94, 3) := by decide +kernel
theorem dL_texts_92 : decode cL_texts 92 = .ok (.lconst 0, 1) := by decide +kernel
theorem dL_texts_93 : decode cL_texts 93 = .ok (.iconst 0, 1) := by decide +kernel
theorem dL_texts_94 : decode cL_texts 94 = .ok (.iconst 1, 1) := by decide +kernel
theorem dL_texts_95 : decode cL_texts 95 = .ok (.invokestatic 86, 3) := by decide +kernel
theorem dL_texts_98 : decode cL_texts 98 = .ok (.ifCond .eq 42, 3) := by decide +kernel
theorem dL_texts_101 : decode cL_texts 101 = .ok (.aload_n 0, 1) := by decide +kernel
theorem dL_texts_102 : decode cL_texts 102 = .ok (.ldc2_w 96, 3) := by decide +kernel
theorem dL_texts_105 : decode cL_texts 105 = .ok (.lconst 0, 1) := by decide +kernel
theorem dL_texts_106 : decode cL_texts 106 = .ok (.iconst 0, 1) := by decide +kernel
theorem dL_texts_107 : decode cL_texts 107 = .ok (.iconst 3, 1) := by decide +kernel
theorem dL_texts_108 : decode cL_texts 108 = .ok (.invokestatic 86, 3) := by decide +kernel
theorem dL_texts_111 : decode cL_texts 111 = .ok (.ifCond .eq 29, 3) := by decide +kernel
theorem dL_texts_114 : decode cL_texts 114 = .ok (.aload_n 0, 1) := by decide +kernel
theorem dL_texts_115 : decode cL_texts 115 = .ok (.ldc2_w 98, 3) := by decide +kernel
theorem dL_texts_118 : decode cL_texts 118 = .ok (.lconst 0, 1) := by decide +kernel
theorem dL_texts_119 : decode cL_texts 119 = .ok (.iconst 0, 1) := by decide +kernel
theorem dL_texts_120 : decode cL_texts 120 = .ok (.iconst 4, 1) := by decide +kernel
theorem dL_texts_121 : decode cL_texts 121 = .ok (.invokestatic 86, 3) := by decide +kernel
theorem dL_texts_124 : decode cL_texts 124 = .ok (.ifCond .eq 16, 3) := by decide +kernel
theorem dL_texts_127 : decode cL_texts 127 = .ok (.aload_n 0, 1) := by decide +kernel
theorem dL_texts_128 : decode cL_texts 128 = .ok (.ldc2_w 100, 3) := by decide +kernel
theorem dL_texts_131 : decode cL_texts 131 = .ok (.lconst 0, 1) := by decide +kernel
theorem dL_texts_132 : decode cL_texts 132 = .ok (.iconst 0, 1) := by decide +kernel
theorem dL_texts_133 : decode cL_texts 133 = .ok (.iconst 5, 1) := by decide +kernel
theorem dL_texts_134 : decode cL_texts 134 = .ok (.invokestatic 86, 3) := by decide +kernel
theorem dL_texts_137 : decode cL_texts 137 = .ok (.ifCond .ne 5, 3) := by decide +kernel
theorem dL_texts_140 : decode cL_texts 140 = .ok (.iconst 0, 1) := by decide +kernel
theorem dL_texts_141 : decode cL_texts 141 = .ok (.ireturn, 1) := by decide +kernel
theorem dL_texts_142 : decode cL_texts 142 = .ok (.aload_n 0, 1) := by decide +kernel
theorem dL_texts_143 : decode cL_texts 143 = .ok (.ldc2_w 102, 3) := by decide +kernel
theorem dL_texts_146 : decode cL_texts 146 = .ok (.lconst 0, 1) := by decide +kernel
theorem dL_texts_147 : decode cL_texts 147 = .ok (.iconst 0, 1) := by decide +kernel
theorem dL_texts_148 : decode cL_texts 148 = .ok (.iconst 5, 1) := by decide +kernel
theorem dL_texts_149 : decode cL_texts 149 = .ok (.invokestatic 86, 3) := by decide +kernel
theorem dL_texts_152 : decode cL_texts 152 = .ok (.ifCond .eq 45, 3) := by decide +kernel
theorem dL_texts_155 : decode cL_texts 155 = .ok (.aload_n 0, 1) := by decide +kernel
theorem dL_texts_156 : decode cL_texts 156 = .ok (.ldc2_w 104, 3) := by decide +kernel
theorem dL_texts_159 : decode cL_texts 159 = .ok (.lconst 0, 1) := by decide +kernel
theorem dL_texts_160 : decode cL_texts 160 = .ok (.iconst 0, 1) := by decide +kernel
theorem dL_texts_161 : decode cL_texts 161 = .ok (.bipush 6, 2) := by decide +kernel
theorem dL_texts_163 : decode cL_texts 163 = .ok (.invokestatic 86, 3) := by decide +kernel
theorem dL_texts_166 : decode cL_texts 166 = .ok (.ifCond .eq 31, 3) := by decide +kernel
theorem dL_texts_169 : decode cL_texts 169 = .ok (.aload_n 0, 1) := by decide +kernel
theorem dL_texts_170 : decode cL_texts 170 = .ok (.ldc2_w 106, 3) := by decide +kernel
theorem dL_texts_173 : decode cL_texts 173 = .ok (.lconst 0, 1) := by decide +kernel
theorem dL_texts_174 : decode cL_texts 174 = .ok (.iconst 0, 1) := by decide +kernel
theorem dL_texts_175 : decode cL_texts 175 = .ok (.bipush 6, 2) := by decide +kernel
theorem dL_texts_177 : decode cL_texts 177 = .ok (.invokestatic 86, 3) := by decide +kernel
theorem dL_texts_180 : decode cL_texts 180 = .ok (.ifCond .eq 17, 3) := by decide +kernel
theorem dL_texts_183 : decode cL_texts 183 = .ok (.aload_n 0, 1) := by decide +kernel
theorem dL_texts_184 : decode cL_texts 184 = .ok (.ldc2_w 108, 3) := by decide +kernel
theorem dL_texts_187 : decode cL_texts 187 = .ok (.lconst 0, 1) := by decide +kernel
theorem dL_texts_188 : decode cL_texts 188 = .ok (.iconst 0, 1) := by decide +kernel
theorem dL_texts_189 : decode cL_texts 189 = .ok (.bipush 8, 2) := by decide +kernel
theorem dL_texts_191 : decode cL_texts 191 = .ok (.invokestatic 86, 3) := by decide +kernel
theorem dL_texts_194 : decode cL_texts 194 = .ok (.ifCond .ne 5, 3) := by decide +kernel
theorem dL_texts_197 : decode cL_texts 197 = .ok (.iconst 0, 1) := by decide +kernel
theorem dL_texts_198 : decode cL_texts 198 = .ok (.ireturn, 1) := by decide +kernel
theorem dL_texts_199 : decode cL_texts 199 = .ok (.aload_n 0, 1) := by decide +kernel
theorem dL_texts_200 : decode cL_texts 200 = .ok (.ldc2_w 110, 3) := by decide +kernel
theorem dL_texts_203 : decode cL_texts 203 = .ok (.lconst 0, 1) := by decide +kernel
theorem dL_texts_204 : decode cL_texts 204 = .ok (.iconst 0, 1) := by decide +kernel
theorem dL_texts_205 : decode cL_texts 205 = .ok (.iconst 1, 1) := by decide +kernel
theorem dL_texts_206 : decode cL_texts 206 = .ok (.invokestatic 86, 3) := by decide +kernel
theorem dL_texts_209 : decode cL_texts 209 = .ok (.ifCond .eq 52, 3) := by decide +kernel
theorem dL_texts_212 : decode cL_texts 212 = .ok (.aload_n 0, 1) := by decide +kernel
theorem dL_texts_213 : decode cL_texts 213 = .ok (.ldc2_w 112, 3) := by decide +kernel
theorem dL_texts_216 : decode cL_texts 216 = .ok (.ldc2_w 114, 3) := by decide +kernel
theorem dL_texts_219 : decode cL_texts 219 = .ok (.bipush (-4), 2) := by decide +kernel
theorem dL_texts_221 : decode cL_texts 221 = .ok (.bipush (-4), 2) := by decide +kernel
theorem dL_texts_223 : decode cL_texts 223 = .ok (.invokestatic 86, 3) := by decide +kernel
theorem dL_texts_226 : decode cL_texts 226 = .ok (.ifCond .eq 35, 3) := by decide +kernel
theorem dL_texts_229 : decode cL_texts 229 = .ok (.aload_n 0, 1) := by decide +kernel
theorem dL_texts_230 : decode cL_texts 230 = .ok (.ldc2_w 116, 3) := by decide +kernel
theorem dL_texts_233 : decode cL_texts 233 = .ok (.ldc2_w 114, 3) := by decide +kernel
theorem dL_texts_236 : decode cL_texts 236 = .ok (.iconst 5, 1) := by decide +kernel
theorem dL_texts_237 : decode cL_texts 237 = .ok (.iconst 4, 1) := by decide +kernel
theorem dL_texts_238 : decode cL_texts 238 = .ok (.invokestatic 86, 3) := by decide +kernel
theorem dL_texts_241 : decode cL_texts 241 = .ok (.ifCond .eq 20, 3) := by decide +kernel
theorem dL_texts_244 : decode cL_texts 244 = .ok (.aload_n 0, 1) := by decide +kernel
theorem dL_texts_245 : decode cL_texts 245 = .ok (.ldc2_w 118, 3) := by decide +kernel
theorem dL_texts_248 : decode cL_texts 248 = .ok (.ldc2_w 114, 3) := by decide +kernel
theorem dL_texts_251 : decode cL_texts 251 = .ok (.bipush (-4), 2) := by decide +kernel
theorem dL_texts_253 : decode cL_texts 253 = .ok (.bipush (-4), 2) := by decide +kernel
theorem dL_texts_255 : decode cL_texts 255 = .ok (.invokestatic 86, 3) := by decide +kernel
theorem dL_texts_258 : decode cL_texts 258 = .ok (.ifCond .ne 5, 3) := by decide +kernel
theorem dL_texts_261 : decode cL_texts 261 = .ok (.iconst 0, 1) := by decide +kernel
theorem dL_texts_262 : decode cL_texts 262 = .ok (.ireturn, 1) := by decide +kernel
theorem dL_texts_263 : decode cL_texts 263 = .ok (.aload_n 0, 1) := by decide +kernel
theorem dL_texts_264 : decode cL_texts 264 = .ok (.ldc2_w 120, 3) := by decide +kernel
theorem dL_texts_267 : decode cL_texts 267 = .ok (.lconst 0, 1) := by decide +kernel
theorem dL_texts_268 : decode cL_texts 268 = .ok (.iconst 5, 1) := by decide +kernel
theorem dL_texts_269 : decode cL_texts 269 = .ok (.iconst 1, 1) := by decide +kernel
theorem dL_texts_270 : decode cL_texts 270 = .ok (.invokestatic 86, 3) := by decide +kernel
theorem dL_texts_273 : decode cL_texts 273 = .ok (.ifCond .eq 43, 3) := by decide +kernel
theorem dL_texts_276 : decode cL_texts 276 = .ok (.aload_n 0, 1) := by decide +kernel
theorem dL_texts_277 : decode cL_texts 277 = .ok (.ldc2_w 122, 3) := by decide +kernel
theorem dL_texts_280 : decode cL_texts 280 = .ok (.lconst 0, 1) := by decide +kernel
theorem dL_texts_281 : decode cL_texts 281 = .ok (.iconst 5, 1) := by decide +kernel
theorem dL_texts_282 : decode cL_texts 282 = .ok (.bipush 8, 2) := by decide +kernel
theorem dL_texts_284 : decode cL_texts 284 = .ok (.invokestatic 86, 3) := by decide +kernel
theorem dL_texts_287 : decode cL_texts 287 = .ok (.ifCond .eq 29, 3) := by decide +kernel
theorem dL_texts_290 : decode cL_texts 290 = .ok (.aload_n 0, 1) := by decide +kernel
theorem dL_texts_291 : decode cL_texts 291 = .ok (.ldc2_w 124, 3) := by decide +kernel
theorem dL_texts_294 : decode cL_texts 294 = .ok (.lconst 0, 1) := by decide +kernel
theorem dL_texts_295 : decode cL_texts 295 = .ok (.iconst 0, 1) := by decide +kernel
theorem dL_texts_296 : decode cL_texts 296 = .ok (.iconst 1, 1) := by decide +kernel
theorem dL_texts_297 : decode cL_texts 297 = .ok (.invokestatic 86, 3) := by decide +kernel
theorem dL_texts_300 : decode cL_texts 300 = .ok (.ifCond .eq 16, 3) := by decide +kernel
theorem dL_texts_303 : decode cL_texts 303 = .ok (.aload_n 0, 1) := by decide +kernel
theorem dL_texts_304 : decode cL_texts 304 = .ok (.ldc2_w 126, 3) := by decide +kernel
theorem dL_texts_307 : decode cL_texts 307 = .ok (.lconst 0, 1) := by decide +kernel
theorem dL_texts_308 : decode cL_texts 308 = .ok (.iconst 5, 1) := by decide +kernel
theorem dL_texts_309 : decode cL_texts 309 = .ok (.iconst 1, 1) := by decide +kernel
theorem dL_texts_310 : decode cL_texts 310 = .ok (.invokestatic 86, 3) := by decide +kernel
theorem dL_texts_313 : decode cL_texts 313 = .ok (.ifCond .ne 5, 3) := by decide +kernel
theorem dL_texts_316 : decode cL_texts 316 = .ok (.iconst 0, 1) := by decide +kernel
theorem dL_texts_317 : decode cL_texts 317 = .ok (.ireturn, 1) := by decide +kernel
theorem dL_texts_318 : decode cL_texts 318 = .ok (.aload_n 0, 1) := by decide +kernel
theorem dL_texts_319 : decode cL_texts 319 = .ok (.ldc2_w 128, 3) := by decide +kernel
theorem dL_texts_322 : decode cL_texts 322 = .ok (.lconst 0, 1) := by decide +kernel
theorem dL_texts_323 : decode cL_texts 323 = .ok (.iconst 0, 1) := by decide +kernel
theorem dL_texts_324 : decode cL_texts 324 = .ok (.iconst 1, 1) := by decide +kernel
theorem dL_texts_325 : decode cL_texts 325 = .ok (.invokestatic 86, 3) := by decide +kernel
theorem dL_texts_328 : decode cL_texts 328 = .ok (.ifCond .eq 53, 3) := by decide +kernel
theorem dL_texts_331 : decode cL_texts 331 = .ok (.aload_n 0, 1) := by decide +kernel
theorem dL_texts_332 : decode cL_texts 332 = .ok (.ldc2_w 130, 3) := by decide +kernel
theorem dL_texts_335 : decode cL_texts 335 = .ok (.ldc2_w 114, 3) := by decide +kernel
theorem dL_texts_338 : decode cL_texts 338 = .ok (.iconst 5, 1) := by decide +kernel
theorem dL_texts_339 : decode cL_texts 339 = .ok (.bipush 6, 2) := by decide +kernel
theorem dL_texts_341 : decode cL_texts 341 = .ok (.invokestatic 86, 3) := by decide +kernel
theorem dL_texts_344 : decode cL_texts 344 = .ok (.ifCond .eq 37, 3) := by decide +kernel
theorem dL_texts_347 : decode cL_texts 347 = .ok (.aload_n 0, 1) := by decide +kernel
theorem dL_texts_348 : decode cL_texts 348 = .ok (.ldc2_w 132, 3) := by decide +kernel
theorem dL_texts_351 : decode cL_texts 351 = .ok (.ldc2_w 134, 3) := by decide +kernel
theorem dL_texts_354 : decode cL_texts 354 = .ok (.bipush (-4), 2) := by decide +kernel
theorem dL_texts_356 : decode cL_texts 356 = .ok (.bipush (-4), 2) := by decide +kernel
theorem dL_texts_358 : decode cL_texts 358 = .ok (.invokestatic 86, 3) := by decide +kernel
theorem dL_texts_361 : decode cL_texts 361 = .ok (.ifCond .eq 20, 3) := by decide +kernel
theorem dL_texts_364 : decode cL_texts 364 = .ok (.aload_n 0, 1) := by decide +kernel
theorem dL_texts_365 : decode cL_texts 365 = .ok (.ldc2_w 118, 3) := by decide +kernel
theorem dL_texts_368 : decode cL_texts 368 = .ok (.ldc2_w 136, 3) := by decide +kernel
theorem dL_texts_371 : decode cL_texts 371 = .ok (.bipush 10, 2) := by decide +kernel
theorem dL_texts_373 : decode cL_texts 373 = .ok (.bipush 6, 2) := by decide +kernel
theorem dL_texts_375 : decode cL_texts 375 = .ok (.invokestatic 86, 3) := by decide +kernel
theorem dL_texts_378 : decode cL_texts 378 = .ok (.ifCond .ne 5, 3) := by decide +kernel
theorem dL_texts_381 : decode cL_texts 381 = .ok (.iconst 0, 1) := by decide +kernel
theorem dL_texts_382 : decode cL_texts 382 = .ok (.ireturn, 1) := by decide +kernel
theorem dL_texts_383 : decode cL_texts 383 = .ok (.aload_n 0, 1) := by decide +kernel
theorem dL_texts_384 : decode cL_texts 384 = .ok (.invokestatic 29, 3) := by decide +kernel
theorem dL_texts_387 : decode cL_texts 387 = .ok (.lload_n 1, 1) := by decide +kernel
theorem dL_texts_388 : decode cL_texts 388 = .ok (.lcmp, 1) := by decide +kernel
theorem dL_texts_389 : decode cL_texts 389 = .ok (.ifCond .ne 103, 3) := by decide +kernel
theorem dL_texts_392 : decode cL_texts 392 = .ok (.aload_n 0, 1) := by decide +kernel
theorem dL_texts_393 : decode cL_texts 393 = .ok (.invokevirtual 81, 3) := by decide +kernel
theorem dL_texts_396 : decode cL_texts 396 = .ok (.bipush (-2), 2) := by decide +kernel
theorem dL_texts_398 : decode cL_texts 398 = .ok (.if_icmp .ne 94, 3) := by decide +kernel
theorem dL_texts_401 : decode cL_texts 401 = .ok (.aload_n 0, 1) := by decide +kernel
theorem dL_texts_402 : decode cL_texts 402 = .ok (.ldc2_w 132, 3) := by decide +kernel
theorem dL_texts_405 : decode cL_texts 405 = .ok (.ldc2_w 134, 3) := by decide +kernel
theorem dL_texts_408 : decode cL_texts 408 = .ok (.bipush (-4), 2) := by decide +kernel
theorem dL_texts_410 : decode cL_texts 410 = .ok (.bipush (-4), 2) := by decide +kernel
theorem dL_texts_412 : decode cL_texts 412 = .ok (.invokestatic 86, 3) := by decide +kernel
theorem dL_texts_415 : decode cL_texts 415 = .ok (.ifCond .eq 77, 3) := by decide +kernel
theorem dL_texts_418 : decode cL_texts 418 = .ok (.aload_n 0, 1) := by decide +kernel
theorem dL_texts_419 : decode cL_texts 419 = .ok (.invokevirtual 81, 3) := by decide +kernel
theorem dL_texts_422 : decode cL_texts 422 = .ok (.iconst 3, 1) := by decide +kernel
theorem dL_texts_423 : decode cL_texts 423 = .ok (.if_icmp .ne 69, 3) := by decide +kernel
theorem dL_texts_426 : decode cL_texts 426 = .ok (.aload_n 0, 1) := by decide +kernel
theorem dL_texts_427 : decode cL_texts 427 = .ok (.iconst 3, 1) := by decide +kernel
theorem dL_texts_428 : decode cL_texts 428 = .ok (.invokevirtual 13, 3) := by decide +kernel
theorem dL_texts_431 : decode cL_texts 431 = .ok (.iconst 3, 1) := by decide +kernel
theorem dL_texts_432 : decode cL_texts 432 = .ok (.if_icmp .ne 60, 3) := by decide +kernel
theorem dL_texts_435 : decode cL_texts 435 = .ok (.aload_n 0, 1) := by decide +kernel
theorem dL_texts_436 : decode cL_texts 436 = .ok (.bipush 27, 2) := by decide +kernel
theorem dL_texts_438 : decode cL_texts 438 = .ok (.iconst 1, 1) := by decide +kernel
theorem dL_texts_439 : decode cL_texts 439 = .ok (.invokevirtual 25, 3) := by decide +kernel
theorem dL_texts_442 : decode cL_texts 442 = .ok (.iconst 3, 1) := by decide +kernel
theorem dL_texts_443 : decode cL_texts 443 = .ok (.if_icmp .ne 49, 3) := by decide +kernel
theorem dL_texts_446 : decode cL_texts 446 = .ok (.aload_n 0, 1) := by decide +kernel
theorem dL_texts_447 : decode cL_texts 447 = .ok (.bipush 27, 2) := by decide +kernel
theorem dL_texts_449 : decode cL_texts 449 = .ok (.iconst 0, 1) := by decide +kernel
theorem dL_texts_450 : decode cL_texts 450 = .ok (.invokevirtual 25, 3) := by decide +kernel
theorem dL_texts_453 : decode cL_texts 453 = .ok (.ifCond .ne 39, 3) := by decide +kernel
theorem dL_texts_456 : decode cL_texts 456 = .ok (.aload_n 0, 1) := by decide +kernel
theorem dL_texts_457 : decode cL_texts 457 = .ok (.bipush 8, 2) := by decide +kernel
theorem dL_texts_459 : decode cL_texts 459 = .ok (.invokevirtual 13, 3) := by decide +kernel
theorem dL_texts_462 : decode cL_texts 462 = .ok (.iconst 2, 1) := by decide +kernel
theorem dL_texts_463 : decode cL_texts 463 = .ok (.if_icmp .ne 29, 3) := by decide +kernel
theorem dL_texts_466 : decode cL_texts 466 = .ok (.aload_n 0, 1) := by decide +kernel
theorem dL_texts_467 : decode cL_texts 467 = .ok (.invokevirtual 138, 3) := by decide +kernel
theorem dL_texts_470 : decode cL_texts 470 = .ok (.iconst 1, 1) := by decide +kernel
theorem dL_texts_471 : decode cL_texts 471 = .ok (.if_icmp .ne 21, 3) := by decide +kernel
theorem dL_texts_474 : decode cL_texts 474 = .ok (.aload_n 0, 1) := by decide +kernel
theorem dL_texts_475 : decode cL_texts 475 = .ok (.invokestatic 29, 3) := by decide +kernel
theorem dL_texts_478 : decode cL_texts 478 = .ok (.lload_n 1, 1) := by decide +kernel
theorem dL_texts_479 : decode cL_texts 479 = .ok (.lcmp, 1) := by decide +kernel
theorem dL_texts_480 : decode cL_texts 480 = .ok (.ifCond .ne 12, 3) := by decide +kernel
theorem dL_texts_483 : decode cL_texts 483 = .ok (.aload_n 0, 1) := by decide +kernel
theorem dL_texts_484 : decode cL_texts 484 = .ok (.invokevirtual 72, 3) := by decide +kernel
theorem dL_texts_487 : decode cL_texts 487 = .ok (.bipush 15, 2) := by decide +kernel
theorem dL_texts_489 : decode cL_texts 489 = .ok (.if_icmp .eq 5, 3) := by decide +kernel
theorem dL_texts_492 : decode cL_texts 492 = .ok (.iconst 0, 1) := by decide +kernel
theorem dL_texts_493 : decode cL_texts 493 = .ok (.ireturn, 1) := by decide +kernel
theorem dL_texts_494 : decode cL_texts 494 = .ok (.iconst 1, 1) := by decide +kernel
theorem dL_texts_495 : decode cL_texts 495 = .ok (.istore_n 3, 1) := by decide +kernel
theorem dL_texts_496 : decode cL_texts 496 = .ok (.iload_n 3, 1) := by decide +kernel
theorem dL_texts_497 : decode cL_texts 497 = .ok (.bipush 80, 2) := by decide +kernel
theorem dL_texts_499 : decode cL_texts 499 = .ok (.if_icmp .gt 21, 3) := by decide +kernel
theorem dL_texts_502 : decode cL_texts 502 = .ok (.aload_n 0, 1) := by decide +kernel
theorem dL_texts_503 : decode cL_texts 503 = .ok (.bipush 97, 2) := by decide +kernel
theorem dL_texts_505 : decode cL_texts 505 = .ok (.invokevirtual 67, 3) := by decide +kernel
theorem dL_texts_508 : decode cL_texts 508 = .ok (.iload_n 3, 1) := by decide +kernel
theorem dL_texts_509 : decode cL_texts 509 = .ok (.if_icmp .eq 5, 3) := by decide +kernel
theorem dL_texts_512 : decode cL_texts 512 = .ok (.iconst 0, 1) := by decide +kernel
theorem dL_texts_513 : decode cL_texts 513 = .ok (.ireturn, 1) := by decide +kernel
theorem dL_texts_514 : decode cL_texts 514 = .ok (.iinc 3 1, 3) := by decide +kernel
theorem dL_texts_517 : decode cL_texts 517 = .ok (.goto (-21), 3) := by decide +kernel
theorem dL_texts_520 : decode cL_texts 520 = .ok (.aload_n 0, 1) := by decide +kernel
theorem dL_texts_521 : decode cL_texts 521 = .ok (.bipush 97, 2) := by decide +kernel
theorem dL_texts_523 : decode cL_texts 523 = .ok (.invokevirtual 67, 3) := by decide +kernel
theorem dL_texts_526 : decode cL_texts 526 = .ok (.bipush (-3), 2) := by decide +kernel
theorem dL_texts_528 : decode cL_texts 528 = .ok (.if_icmp .ne 43, 3) := by decide +kernel
theorem dL_texts_531 : decode cL_texts 531 = .ok (.aload_n 0, 1) := by decide +kernel
theorem dL_texts_532 : decode cL_texts 532 = .ok (.bipush 31, 2) := by decide +kernel
theorem dL_texts_534 : decode cL_texts 534 = .ok (.invokevirtual 67, 3) := by decide +kernel
theorem dL_texts_537 : decode cL_texts 537 = .ok (.iconst (-1), 1) := by decide +kernel
theorem dL_texts_538 : decode cL_texts 538 = .ok (.if_icmp .ne 33, 3) := by decide +kernel
theorem dL_texts_541 : decode cL_texts 541 = .ok (.aload_n 0, 1) := by decide +kernel
theorem dL_texts_542 : decode cL_texts 542 = .ok (.iconst 0, 1) := by decide +kernel
theorem dL_texts_543 : decode cL_texts 543 = .ok (.invokevirtual 61, 3) := by decide +kernel
theorem dL_texts_546 : decode cL_texts 546 = .ok (.ifCond .ne 25, 3) := by decide +kernel
theorem dL_texts_549 : decode cL_texts 549 = .ok (.aload_n 0, 1) := by decide +kernel
theorem dL_texts_550 : decode cL_texts 550 = .ok (.iconst 1, 1) := by decide +kernel
theorem dL_texts_551 : decode cL_texts 551 = .ok (.invokevirtual 61, 3) := by decide +kernel
theorem dL_texts_554 : decode cL_texts 554 = .ok (.iconst 1, 1) := by decide +kernel
theorem dL_texts_555 : decode cL_texts 555 = .ok (.if_icmp .ne 16, 3) := by decide +kernel
theorem dL_texts_558 : decode cL_texts 558 = .ok (.aload_n 0, 1) := by decide +kernel
theorem dL_texts_559 : decode cL_texts 559 = .ok (.invokevirtual 72, 3) := by decide +kernel
theorem dL_texts_562 : decode cL_texts 562 = .ok (.bipush 80, 2) := by decide +kernel
theorem dL_texts_564 : decode cL_texts 564 = .ok (.if_icmp .ne 7, 3) := by decide +kernel
theorem dL_texts_567 : decode cL_texts 567 = .ok (.iconst 1, 1) := by decide +kernel
theorem dL_texts_568 : decode cL_texts 568 = .ok (.goto 4, 3) := by decide +kernel
theorem dL_texts_571 : decode cL_texts 571 = .ok (.iconst 0, 1) := by decide +kernel
theorem dL_texts_572 : decode cL_texts 572 = .ok (.ireturn, 1) := by decide +kernel
theorem dL_isCleared_0 : decode cL_isCleared 0 = .ok (.iconst 0, 1) := by decide +kernel
theorem dL_isCleared_1 : decode cL_isCleared 1 = .ok (.istore_n 1, 1) := by decide +kernel
theorem dL_isCleared_2 : decode cL_isCleared 2 = .ok (.iload_n 1, 1) := by decide +kernel
theorem dL_isCleared_3 : decode cL_isCleared 3 = .ok (.bipush 36, 2) := by decide +kernel
theorem dL_isCleared_5 : decode cL_isCleared 5 = .ok (.if_icmp .ge 40, 3) := by decide +kernel
theorem dL_isCleared_8 : decode cL_isCleared 8 = .ok (.aload_n 0, 1) := by decide +kernel
theorem dL_isCleared_9 : decode cL_isCleared 9 = .ok (.iload_n 1, 1) := by decide +kernel
theorem dL_isCleared_10 : decode cL_isCleared 10 = .ok (.iconst 0, 1) := by decide +kernel
theorem dL_isCleared_11 : decode cL_isCleared 11 = .ok (.invokevirtual 25, 3) := by decide +kernel
theorem dL_isCleared_14 : decode cL_isCleared 14 = .ok (.bipush (-4), 2) := by decide +kernel
theorem dL_isCleared_16 : decode cL_isCleared 16 = .ok (.if_icmp .ne 7, 3) := by decide +kernel
theorem dL_isCleared_19 : decode cL_isCleared 19 = .ok (.iconst 0, 1) := by decide +kernel
theorem dL_isCleared_20 : decode cL_isCleared 20 = .ok (.goto 4, 3) := by decide +kernel
theorem dL_isCleared_23 : decode cL_isCleared 23 = .ok (.iconst 1, 1) := by decide +kernel
theorem dL_isCleared_24 : decode cL_isCleared 24 = .ok (.istore_n 2, 1) := by decide +kernel
theorem dL_isCleared_25 : decode cL_isCleared 25 = .ok (.aload_n 0, 1) := by decide +kernel
theorem dL_isCleared_26 : decode cL_isCleared 26 = .ok (.iload_n 1, 1) := by decide +kernel
theorem dL_isCleared_27 : decode cL_isCleared 27 = .ok (.iconst (-1), 1) := by decide +kernel
theorem dL_isCleared_28 : decode cL_isCleared 28 = .ok (.iconst 0, 1) := by decide +kernel
theorem dL_isCleared_29 : decode cL_isCleared 29 = .ok (.iconst 0, 1) := by decide +kernel
theorem dL_isCleared_30 : decode cL_isCleared 30 = .ok (.invokevirtual 33, 3) := by decide +kernel
theorem dL_isCleared_33 : decode cL_isCleared 33 = .ok (.iload_n 2, 1) := by decide +kernel
theorem dL_isCleared_34 : decode cL_isCleared 34 = .ok (.if_icmp .eq 5, 3) := by decide +kernel
theorem dL_isCleared_37 : decode cL_isCleared 37 = .ok (.iconst 0, 1) := by decide +kernel
theorem dL_isCleared_38 : decode cL_isCleared 38 = .ok (.ireturn, 1) := by decide +kernel
theorem dL_isCleared_39 : decode cL_isCleared 39 = .ok (.iinc 1 1, 3) := by decide +kernel
theorem dL_isCleared_42 : decode cL_isCleared 42 = .ok (.goto (-40), 3) := by decide +kernel
theorem dL_isCleared_45 : decode cL_isCleared 45 = .ok (.aload_n 0, 1) := by decide +kernel
theorem dL_isCleared_46 : decode cL_isCleared 46 = .ok (.iconst 4, 1) := by decide +kernel
theorem dL_isCleared_47 : decode cL_isCleared 47 = .ok (.invokevirtual 13, 3) := by decide +kernel
theorem dL_isCleared_50 : decode cL_isCleared 50 = .ok (.ifCond .ne 48, 3) := by decide +kernel
theorem dL_isCleared_53 : decode cL_isCleared 53 = .ok (.aload_n 0, 1) := by decide +kernel
theorem dL_isCleared_54 : decode cL_isCleared 54 = .ok (.bipush 25, 2) := by decide +kernel
theorem dL_isCleared_56 : decode cL_isCleared 56 = .ok (.invokevirtual 13, 3) := by decide +kernel
theorem dL_isCleared_59 : decode cL_isCleared 59 = .ok (.ifCond .ne 39, 3) := by decide +kernel
theorem dL_isCleared_62 : decode cL_isCleared 62 = .ok (.aload_n 0, 1) := by decide +kernel
theorem dL_isCleared_63 : decode cL_isCleared 63 = .ok (.iconst 0, 1) := by decide +kernel
theorem dL_isCleared_64 : decode cL_isCleared 64 = .ok (.invokevirtual 55, 3) := by decide +kernel
theorem dL_isCleared_67 : decode cL_isCleared 67 = .ok (.ifCond .ne 31, 3) := by decide +kernel
theorem dL_isCleared_70 : decode cL_isCleared 70 = .ok (.aload_n 0, 1) := by decide +kernel
theorem dL_isCleared_71 : decode cL_isCleared 71 = .ok (.iconst 1, 1) := by decide +kernel
theorem dL_isCleared_72 : decode cL_isCleared 72 = .ok (.invokevirtual 55, 3) := by decide +kernel
theorem dL_isCleared_75 : decode cL_isCleared 75 = .ok (.ifCond .ne 23, 3) := by decide +kernel
theorem dL_isCleared_78 : decode cL_isCleared 78 = .ok (.aload_n 0, 1) := by decide +kernel
theorem dL_isCleared_79 : decode cL_isCleared 79 = .ok (.invokevirtual 141, 3) := by decide +kernel
theorem dL_isCleared_82 : decode cL_isCleared 82 = .ok (.ifCond .ne 16, 3) := by decide +kernel
theorem dL_isCleared_85 : decode cL_isCleared 85 = .ok (.aload_n 0, 1) := by decide +kernel
theorem dL_isCleared_86 : decode cL_isCleared 86 = .ok (.invokevirtual 144, 3) := by decide +kernel
theorem dL_isCleared_89 : decode cL_isCleared 89 = .ok (.bipush (-4), 2) := by decide +kernel
theorem dL_isCleared_91 : decode cL_isCleared 91 = .ok (.if_icmp .ne 7, 3) := by decide +kernel
theorem dL_isCleared_94 : decode cL_isCleared 94 = .ok (.iconst 1, 1) := by decide +kernel
theorem dL_isCleared_95 : decode cL_isCleared 95 = .ok (.goto 4, 3) := by decide +kernel
theorem dL_isCleared_98 : decode cL_isCleared 98 = .ok (.iconst 0, 1) := by decide +kernel
theorem dL_isCleared_99 : decode cL_isCleared 99 = .ok (.ireturn, 1) := by decide +kernel
theorem dL_begins_0 : decode cL_begins 0 = .ok (.new 14, 3) := by decide +kernel
theorem dL_begins_3 : decode cL_begins 3 = .ok (.dup, 1) := by decide +kernel
theorem dL_begins_4 : decode cL_begins 4 = .ok (.invokespecial 80, 3) := by decide +kernel
theorem dL_begins_7 : decode cL_begins 7 = .ok (.astore_n 0, 1) := by decide +kernel
theorem dL_begins_8 : decode cL_begins 8 = .ok (.aload_n 0, 1) := by decide +kernel
theorem dL_begins_9 : decode cL_begins 9 = .ok (.invokestatic 147, 3) := by decide +kernel
theorem dL_begins_12 : decode cL_begins 12 = .ok (.ifCond .eq 185, 3) := by decide +kernel
theorem dL_begins_15 : decode cL_begins 15 = .ok (.aload_n 0, 1) := by decide +kernel
theorem dL_begins_16 : decode cL_begins 16 = .ok (.invokevirtual 138, 3) := by decide +kernel
theorem dL_begins_19 : decode cL_begins 19 = .ok (.bipush (-2), 2) := by decide +kernel
theorem dL_begins_21 : decode cL_begins 21 = .ok (.if_icmp .ne 176, 3) := by decide +kernel
theorem dL_begins_24 : decode cL_begins 24 = .ok (.aload_n 0, 1) := by decide +kernel
theorem dL_begins_25 : decode cL_begins 25 = .ok (.bipush 6, 2) := by decide +kernel
theorem dL_begins_27 : decode cL_begins 27 = .ok (.invokevirtual 13, 3) := by decide +kernel
theorem dL_begins_30 : decode cL_begins 30 = .ok (.bipush 48, 2) := by decide +kernel
theorem dL_begins_32 : decode cL_begins 32 = .ok (.if_icmp .ne 165, 3) := by decide +kernel
theorem dL_begins_35 : decode cL_begins 35 = .ok (.aload_n 0, 1) := by decide +kernel
theorem dL_begins_36 : decode cL_begins 36 = .ok (.bipush 7, 2) := by decide +kernel
theorem dL_begins_38 : decode cL_begins 38 = .ok (.invokevirtual 13, 3) := by decide +kernel
theorem dL_begins_41 : decode cL_begins 41 = .ok (.bipush 48, 2) := by decide +kernel
theorem dL_begins_43 : decode cL_begins 43 = .ok (.if_icmp .ne 154, 3) := by decide +kernel
theorem dL_begins_46 : decode cL_begins 46 = .ok (.aload_n 0, 1) := by decide +kernel
theorem dL_begins_47 : decode cL_begins 47 = .ok (.bipush 20, 2) := by decide +kernel
theorem dL_begins_49 : decode cL_begins 49 = .ok (.invokevirtual 13, 3) := by decide +kernel
theorem dL_begins_52 : decode cL_begins 52 = .ok (.bipush 96, 2) := by decide +kernel
theorem dL_begins_54 : decode cL_begins 54 = .ok (.if_icmp .ne 143, 3) := by decide +kernel
theorem dL_begins_57 : decode cL_begins 57 = .ok (.aload_n 0, 1) := by decide +kernel
theorem dL_begins_58 : decode cL_begins 58 = .ok (.bipush 25, 2) := by decide +kernel
theorem dL_begins_60 : decode cL_begins 60 = .ok (.invokevirtual 13, 3) := by decide +kernel
theorem dL_begins_63 : decode cL_begins 63 = .ok (.bipush 96, 2) := by decide +kernel
theorem dL_begins_65 : decode cL_begins 65 = .ok (.if_icmp .ne 132, 3) := by decide +kernel
theorem dL_begins_68 : decode cL_begins 68 = .ok (.aload_n 0, 1) := by decide +kernel
theorem dL_begins_69 : decode cL_begins 69 = .ok (.iconst 4, 1) := by decide +kernel
theorem dL_begins_70 : decode cL_begins 70 = .ok (.invokevirtual 13, 3) := by decide +kernel
theorem dL_begins_73 : decode cL_begins 73 = .ok (.bipush 24, 2) := by decide +kernel
theorem dL_begins_75 : decode cL_begins 75 = .ok (.if_icmp .ne 122, 3) := by decide +kernel
theorem dL_begins_78 : decode cL_begins 78 = .ok (.aload_n 0, 1) := by decide +kernel
theorem dL_begins_79 : decode cL_begins 79 = .ok (.iconst 5, 1) := by decide +kernel
theorem dL_begins_80 : decode cL_begins 80 = .ok (.invokevirtual 13, 3) := by decide +kernel
theorem dL_begins_83 : decode cL_begins 83 = .ok (.bipush 6, 2) := by decide +kernel
theorem dL_begins_85 : decode cL_begins 85 = .ok (.if_icmp .ne 112, 3) := by decide +kernel
theorem dL_begins_88 : decode cL_begins 88 = .ok (.aload_n 0, 1) := by decide +kernel
theorem dL_begins_89 : decode cL_begins 89 = .ok (.iconst 0, 1) := by decide +kernel
theorem dL_begins_90 : decode cL_begins 90 = .ok (.invokevirtual 55, 3) := by decide +kernel
theorem dL_begins_93 : decode cL_begins 93 = .ok (.bipush 10, 2) := by decide +kernel
theorem dL_begins_95 : decode cL_begins 95 = .ok (.if_icmp .ne 102, 3) := by decide +kernel
theorem dL_begins_98 : decode cL_begins 98 = .ok (.aload_n 0, 1) := by decide +kernel
theorem dL_begins_99 : decode cL_begins 99 = .ok (.iconst 1, 1) := by decide +kernel
theorem dL_begins_100 : decode cL_begins 100 = .ok (.invokevirtual 55, 3) := by decide +kernel
theorem dL_begins_103 : decode cL_begins 103 = .ok (.bipush 10, 2) := by decide +kernel
theorem dL_begins_105 : decode cL_begins 105 = .ok (.if_icmp .ne 92, 3) := by decide +kernel
theorem dL_begins_108 : decode cL_begins 108 = .ok (.aload_n 0, 1) := by decide +kernel
theorem dL_begins_109 : decode cL_begins 109 = .ok (.iconst 0, 1) := by decide +kernel
theorem dL_begins_110 : decode cL_begins 110 = .ok (.iconst 0, 1) := by decide +kernel
theorem dL_begins_111 : decode cL_begins 111 = .ok (.invokevirtual 58, 3) := by decide +kernel
theorem dL_begins_114 : decode cL_begins 114 = .ok (.bipush 48, 2) := by decide +kernel
theorem dL_begins_116 : decode cL_begins 116 = .ok (.if_icmp .ne 81, 3) := by decide +kernel
theorem dL_begins_119 : decode cL_begins 119 = .ok (.aload_n 0, 1) := by decide +kernel
theorem dL_begins_120 : decode cL_begins 120 = .ok (.iconst 0, 1) := by decide +kernel
theorem dL_begins_121 : decode cL_begins 121 = .ok (.iconst 1, 1) := by decide +kernel
theorem dL_begins_122 : decode cL_begins 122 = .ok (.invokevirtual 58, 3) := by decide +kernel
theorem dL_begins_125 : decode cL_begins 125 = .ok (.bipush 50, 2) := by decide +kernel
theorem dL_begins_127 : decode cL_begins 127 = .ok (.if_icmp .ne 70, 3) := by decide +kernel
theorem dL_begins_130 : decode cL_begins 130 = .ok (.aload_n 0, 1) := by decide +kernel
theorem dL_begins_131 : decode cL_begins 131 = .ok (.iconst 0, 1) := by decide +kernel
theorem dL_begins_132 : decode cL_begins 132 = .ok (.iconst 2, 1) := by decide +kernel
theorem dL_begins_133 : decode cL_begins 133 = .ok (.invokevirtual 58, 3) := by decide +kernel
theorem dL_begins_136 : decode cL_begins 136 = .ok (.sipush 159, 3) := by decide +kernel
theorem dL_begins_139 : decode cL_begins 139 = .ok (.if_icmp .ne 58, 3) := by decide +kernel
theorem dL_begins_142 : decode cL_begins 142 = .ok (.aload_n 0, 1) := by decide +kernel
theorem dL_begins_143 : decode cL_begins 143 = .ok (.iconst 0, 1) := by decide +kernel
theorem dL_begins_144 : decode cL_begins 144 = .ok (.iconst 3, 1) := by decide +kernel
theorem dL_begins_145 : decode cL_begins 145 = .ok (.invokevirtual 58, 3) := by decide +kernel
theorem dL_begins_148 : decode cL_begins 148 = .ok (.sipush 161, 3) := by decide +kernel
theorem dL_begins_151 : decode cL_begins 151 = .ok (.if_icmp .ne 46, 3) := by decide +kernel
theorem dL_begins_154 : decode cL_begins 154 = .ok (.aload_n 0, 1) := by decide +kernel
theorem dL_begins_155 : decode cL_begins 155 = .ok (.iconst 0, 1) := by decide +kernel
theorem dL_begins_156 : decode cL_begins 156 = .ok (.iconst 4, 1) := by decide +kernel
theorem dL_begins_157 : decode cL_begins 157 = .ok (.invokevirtual 58, 3) := by decide +kernel
theorem dL_begins_160 : decode cL_begins 160 = .ok (.sipush 228, 3) := by decide +kernel
theorem dL_begins_163 : decode cL_begins 163 = .ok (.if_icmp .ne 34, 3) := by decide +kernel
theorem dL_begins_166 : decode cL_begins 166 = .ok (.aload_n 0, 1) := by decide +kernel
theorem dL_begins_167 : decode cL_begins 167 = .ok (.iconst 0, 1) := by decide +kernel
theorem dL_begins_168 : decode cL_begins 168 = .ok (.bipush 10, 2) := by decide +kernel
theorem dL_begins_170 : decode cL_begins 170 = .ok (.invokevirtual 58, 3) := by decide +kernel
theorem dL_begins_173 : decode cL_begins 173 = .ok (.bipush (-4), 2) := by decide +kernel
theorem dL_begins_175 : decode cL_begins 175 = .ok (.if_icmp .ne 22, 3) := by decide +kernel
theorem dL_begins_178 : decode cL_begins 178 = .ok (.aload_n 0, 1) := by decide +kernel
theorem dL_begins_179 : decode cL_begins 179 = .ok (.invokevirtual 141, 3) := by decide +kernel
theorem dL_begins_182 : decode cL_begins 182 = .ok (.bipush 100, 2) := by decide +kernel
theorem dL_begins_184 : decode cL_begins 184 = .ok (.if_icmp .ne 13, 3) := by decide +kernel
theorem dL_begins_187 : decode cL_begins 187 = .ok (.aload_n 0, 1) := by decide +kernel
theorem dL_begins_188 : decode cL_begins 188 = .ok (.invokevirtual 144, 3) := by decide +kernel
theorem dL_begins_191 : decode cL_begins 191 = .ok (.sipush 228, 3) := by decide +kernel
theorem dL_begins_194 : decode cL_begins 194 = .ok (.if_icmp .eq 5, 3) := by decide +kernel
theorem dL_begins_197 : decode cL_begins 197 = .ok (.iconst 0, 1) := by decide +kernel
theorem dL_begins_198 : decode cL_begins 198 = .ok (.ireturn, 1) := by decide +kernel
theorem dL_begins_199 : decode cL_begins 199 = .ok (.aload_n 0, 1) := by decide +kernel
theorem dL_begins_200 : decode cL_begins 200 = .ok (.bipush 6, 2) := by decide +kernel
theorem dL_begins_202 : decode cL_begins 202 = .ok (.bipush 12, 2) := by decide +kernel
theorem dL_begins_204 : decode cL_begins 204 = .ok (.invokevirtual 43, 3) := by decide +kernel
theorem dL_begins_207 : decode cL_begins 207 = .ok (.ifCond .ne 232, 3) := by decide +kernel
theorem dL_begins_210 : decode cL_begins 210 = .ok (.aload_n 0, 1) := by decide +kernel
theorem dL_begins_211 : decode cL_begins 211 = .ok (.bipush 12, 2) := by decide +kernel
theorem dL_begins_213 : decode cL_begins 213 = .ok (.bipush 18, 2) := by decide +kernel
theorem dL_begins_215 : decode cL_begins 215 = .ok (.invokevirtual 43, 3) := by decide +kernel
theorem dL_begins_218 : decode cL_begins 218 = .ok (.iconst 3, 1) := by decide +kernel
theorem dL_begins_219 : decode cL_begins 219 = .ok (.if_icmp .ne 220, 3) := by decide +kernel
theorem dL_begins_222 : decode cL_begins 222 = .ok (.aload_n 0, 1) := by decide +kernel
theorem dL_begins_223 : decode cL_begins 223 = .ok (.bipush 24, 2) := by decide +kernel
theorem dL_begins_225 : decode cL_begins 225 = .ok (.bipush 18, 2) := by decide +kernel
theorem dL_begins_227 : decode cL_begins 227 = .ok (.invokevirtual 43, 3) := by decide +kernel
theorem dL_begins_230 : decode cL_begins 230 = .ok (.iconst 4, 1) := by decide +kernel
theorem dL_begins_231 : decode cL_begins 231 = .ok (.if_icmp .ne 208, 3) := by decide +kernel
theorem dL_begins_234 : decode cL_begins 234 = .ok (.aload_n 0, 1) := by decide +kernel
theorem dL_begins_235 : decode cL_begins 235 = .ok (.iconst 0, 1) := by decide +kernel
theorem dL_begins_236 : decode cL_begins 236 = .ok (.bipush 6, 2) := by decide +kernel
theorem dL_begins_238 : decode cL_begins 238 = .ok (.invokevirtual 43, 3) := by decide +kernel
theorem dL_begins_241 : decode cL_begins 241 = .ok (.iconst 5, 1) := by decide +kernel
theorem dL_begins_242 : decode cL_begins 242 = .ok (.if_icmp .ne 197, 3) := by decide +kernel
theorem dL_begins_245 : decode cL_begins 245 = .ok (.aload_n 0, 1) := by decide +kernel
theorem dL_begins_246 : decode cL_begins 246 = .ok (.iconst 0, 1) := by decide +kernel
theorem dL_begins_247 : decode cL_begins 247 = .ok (.iconst 0, 1) := by decide +kernel
theorem dL_begins_248 : decode cL_begins 248 = .ok (.invokevirtual 43, 3) := by decide +kernel
theorem dL_begins_251 : decode cL_begins 251 = .ok (.iconst 5, 1) := by decide +kernel
theorem dL_begins_252 : decode cL_begins 252 = .ok (.if_icmp .ne 187, 3) := by decide +kernel
theorem dL_begins_255 : decode cL_begins 255 = .ok (.aload_n 0, 1) := by decide +kernel
theorem dL_begins_256 : decode cL_begins 256 = .ok (.bipush 6, 2) := by decide +kernel
theorem dL_begins_258 : decode cL_begins 258 = .ok (.bipush 18, 2) := by decide +kernel
theorem dL_begins_260 : decode cL_begins 260 = .ok (.invokevirtual 43, 3) := by decide +kernel
theorem dL_begins_263 : decode cL_begins 263 = .ok (.bipush 6, 2) := by decide +kernel
theorem dL_begins_265 : decode cL_begins 265 = .ok (.if_icmp .ne 174, 3) := by decide +kernel
theorem dL_begins_268 : decode cL_begins 268 = .ok (.aload_n 0, 1) := by decide +kernel
theorem dL_begins_269 : decode cL_begins 269 = .ok (.bipush 6, 2) := by decide +kernel
theorem dL_begins_271 : decode cL_begins 271 = .ok (.bipush 12, 2) := by decide +kernel
theorem dL_begins_273 : decode cL_begins 273 = .ok (.invokevirtual 46, 3) := by decide +kernel
theorem dL_begins_276 : decode cL_begins 276 = .ok (.iconst 1, 1) := by decide +kernel
theorem dL_begins_277 : decode cL_begins 277 = .ok (.if_icmp .ne 162, 3) := by decide +kernel
theorem dL_begins_280 : decode cL_begins 280 = .ok (.aload_n 0, 1) := by decide +kernel
theorem dL_begins_281 : decode cL_begins 281 = .ok (.iconst 1, 1) := by decide +kernel
theorem dL_begins_282 : decode cL_begins 282 = .ok (.bipush 12, 2) := by decide +kernel
theorem dL_begins_284 : decode cL_begins 284 = .ok (.invokevirtual 46, 3) := by decide +kernel
theorem dL_begins_287 : decode cL_begins 287 = .ok (.iconst 2, 1) := by decide +kernel
theorem dL_begins_288 : decode cL_begins 288 = .ok (.if_icmp .ne 151, 3) := by decide +kernel
theorem dL_begins_291 : decode cL_begins 291 = .ok (.aload_n 0, 1) := by decide +kernel
theorem dL_begins_292 : decode cL_begins 292 = .ok (.bipush 6, 2) := by decide +kernel
theorem dL_begins_294 : decode cL_begins 294 = .ok (.bipush 18, 2) := by decide +kernel
theorem dL_begins_296 : decode cL_begins 296 = .ok (.invokevirtual 46, 3) := by decide +kernel
theorem dL_begins_299 : decode cL_begins 299 = .ok (.bipush (-4), 2) := by decide +kernel
theorem dL_begins_301 : decode cL_begins 301 = .ok (.if_icmp .ne 138, 3) := by decide +kernel
theorem dL_begins_304 : decode cL_begins 304 = .ok (.aload_n 0, 1) := by decide +kernel
theorem dL_begins_305 : decode cL_begins 305 = .ok (.bipush 12, 2) := by decide +kernel
theorem dL_begins_307 : decode cL_begins 307 = .ok (.bipush 18, 2) := by decide +kernel
theorem dL_begins_309 : decode cL_begins 309 = .ok (.invokevirtual 46, 3) := by decide +kernel
theorem dL_begins_312 : decode cL_begins 312 = .ok (.bipush (-4), 2) := by decide +kernel
theorem dL_begins_314 : decode cL_begins 314 = .ok (.if_icmp .ne 125, 3) := by decide +kernel
theorem dL_begins_317 : decode cL_begins 317 = .ok (.aload_n 0, 1) := by decide +kernel
theorem dL_begins_318 : decode cL_begins 318 = .ok (.iconst 0, 1) := by decide +kernel
theorem dL_begins_319 : decode cL_begins 319 = .ok (.iconst 0, 1) := by decide +kernel
theorem dL_begins_320 : decode cL_begins 320 = .ok (.invokevirtual 46, 3) := by decide +kernel
theorem dL_begins_323 : decode cL_begins 323 = .ok (.bipush (-4), 2) := by decide +kernel
theorem dL_begins_325 : decode cL_begins 325 = .ok (.if_icmp .ne 114, 3) := by decide +kernel
theorem dL_begins_328 : decode cL_begins 328 = .ok (.aload_n 0, 1) := by decide +kernel
theorem dL_begins_329 : decode cL_begins 329 = .ok (.bipush 25, 2) := by decide +kernel
theorem dL_begins_331 : decode cL_begins 331 = .ok (.bipush 19, 2) := by decide +kernel
theorem dL_begins_333 : decode cL_begins 333 = .ok (.invokevirtual 46, 3) := by decide +kernel
theorem dL_begins_336 : decode cL_begins 336 = .ok (.iconst 1, 1) := by decide +kernel
theorem dL_begins_337 : decode cL_begins 337 = .ok (.if_icmp .ne 102, 3) := by decide +kernel
theorem dL_begins_340 : decode cL_begins 340 = .ok (.aload_n 0, 1) := by decide +kernel
theorem dL_begins_341 : decode cL_begins 341 = .ok (.bipush 12, 2) := by decide +kernel
theorem dL_begins_343 : decode cL_begins 343 = .ok (.iconst 0, 1) := by decide +kernel
theorem dL_begins_344 : decode cL_begins 344 = .ok (.invokevirtual 49, 3) := by decide +kernel
theorem dL_begins_347 : decode cL_begins 347 = .ok (.iconst 2, 1) := by decide +kernel
theorem dL_begins_348 : decode cL_begins 348 = .ok (.if_icmp .ne 91, 3) := by decide +kernel
theorem dL_begins_351 : decode cL_begins 351 = .ok (.aload_n 0, 1) := by decide +kernel
theorem dL_begins_352 : decode cL_begins 352 = .ok (.bipush 14, 2) := by decide +kernel
theorem dL_begins_354 : decode cL_begins 354 = .ok (.iconst 0, 1) := by decide +kernel
theorem dL_begins_355 : decode cL_begins 355 = .ok (.invokevirtual 49, 3) := by decide +kernel
theorem dL_begins_358 : decode cL_begins 358 = .ok (.iconst 3, 1) := by decide +kernel
theorem dL_begins_359 : decode cL_begins 359 = .ok (.if_icmp .ne 80, 3) := by decide +kernel
theorem dL_begins_362 : decode cL_begins 362 = .ok (.aload_n 0, 1) := by decide +kernel
theorem dL_begins_363 : decode cL_begins 363 = .ok (.iconst 1, 1) := by decide +kernel
theorem dL_begins_364 : decode cL_begins 364 = .ok (.iconst 0, 1) := by decide +kernel
theorem dL_begins_365 : decode cL_begins 365 = .ok (.invokevirtual 52, 3) := by decide +kernel
theorem dL_begins_368 : decode cL_begins 368 = .ok (.iconst 1, 1) := by decide +kernel
theorem dL_begins_369 : decode cL_begins 369 = .ok (.if_icmp .ne 70, 3) := by decide +kernel
theorem dL_begins_372 : decode cL_begins 372 = .ok (.aload_n 0, 1) := by decide +kernel
theorem dL_begins_373 : decode cL_begins 373 = .ok (.iconst 1, 1) := by decide +kernel
theorem dL_begins_374 : decode cL_begins 374 = .ok (.iconst 1, 1) := by decide +kernel
theorem dL_begins_375 : decode cL_begins 375 = .ok (.invokevirtual 52, 3) := by decide +kernel
theorem dL_begins_378 : decode cL_begins 378 = .ok (.iconst 3, 1) := by decide +kernel
theorem dL_begins_379 : decode cL_begins 379 = .ok (.if_icmp .ne 60, 3) := by decide +kernel
theorem dL_begins_382 : decode cL_begins 382 = .ok (.aload_n 0, 1) := by decide +kernel
theorem dL_begins_383 : decode cL_begins 383 = .ok (.iconst 1, 1) := by decide +kernel
theorem dL_begins_384 : decode cL_begins 384 = .ok (.iconst 2, 1) := by decide +kernel
theorem dL_begins_385 : decode cL_begins 385 = .ok (.invokevirtual 52, 3) := by decide +kernel
theorem dL_begins_388 : decode cL_begins 388 = .ok (.bipush 6, 2) := by decide +kernel
theorem dL_begins_390 : decode cL_begins 390 = .ok (.if_icmp .ne 49, 3) := by decide +kernel
theorem dL_begins_393 : decode cL_begins 393 = .ok (.aload_n 0, 1) := by decide +kernel
theorem dL_begins_394 : decode cL_begins 394 = .ok (.iconst 1, 1) := by decide +kernel
theorem dL_begins_395 : decode cL_begins 395 = .ok (.bipush 12, 2) := by decide +kernel
theorem dL_begins_397 : decode cL_begins 397 = .ok (.invokevirtual 52, 3) := by decide +kernel
theorem dL_begins_400 : decode cL_begins 400 = .ok (.bipush 6, 2) := by decide +kernel
theorem dL_begins_402 : decode cL_begins 402 = .ok (.if_icmp .ne 37, 3) := by decide +kernel
theorem dL_begins_405 : decode cL_begins 405 = .ok (.aload_n 0, 1) := by decide +kernel
theorem dL_begins_406 : decode cL_begins 406 = .ok (.bipush 12, 2) := by decide +kernel
theorem dL_begins_408 : decode cL_begins 408 = .ok (.iconst 1, 1) := by decide +kernel
theorem dL_begins_409 : decode cL_begins 409 = .ok (.invokevirtual 52, 3) := by decide +kernel
theorem dL_begins_412 : decode cL_begins 412 = .ok (.bipush (-4), 2) := by decide +kernel
theorem dL_begins_414 : decode cL_begins 414 = .ok (.if_icmp .ne 25, 3) := by decide +kernel
theorem dL_begins_417 : decode cL_begins 417 = .ok (.aload_n 0, 1) := by decide +kernel
theorem dL_begins_418 : decode cL_begins 418 = .ok (.invokevirtual 151, 3) := by decide +kernel
theorem dL_begins_421 : decode cL_begins 421 = .ok (.bipush (-2), 2) := by decide +kernel
theorem dL_begins_423 : decode cL_begins 423 = .ok (.if_icmp .ne 16, 3) := by decide +kernel
theorem dL_begins_426 : decode cL_begins 426 = .ok (.aload_n 0, 1) := by decide +kernel
theorem dL_begins_427 : decode cL_begins 427 = .ok (.bipush 6, 2) := by decide +kernel
theorem dL_begins_429 : decode cL_begins 429 = .ok (.bipush 18, 2) := by decide +kernel
theorem dL_begins_431 : decode cL_begins 431 = .ok (.invokevirtual 40, 3) := by decide +kernel
theorem dL_begins_434 : decode cL_begins 434 = .ok (.bipush (-2), 2) := by decide +kernel
theorem dL_begins_436 : decode cL_begins 436 = .ok (.if_icmp .eq 5, 3) := by decide +kernel
theorem dL_begins_439 : decode cL_begins 439 = .ok (.iconst 0, 1) := by decide +kernel
theorem dL_begins_440 : decode cL_begins 440 = .ok (.ireturn, 1) := by decide +kernel
theorem dL_begins_441 : decode cL_begins 441 = .ok (.aload_n 0, 1) := by decide +kernel
theorem dL_begins_442 : decode cL_begins 442 = .ok (.bipush 6, 2) := by decide +kernel
theorem dL_begins_444 : decode cL_begins 444 = .ok (.bipush 12, 2) := by decide +kernel
theorem dL_begins_446 : decode cL_begins 446 = .ok (.invokevirtual 40, 3) := by decide +kernel
theorem dL_begins_449 : decode cL_begins 449 = .ok (.iconst 1, 1) := by decide +kernel
theorem dL_begins_450 : decode cL_begins 450 = .ok (.if_icmp .ne 228, 3) := by decide +kernel
theorem dL_begins_453 : decode cL_begins 453 = .ok (.aload_n 0, 1) := by decide +kernel
theorem dL_begins_454 : decode cL_begins 454 = .ok (.iconst 0, 1) := by decide +kernel
theorem dL_begins_455 : decode cL_begins 455 = .ok (.invokevirtual 13, 3) := by decide +kernel
theorem dL_begins_458 : decode cL_begins 458 = .ok (.iconst 1, 1) := by decide +kernel
theorem dL_begins_459 : decode cL_begins 459 = .ok (.if_icmp .ne 219, 3) := by decide +kernel
theorem dL_begins_462 : decode cL_begins 462 = .ok (.aload_n 0, 1) := by decide +kernel
theorem dL_begins_463 : decode cL_begins 463 = .ok (.iconst 3, 1) := by decide +kernel
theorem dL_begins_464 : decode cL_begins 464 = .ok (.invokevirtual 13, 3) := by decide +kernel
theorem dL_begins_467 : decode cL_begins 467 = .ok (.iconst 1, 1) := by decide +kernel
theorem dL_begins_468 : decode cL_begins 468 = .ok (.if_icmp .ne 210, 3) := by decide +kernel
theorem dL_begins_471 : decode cL_begins 471 = .ok (.aload_n 0, 1) := by decide +kernel
theorem dL_begins_472 : decode cL_begins 472 = .ok (.bipush 6, 2) := by decide +kernel
theorem dL_begins_474 : decode cL_begins 474 = .ok (.invokevirtual 13, 3) := by decide +kernel
theorem dL_begins_477 : decode cL_begins 477 = .ok (.bipush 47, 2) := by decide +kernel
theorem dL_begins_479 : decode cL_begins 479 = .ok (.if_icmp .ne 199, 3) := by decide +kernel
theorem dL_begins_482 : decode cL_begins 482 = .ok (.aload_n 0, 1) := by decide +kernel
theorem dL_begins_483 : decode cL_begins 483 = .ok (.bipush 7, 2) := by decide +kernel
theorem dL_begins_485 : decode cL_begins 485 = .ok (.invokevirtual 13, 3) := by decide +kernel
theorem dL_begins_488 : decode cL_begins 488 = .ok (.bipush 52, 2) := by decide +kernel
theorem dL_begins_490 : decode cL_begins 490 = .ok (.if_icmp .ne 188, 3) := by decide +kernel
theorem dL_begins_493 : decode cL_begins 493 = .ok (.aload_n 0, 1) := by decide +kernel
theorem dL_begins_494 : decode cL_begins 494 = .ok (.bipush 21, 2) := by decide +kernel
theorem dL_begins_496 : decode cL_begins 496 = .ok (.invokevirtual 13, 3) := by decide +kernel
theorem dL_begins_499 : decode cL_begins 499 = .ok (.iconst 4, 1) := by decide +kernel
theorem dL_begins_500 : decode cL_begins 500 = .ok (.if_icmp .ne 178, 3) := by decide +kernel
theorem dL_begins_503 : decode cL_begins 503 = .ok (.aload_n 0, 1) := by decide +kernel
theorem dL_begins_504 : decode cL_begins 504 = .ok (.bipush 23, 2) := by decide +kernel
theorem dL_begins_506 : decode cL_begins 506 = .ok (.invokevirtual 13, 3) := by decide +kernel
theorem dL_begins_509 : decode cL_begins 509 = .ok (.iconst 1, 1) := by decide +kernel
theorem dL_begins_510 : decode cL_begins 510 = .ok (.if_icmp .ne 168, 3) := by decide +kernel
theorem dL_begins_513 : decode cL_begins 513 = .ok (.aload_n 0, 1) := by decide +kernel
theorem dL_begins_514 : decode cL_begins 514 = .ok (.bipush 30, 2) := by decide +kernel
theorem dL_begins_516 : decode cL_begins 516 = .ok (.iconst 2, 1) := by decide +kernel
theorem dL_begins_517 : decode cL_begins 517 = .ok (.invokevirtual 25, 3) := by decide +kernel
theorem dL_begins_520 : decode cL_begins 520 = .ok (.bipush 6, 2) := by decide +kernel
theorem dL_begins_522 : decode cL_begins 522 = .ok (.if_icmp .ne 156, 3) := by decide +kernel
theorem dL_begins_525 : decode cL_begins 525 = .ok (.aload_n 0, 1) := by decide +kernel
theorem dL_begins_526 : decode cL_begins 526 = .ok (.bipush 25, 2) := by decide +kernel
theorem dL_begins_528 : decode cL_begins 528 = .ok (.bipush 19, 2) := by decide +kernel
theorem dL_begins_530 : decode cL_begins 530 = .ok (.invokevirtual 40, 3) := by decide +kernel
theorem dL_begins_533 : decode cL_begins 533 = .ok (.iconst 1, 1) := by decide +kernel
theorem dL_begins_534 : decode cL_begins 534 = .ok (.if_icmp .ne 144, 3) := by decide +kernel
theorem dL_begins_537 : decode cL_begins 537 = .ok (.aload_n 0, 1) := by decide +kernel
theorem dL_begins_538 : decode cL_begins 538 = .ok (.bipush 21, 2) := by decide +kernel
theorem dL_begins_540 : decode cL_begins 540 = .ok (.invokevirtual 13, 3) := by decide +kernel
theorem dL_begins_543 : decode cL_begins 543 = .ok (.bipush 8, 2) := by decide +kernel
theorem dL_begins_545 : decode cL_begins 545 = .ok (.if_icmp .ne 133, 3) := by decide +kernel
theorem dL_begins_548 : decode cL_begins 548 = .ok (.aload_n 0, 1) := by decide +kernel
theorem dL_begins_549 : decode cL_begins 549 = .ok (.bipush 12, 2) := by decide +kernel
theorem dL_begins_551 : decode cL_begins 551 = .ok (.bipush 19, 2) := by decide +kernel
theorem dL_begins_553 : decode cL_begins 553 = .ok (.invokevirtual 43, 3) := by decide +kernel
theorem dL_begins_556 : decode cL_begins 556 = .ok (.ifCond .ne 122, 3) := by decide +kernel
theorem dL_begins_559 : decode cL_begins 559 = .ok (.aload_n 0, 1) := by decide +kernel
theorem dL_begins_560 : decode cL_begins 560 = .ok (.bipush 12, 2) := by decide +kernel
theorem dL_begins_562 : decode cL_begins 562 = .ok (.bipush 19, 2) := by decide +kernel
theorem dL_begins_564 : decode cL_begins 564 = .ok (.invokevirtual 40, 3) := by decide +kernel
theorem dL_begins_567 : decode cL_begins 567 = .ok (.iconst 1, 1) := by decide +kernel
theorem dL_begins_568 : decode cL_begins 568 = .ok (.if_icmp .ne 110, 3) := by decide +kernel
theorem dL_begins_571 : decode cL_begins 571 = .ok (.aload_n 0, 1) := by decide +kernel
theorem dL_begins_572 : decode cL_begins 572 = .ok (.bipush 19, 2) := by decide +kernel
theorem dL_begins_574 : decode cL_begins 574 = .ok (.iconst 2, 1) := by decide +kernel
theorem dL_begins_575 : decode cL_begins 575 = .ok (.invokevirtual 25, 3) := by decide +kernel
theorem dL_begins_578 : decode cL_begins 578 = .ok (.iconst 4, 1) := by decide +kernel
theorem dL_begins_579 : decode cL_begins 579 = .ok (.if_icmp .ne 99, 3) := by decide +kernel
theorem dL_begins_582 : decode cL_begins 582 = .ok (.aload_n 0, 1) := by decide +kernel
theorem dL_begins_583 : decode cL_begins 583 = .ok (.bipush 19, 2) := by decide +kernel
theorem dL_begins_585 : decode cL_begins 585 = .ok (.iconst 0, 1) := by decide +kernel
theorem dL_begins_586 : decode cL_begins 586 = .ok (.invokevirtual 25, 3) := by decide +kernel
theorem dL_begins_589 : decode cL_begins 589 = .ok (.ifCond .ne 89, 3) := by decide +kernel
theorem dL_begins_592 : decode cL_begins 592 = .ok (.aload_n 0, 1) := by decide +kernel
theorem dL_begins_593 : decode cL_begins 593 = .ok (.bipush 12, 2) := by decide +kernel
theorem dL_begins_595 : decode cL_begins 595 = .ok (.iconst 0, 1) := by decide +kernel
theorem dL_begins_596 : decode cL_begins 596 = .ok (.invokevirtual 25, 3) := by decide +kernel
theorem dL_begins_599 : decode cL_begins 599 = .ok (.bipush (-4), 2) := by decide +kernel
theorem dL_begins_601 : decode cL_begins 601 = .ok (.if_icmp .ne 77, 3) := by decide +kernel
theorem dL_begins_604 : decode cL_begins 604 = .ok (.aload_n 0, 1) := by decide +kernel
theorem dL_begins_605 : decode cL_begins 605 = .ok (.bipush 12, 2) := by decide +kernel
theorem dL_begins_607 : decode cL_begins 607 = .ok (.iconst 4, 1) := by decide +kernel
theorem dL_begins_608 : decode cL_begins 608 = .ok (.invokevirtual 25, 3) := by decide +kernel
theorem dL_begins_611 : decode cL_begins 611 = .ok (.bipush (-4), 2) := by decide +kernel
theorem dL_begins_613 : decode cL_begins 613 = .ok (.if_icmp .ne 65, 3) := by decide +kernel
theorem dL_begins_616 : decode cL_begins 616 = .ok (.aload_n 0, 1) := by decide +kernel
theorem dL_begins_617 : decode cL_begins 617 = .ok (.bipush 22, 2) := by decide +kernel
theorem dL_begins_619 : decode cL_begins 619 = .ok (.invokevirtual 13, 3) := by decide +kernel
theorem dL_begins_622 : decode cL_begins 622 = .ok (.iconst 1, 1) := by decide +kernel
theorem dL_begins_623 : decode cL_begins 623 = .ok (.if_icmp .ne 55, 3) := by decide +kernel
theorem dL_begins_626 : decode cL_begins 626 = .ok (.aload_n 0, 1) := by decide +kernel
theorem dL_begins_627 : decode cL_begins 627 = .ok (.bipush 24, 2) := by decide +kernel
theorem dL_begins_629 : decode cL_begins 629 = .ok (.invokevirtual 13, 3) := by decide +kernel
theorem dL_begins_632 : decode cL_begins 632 = .ok (.iconst 2, 1) := by decide +kernel
theorem dL_begins_633 : decode cL_begins 633 = .ok (.if_icmp .ne 45, 3) := by decide +kernel
theorem dL_begins_636 : decode cL_begins 636 = .ok (.aload_n 0, 1) := by decide +kernel
theorem dL_begins_637 : decode cL_begins 637 = .ok (.bipush 23, 2) := by decide +kernel
theorem dL_begins_639 : decode cL_begins 639 = .ok (.invokevirtual 13, 3) := by decide +kernel
theorem dL_begins_642 : decode cL_begins 642 = .ok (.iconst 3, 1) := by decide +kernel
theorem dL_begins_643 : decode cL_begins 643 = .ok (.if_icmp .ne 35, 3) := by decide +kernel
theorem dL_begins_646 : decode cL_begins 646 = .ok (.aload_n 0, 1) := by decide +kernel
theorem dL_begins_647 : decode cL_begins 647 = .ok (.bipush 21, 2) := by decide +kernel
theorem dL_begins_649 : decode cL_begins 649 = .ok (.invokevirtual 13, 3) := by decide +kernel
theorem dL_begins_652 : decode cL_begins 652 = .ok (.bipush 12, 2) := by decide +kernel
theorem dL_begins_654 : decode cL_begins 654 = .ok (.if_icmp .ne 24, 3) := by decide +kernel
theorem dL_begins_657 : decode cL_begins 657 = .ok (.aload_n 0, 1) := by decide +kernel
theorem dL_begins_658 : decode cL_begins 658 = .ok (.bipush 25, 2) := by decide +kernel
theorem dL_begins_660 : decode cL_begins 660 = .ok (.invokevirtual 13, 3) := by decide +kernel
theorem dL_begins_663 : decode cL_begins 663 = .ok (.bipush 104, 2) := by decide +kernel
theorem dL_begins_665 : decode cL_begins 665 = .ok (.if_icmp .ne 13, 3) := by decide +kernel
theorem dL_begins_668 : decode cL_begins 668 = .ok (.aload_n 0, 1) := by decide +kernel
theorem dL_begins_669 : decode cL_begins 669 = .ok (.iconst 4, 1) := by decide +kernel
theorem dL_begins_670 : decode cL_begins 670 = .ok (.invokevirtual 13, 3) := by decide +kernel
theorem dL_begins_673 : decode cL_begins 673 = .ok (.bipush 23, 2) := by decide +kernel
theorem dL_begins_675 : decode cL_begins 675 = .ok (.if_icmp .eq 5, 3) := by decide +kernel
theorem dL_begins_678 : decode cL_begins 678 = .ok (.iconst 0, 1) := by decide +kernel
theorem dL_begins_679 : decode cL_begins 679 = .ok (.ireturn, 1) := by decide +kernel
theorem dL_begins_680 : decode cL_begins 680 = .ok (.aload_n 0, 1) := by decide +kernel
theorem dL_begins_681 : decode cL_begins 681 = .ok (.iconst 0, 1) := by decide +kernel
theorem dL_begins_682 : decode cL_begins 682 = .ok (.iconst 3, 1) := by decide +kernel
theorem dL_begins_683 : decode cL_begins 683 = .ok (.invokevirtual 64, 3) := by decide +kernel
theorem dL_begins_686 : decode cL_begins 686 = .ok (.bipush 9, 2) := by decide +kernel
theorem dL_begins_688 : decode cL_begins 688 = .ok (.if_icmp .ne 98, 3) := by decide +kernel
theorem dL_begins_691 : decode cL_begins 691 = .ok (.aload_n 0, 1) := by decide +kernel
theorem dL_begins_692 : decode cL_begins 692 = .ok (.bipush 30, 2) := by decide +kernel
theorem dL_begins_694 : decode cL_begins 694 = .ok (.iconst 2, 1) := by decide +kernel
theorem dL_begins_695 : decode cL_begins 695 = .ok (.invokevirtual 25, 3) := by decide +kernel
theorem dL_begins_698 : decode cL_begins 698 = .ok (.iconst 3, 1) := by decide +kernel
theorem dL_begins_699 : decode cL_begins 699 = .ok (.if_icmp .ne 87, 3) := by decide +kernel
theorem dL_begins_702 : decode cL_begins 702 = .ok (.aload_n 0, 1) := by decide +kernel
theorem dL_begins_703 : decode cL_begins 703 = .ok (.bipush 26, 2) := by decide +kernel
theorem dL_begins_705 : decode cL_begins 705 = .ok (.invokevirtual 13, 3) := by decide +kernel
theorem dL_begins_708 : decode cL_begins 708 = .ok (.iconst 3, 1) := by decide +kernel
theorem dL_begins_709 : decode cL_begins 709 = .ok (.aload_n 0, 1) := by decide +kernel
theorem dL_begins_710 : decode cL_begins 710 = .ok (.iconst 4, 1) := by decide +kernel
theorem dL_begins_711 : decode cL_begins 711 = .ok (.invokevirtual 13, 3) := by decide +kernel
theorem dL_begins_714 : decode cL_begins 714 = .ok (.imul, 1) := by decide +kernel
theorem dL_begins_715 : decode cL_begins 715 = .ok (.bipush 104, 2) := by decide +kernel
theorem dL_begins_717 : decode cL_begins 717 = .ok (.isub, 1) := by decide +kernel
theorem dL_begins_718 : decode cL_begins 718 = .ok (.aload_n 0, 1) := by decide +kernel
theorem dL_begins_719 : decode cL_begins 719 = .ok (.bipush 25, 2) := by decide +kernel
theorem dL_begins_721 : decode cL_begins 721 = .ok (.invokevirtual 13, 3) := by decide +kernel
theorem dL_begins_724 : decode cL_begins 724 = .ok (.iconst 3, 1) := by decide +kernel
theorem dL_begins_725 : decode cL_begins 725 = .ok (.aload_n 0, 1) := by decide +kernel
theorem dL_begins_726 : decode cL_begins 726 = .ok (.iconst 4, 1) := by decide +kernel
theorem dL_begins_727 : decode cL_begins 727 = .ok (.invokevirtual 13, 3) := by decide +kernel
theorem dL_begins_730 : decode cL_begins 730 = .ok (.imul, 1) := by decide +kernel
theorem dL_begins_731 : decode cL_begins 731 = .ok (.isub, 1) := by decide +kernel
theorem dL_begins_732 : decode cL_begins 732 = .ok (.iadd, 1) := by decide +kernel
theorem dL_begins_733 : decode cL_begins 733 = .ok (.if_icmp .ne 53, 3) := by decide +kernel
theorem dL_begins_736 : decode cL_begins 736 = .ok (.aload_n 0, 1) := by decide +kernel
theorem dL_begins_737 : decode cL_begins 737 = .ok (.invokevirtual 138, 3) := by decide +kernel
theorem dL_begins_740 : decode cL_begins 740 = .ok (.iconst 3, 1) := by decide +kernel
theorem dL_begins_741 : decode cL_begins 741 = .ok (.if_icmp .ne 45, 3) := by decide +kernel
theorem dL_begins_744 : decode cL_begins 744 = .ok (.aload_n 0, 1) := by decide +kernel
theorem dL_begins_745 : decode cL_begins 745 = .ok (.bipush 30, 2) := by decide +kernel
theorem dL_begins_747 : decode cL_begins 747 = .ok (.iconst 2, 1) := by decide +kernel
theorem dL_begins_748 : decode cL_begins 748 = .ok (.invokevirtual 25, 3) := by decide +kernel
theorem dL_begins_751 : decode cL_begins 751 = .ok (.bipush 8, 2) := by decide +kernel
theorem dL_begins_753 : decode cL_begins 753 = .ok (.if_icmp .ne 33, 3) := by decide +kernel
theorem dL_begins_756 : decode cL_begins 756 = .ok (.aload_n 0, 1) := by decide +kernel
theorem dL_begins_757 : decode cL_begins 757 = .ok (.invokevirtual 154, 3) := by decide +kernel
theorem dL_begins_760 : decode cL_begins 760 = .ok (.bipush 96, 2) := by decide +kernel
theorem dL_begins_762 : decode cL_begins 762 = .ok (.if_icmp .ne 24, 3) := by decide +kernel
theorem dL_begins_765 : decode cL_begins 765 = .ok (.aload_n 0, 1) := by decide +kernel
theorem dL_begins_766 : decode cL_begins 766 = .ok (.iconst 3, 1) := by decide +kernel
theorem dL_begins_767 : decode cL_begins 767 = .ok (.invokevirtual 13, 3) := by decide +kernel
theorem dL_begins_770 : decode cL_begins 770 = .ok (.ifCond .ne 16, 3) := by decide +kernel
theorem dL_begins_773 : decode cL_begins 773 = .ok (.aload_n 0, 1) := by decide +kernel
theorem dL_begins_774 : decode cL_begins 774 = .ok (.bipush 21, 2) := by decide +kernel
theorem dL_begins_776 : decode cL_begins 776 = .ok (.invokevirtual 13, 3) := by decide +kernel
theorem dL_begins_779 : decode cL_begins 779 = .ok (.ifCond .ne 7, 3) := by decide +kernel
theorem dL_begins_782 : decode cL_begins 782 = .ok (.iconst 1, 1) := by decide +kernel
theorem dL_begins_783 : decode cL_begins 783 = .ok (.goto 4, 3) := by decide +kernel
theorem dL_begins_786 : decode cL_begins 786 = .ok (.iconst 0, 1) := by decide +kernel
theorem dL_begins_787 : decode cL_begins 787 = .ok (.ireturn, 1) := by decide +kernel
theorem dL_known_0 : decode cL_known 0 = .ok (.new 14, 3) := by decide +kernel
theorem dL_known_3 : decode cL_known 3 = .ok (.dup, 1) := by decide +kernel
theorem dL_known_4 : decode cL_known 4 = .ok (.invokespecial 80, 3) := by decide +kernel
theorem dL_known_7 : decode cL_known 7 = .ok (.astore_n 0, 1) := by decide +kernel
theorem dL_known_8 : decode cL_known 8 = .ok (.aload_n 0, 1) := by decide +kernel
theorem dL_known_9 : decode cL_known 9 = .ok (.invokestatic 157, 3) := by decide +kernel
theorem dL_known_12 : decode cL_known 12 = .ok (.ifCond .eq 196, 3) := by decide +kernel
theorem dL_known_15 : decode cL_known 15 = .ok (.aload_n 0, 1) := by decide +kernel
theorem dL_known_16 : decode cL_known 16 = .ok (.bipush 26, 2) := by decide +kernel
theorem dL_known_18 : decode cL_known 18 = .ok (.invokevirtual 13, 3) := by decide +kernel
theorem dL_known_21 : decode cL_known 21 = .ok (.bipush (-96), 2) := by decide +kernel
theorem dL_known_23 : decode cL_known 23 = .ok (.if_icmp .ne 185, 3) := by decide +kernel
theorem dL_known_26 : decode cL_known 26 = .ok (.aload_n 0, 1) := by decide +kernel
theorem dL_known_27 : decode cL_known 27 = .ok (.bipush 14, 2) := by decide +kernel
theorem dL_known_29 : decode cL_known 29 = .ok (.iconst 0, 1) := by decide +kernel
theorem dL_known_30 : decode cL_known 30 = .ok (.iconst 1, 1) := by decide +kernel
theorem dL_known_31 : decode cL_known 31 = .ok (.iconst 5, 1) := by decide +kernel
theorem dL_known_32 : decode cL_known 32 = .ok (.invokevirtual 33, 3) := by decide +kernel
theorem dL_known_35 : decode cL_known 35 = .ok (.ifCond .ne 173, 3) := by decide +kernel
theorem dL_known_38 : decode cL_known 38 = .ok (.aload_n 0, 1) := by decide +kernel
theorem dL_known_39 : decode cL_known 39 = .ok (.bipush 16, 2) := by decide +kernel
theorem dL_known_41 : decode cL_known 41 = .ok (.iconst 1, 1) := by decide +kernel
theorem dL_known_42 : decode cL_known 42 = .ok (.iconst 0, 1) := by decide +kernel
theorem dL_known_43 : decode cL_known 43 = .ok (.iconst 3, 1) := by decide +kernel
theorem dL_known_44 : decode cL_known 44 = .ok (.invokevirtual 33, 3) := by decide +kernel
theorem dL_known_47 : decode cL_known 47 = .ok (.ifCond .ne 161, 3) := by decide +kernel
theorem dL_known_50 : decode cL_known 50 = .ok (.aload_n 0, 1) := by decide +kernel
theorem dL_known_51 : decode cL_known 51 = .ok (.bipush 8, 2) := by decide +kernel
theorem dL_known_53 : decode cL_known 53 = .ok (.iconst 0, 1) := by decide +kernel
theorem dL_known_54 : decode cL_known 54 = .ok (.iconst 2, 1) := by decide +kernel
theorem dL_known_55 : decode cL_known 55 = .ok (.iconst 0, 1) := by decide +kernel
theorem dL_known_56 : decode cL_known 56 = .ok (.invokevirtual 33, 3) := by decide +kernel
theorem dL_known_59 : decode cL_known 59 = .ok (.ifCond .ne 149, 3) := by decide +kernel
theorem dL_known_62 : decode cL_known 62 = .ok (.aload_n 0, 1) := by decide +kernel
theorem dL_known_63 : decode cL_known 63 = .ok (.bipush 8, 2) := by decide +kernel
theorem dL_known_65 : decode cL_known 65 = .ok (.bipush 22, 2) := by decide +kernel
theorem dL_known_67 : decode cL_known 67 = .ok (.invokevirtual 46, 3) := by decide +kernel
theorem dL_known_70 : decode cL_known 70 = .ok (.iconst 2, 1) := by decide +kernel
theorem dL_known_71 : decode cL_known 71 = .ok (.if_icmp .ne 137, 3) := by decide +kernel
theorem dL_known_74 : decode cL_known 74 = .ok (.aload_n 0, 1) := by decide +kernel
theorem dL_known_75 : decode cL_known 75 = .ok (.bipush 8, 2) := by decide +kernel
theorem dL_known_77 : decode cL_known 77 = .ok (.iconst 1, 1) := by decide +kernel
theorem dL_known_78 : decode cL_known 78 = .ok (.invokevirtual 46, 3) := by decide +kernel
theorem dL_known_81 : decode cL_known 81 = .ok (.iconst 1, 1) := by decide +kernel
theorem dL_known_82 : decode cL_known 82 = .ok (.if_icmp .ne 126, 3) := by decide +kernel
theorem dL_known_85 : decode cL_known 85 = .ok (.aload_n 0, 1) := by decide +kernel
theorem dL_known_86 : decode cL_known 86 = .ok (.bipush 8, 2) := by decide +kernel
theorem dL_known_88 : decode cL_known 88 = .ok (.iconst 1, 1) := by decide +kernel
theorem dL_known_89 : decode cL_known 89 = .ok (.invokevirtual 43, 3) := by decide +kernel
theorem dL_known_92 : decode cL_known 92 = .ok (.bipush 7, 2) := by decide +kernel
theorem dL_known_94 : decode cL_known 94 = .ok (.if_icmp .ne 114, 3) := by decide +kernel
theorem dL_known_97 : decode cL_known 97 = .ok (.aload_n 0, 1) := by decide +kernel
theorem dL_known_98 : decode cL_known 98 = .ok (.bipush 14, 2) := by decide +kernel
theorem dL_known_100 : decode cL_known 100 = .ok (.bipush 16, 2) := by decide +kernel
theorem dL_known_102 : decode cL_known 102 = .ok (.invokevirtual 43, 3) := by decide +kernel
theorem dL_known_105 : decode cL_known 105 = .ok (.ifCond .ne 103, 3) := by decide +kernel
theorem dL_known_108 : decode cL_known 108 = .ok (.aload_n 0, 1) := by decide +kernel
theorem dL_known_109 : decode cL_known 109 = .ok (.invokevirtual 144, 3) := by decide +kernel
theorem dL_known_112 : decode cL_known 112 = .ok (.sipush 520, 3) := by decide +kernel
theorem dL_known_115 : decode cL_known 115 = .ok (.if_icmp .ne 93, 3) := by decide +kernel
theorem dL_known_118 : decode cL_known 118 = .ok (.aload_n 0, 1) := by decide +kernel
theorem dL_known_119 : decode cL_known 119 = .ok (.iconst 1, 1) := by decide +kernel
theorem dL_known_120 : decode cL_known 120 = .ok (.invokevirtual 55, 3) := by decide +kernel
theorem dL_known_123 : decode cL_known 123 = .ok (.bipush 8, 2) := by decide +kernel
theorem dL_known_125 : decode cL_known 125 = .ok (.if_icmp .ne 83, 3) := by decide +kernel
theorem dL_known_128 : decode cL_known 128 = .ok (.aload_n 0, 1) := by decide +kernel
theorem dL_known_129 : decode cL_known 129 = .ok (.bipush 14, 2) := by decide +kernel
theorem dL_known_131 : decode cL_known 131 = .ok (.bipush 16, 2) := by decide +kernel
theorem dL_known_133 : decode cL_known 133 = .ok (.invokevirtual 40, 3) := by decide +kernel
theorem dL_known_136 : decode cL_known 136 = .ok (.iconst 2, 1) := by decide +kernel
theorem dL_known_137 : decode cL_known 137 = .ok (.if_icmp .ne 71, 3) := by decide +kernel
theorem dL_known_140 : decode cL_known 140 = .ok (.aload_n 0, 1) := by decide +kernel
theorem dL_known_141 : decode cL_known 141 = .ok (.bipush 16, 2) := by decide +kernel
theorem dL_known_143 : decode cL_known 143 = .ok (.iconst 2, 1) := by decide +kernel
theorem dL_known_144 : decode cL_known 144 = .ok (.invokevirtual 25, 3) := by decide +kernel
theorem dL_known_147 : decode cL_known 147 = .ok (.iconst 5, 1) := by decide +kernel
theorem dL_known_148 : decode cL_known 148 = .ok (.if_icmp .ne 60, 3) := by decide +kernel
theorem dL_known_151 : decode cL_known 151 = .ok (.aload_n 0, 1) := by decide +kernel
theorem dL_known_152 : decode cL_known 152 = .ok (.bipush 16, 2) := by decide +kernel
theorem dL_known_154 : decode cL_known 154 = .ok (.iconst 1, 1) := by decide +kernel
theorem dL_known_155 : decode cL_known 155 = .ok (.invokevirtual 25, 3) := by decide +kernel
theorem dL_known_158 : decode cL_known 158 = .ok (.iconst 1, 1) := by decide +kernel
theorem dL_known_159 : decode cL_known 159 = .ok (.if_icmp .ne 49, 3) := by decide +kernel
theorem dL_known_162 : decode cL_known 162 = .ok (.aload_n 0, 1) := by decide +kernel
theorem dL_known_163 : decode cL_known 163 = .ok (.iconst 1, 1) := by decide +kernel
theorem dL_known_164 : decode cL_known 164 = .ok (.invokevirtual 13, 3) := by decide +kernel
theorem dL_known_167 : decode cL_known 167 = .ok (.iconst 1, 1) := by decide +kernel
theorem dL_known_168 : decode cL_known 168 = .ok (.if_icmp .ne 40, 3) := by decide +kernel
theorem dL_known_171 : decode cL_known 171 = .ok (.aload_n 0, 1) := by decide +kernel
theorem dL_known_172 : decode cL_known 172 = .ok (.iconst 2, 1) := by decide +kernel
theorem dL_known_173 : decode cL_known 173 = .ok (.invokevirtual 13, 3) := by decide +kernel
theorem dL_known_176 : decode cL_known 176 = .ok (.ifCond .ne 32, 3) := by decide +kernel
theorem dL_known_179 : decode cL_known 179 = .ok (.aload_n 0, 1) := by decide +kernel
theorem dL_known_180 : decode cL_known 180 = .ok (.bipush 21, 2) := by decide +kernel
theorem dL_known_182 : decode cL_known 182 = .ok (.invokevirtual 13, 3) := by decide +kernel
theorem dL_known_185 : decode cL_known 185 = .ok (.ifCond .ne 23, 3) := by decide +kernel
theorem dL_known_188 : decode cL_known 188 = .ok (.aload_n 0, 1) := by decide +kernel
theorem dL_known_189 : decode cL_known 189 = .ok (.bipush 24, 2) := by decide +kernel
theorem dL_known_191 : decode cL_known 191 = .ok (.invokevirtual 13, 3) := by decide +kernel
theorem dL_known_194 : decode cL_known 194 = .ok (.iconst 2, 1) := by decide +kernel
theorem dL_known_195 : decode cL_known 195 = .ok (.if_icmp .ne 13, 3) := by decide +kernel
theorem dL_known_198 : decode cL_known 198 = .ok (.aload_n 0, 1) := by decide +kernel
theorem dL_known_199 : decode cL_known 199 = .ok (.bipush 22, 2) := by decide +kernel
theorem dL_known_201 : decode cL_known 201 = .ok (.invokevirtual 13, 3) := by decide +kernel
theorem dL_known_204 : decode cL_known 204 = .ok (.iconst 1, 1) := by decide +kernel
theorem dL_known_205 : decode cL_known 205 = .ok (.if_icmp .eq 5, 3) := by decide +kernel
theorem dL_known_208 : decode cL_known 208 = .ok (.iconst 0, 1) := by decide +kernel
theorem dL_known_209 : decode cL_known 209 = .ok (.ireturn, 1) := by decide +kernel
theorem dL_known_210 : decode cL_known 210 = .ok (.aload_n 0, 1) := by decide +kernel
theorem dL_known_211 : decode cL_known 211 = .ok (.bipush 16, 2) := by decide +kernel
theorem dL_known_213 : decode cL_known 213 = .ok (.bipush 17, 2) := by decide +kernel
theorem dL_known_215 : decode cL_known 215 = .ok (.invokevirtual 43, 3) := by decide +kernel
theorem dL_known_218 : decode cL_known 218 = .ok (.iconst 2, 1) := by decide +kernel
theorem dL_known_219 : decode cL_known 219 = .ok (.if_icmp .ne 116, 3) := by decide +kernel
theorem dL_known_222 : decode cL_known 222 = .ok (.aload_n 0, 1) := by decide +kernel
theorem dL_known_223 : decode cL_known 223 = .ok (.bipush 16, 2) := by decide +kernel
theorem dL_known_225 : decode cL_known 225 = .ok (.bipush 17, 2) := by decide +kernel
theorem dL_known_227 : decode cL_known 227 = .ok (.invokevirtual 40, 3) := by decide +kernel
theorem dL_known_230 : decode cL_known 230 = .ok (.bipush (-2), 2) := by decide +kernel
theorem dL_known_232 : decode cL_known 232 = .ok (.if_icmp .ne 103, 3) := by decide +kernel
theorem dL_known_235 : decode cL_known 235 = .ok (.aload_n 0, 1) := by decide +kernel
theorem dL_known_236 : decode cL_known 236 = .ok (.iconst 0, 1) := by decide +kernel
theorem dL_known_237 : decode cL_known 237 = .ok (.iconst 0, 1) := by decide +kernel
theorem dL_known_238 : decode cL_known 238 = .ok (.iconst 0, 1) := by decide +kernel
theorem dL_known_239 : decode cL_known 239 = .ok (.iconst 0, 1) := by decide +kernel
theorem dL_known_240 : decode cL_known 240 = .ok (.invokevirtual 33, 3) := by decide +kernel
theorem dL_known_243 : decode cL_known 243 = .ok (.bipush (-2), 2) := by decide +kernel
theorem dL_known_245 : decode cL_known 245 = .ok (.if_icmp .ne 90, 3) := by decide +kernel
theorem dL_known_248 : decode cL_known 248 = .ok (.aload_n 0, 1) := by decide +kernel
theorem dL_known_249 : decode cL_known 249 = .ok (.iconst 0, 1) := by decide +kernel
theorem dL_known_250 : decode cL_known 250 = .ok (.iconst 0, 1) := by decide +kernel
theorem dL_known_251 : decode cL_known 251 = .ok (.iconst 0, 1) := by decide +kernel
theorem dL_known_252 : decode cL_known 252 = .ok (.bipush 13, 2) := by decide +kernel
theorem dL_known_254 : decode cL_known 254 = .ok (.invokevirtual 33, 3) := by decide +kernel
theorem dL_known_257 : decode cL_known 257 = .ok (.iconst (-1), 1) := by decide +kernel
theorem dL_known_258 : decode cL_known 258 = .ok (.if_icmp .ne 77, 3) := by decide +kernel
theorem dL_known_261 : decode cL_known 261 = .ok (.aload_n 0, 1) := by decide +kernel
theorem dL_known_262 : decode cL_known 262 = .ok (.invokevirtual 151, 3) := by decide +kernel
theorem dL_known_265 : decode cL_known 265 = .ok (.bipush (-2), 2) := by decide +kernel
theorem dL_known_267 : decode cL_known 267 = .ok (.if_icmp .ne 68, 3) := by decide +kernel
theorem dL_known_270 : decode cL_known 270 = .ok (.aload_n 0, 1) := by decide +kernel
theorem dL_known_271 : decode cL_known 271 = .ok (.invokevirtual 141, 3) := by decide +kernel
theorem dL_known_274 : decode cL_known 274 = .ok (.ifCond .ne 61, 3) := by decide +kernel
theorem dL_known_277 : decode cL_known 277 = .ok (.aload_n 0, 1) := by decide +kernel
theorem dL_known_278 : decode cL_known 278 = .ok (.invokevirtual 144, 3) := by decide +kernel
theorem dL_known_281 : decode cL_known 281 = .ok (.bipush (-4), 2) := by decide +kernel
theorem dL_known_283 : decode cL_known 283 = .ok (.if_icmp .ne 52, 3) := by decide +kernel
theorem dL_known_286 : decode cL_known 286 = .ok (.aload_n 0, 1) := by decide +kernel
theorem dL_known_287 : decode cL_known 287 = .ok (.bipush 14, 2) := by decide +kernel
theorem dL_known_289 : decode cL_known 289 = .ok (.invokevirtual 37, 3) := by decide +kernel
theorem dL_known_292 : decode cL_known 292 = .ok (.iconst 5, 1) := by decide +kernel
theorem dL_known_293 : decode cL_known 293 = .ok (.if_icmp .ne 42, 3) := by decide +kernel
theorem dL_known_296 : decode cL_known 296 = .ok (.aload_n 0, 1) := by decide +kernel
theorem dL_known_297 : decode cL_known 297 = .ok (.bipush 14, 2) := by decide +kernel
theorem dL_known_299 : decode cL_known 299 = .ok (.invokevirtual 37, 3) := by decide +kernel
theorem dL_known_302 : decode cL_known 302 = .ok (.bipush 6, 2) := by decide +kernel
theorem dL_known_304 : decode cL_known 304 = .ok (.if_icmp .ne 31, 3) := by decide +kernel
theorem dL_known_307 : decode cL_known 307 = .ok (.aload_n 0, 1) := by decide +kernel
theorem dL_known_308 : decode cL_known 308 = .ok (.bipush 13, 2) := by decide +kernel
theorem dL_known_310 : decode cL_known 310 = .ok (.invokevirtual 37, 3) := by decide +kernel
theorem dL_known_313 : decode cL_known 313 = .ok (.bipush (-3), 2) := by decide +kernel
theorem dL_known_315 : decode cL_known 315 = .ok (.if_icmp .ne 20, 3) := by decide +kernel
theorem dL_known_318 : decode cL_known 318 = .ok (.aload_n 0, 1) := by decide +kernel
theorem dL_known_319 : decode cL_known 319 = .ok (.invokevirtual 154, 3) := by decide +kernel
theorem dL_known_322 : decode cL_known 322 = .ok (.bipush 96, 2) := by decide +kernel
theorem dL_known_324 : decode cL_known 324 = .ok (.if_icmp .ne 11, 3) := by decide +kernel
theorem dL_known_327 : decode cL_known 327 = .ok (.aload_n 0, 1) := by decide +kernel
theorem dL_known_328 : decode cL_known 328 = .ok (.iconst 1, 1) := by decide +kernel
theorem dL_known_329 : decode cL_known 329 = .ok (.invokevirtual 13, 3) := by decide +kernel
theorem dL_known_332 : decode cL_known 332 = .ok (.ifCond .eq 5, 3) := by decide +kernel
theorem dL_known_335 : decode cL_known 335 = .ok (.iconst 0, 1) := by decide +kernel
theorem dL_known_336 : decode cL_known 336 = .ok (.ireturn, 1) := by decide +kernel
theorem dL_known_337 : decode cL_known 337 = .ok (.aload_n 0, 1) := by decide +kernel
theorem dL_known_338 : decode cL_known 338 = .ok (.invokestatic 157, 3) := by decide +kernel
theorem dL_known_341 : decode cL_known 341 = .ok (.ifCond .eq 132, 3) := by decide +kernel
theorem dL_known_344 : decode cL_known 344 = .ok (.aload_n 0, 1) := by decide +kernel
theorem dL_known_345 : decode cL_known 345 = .ok (.bipush 31, 2) := by decide +kernel
theorem dL_known_347 : decode cL_known 347 = .ok (.iconst 0, 1) := by decide +kernel
theorem dL_known_348 : decode cL_known 348 = .ok (.iconst 4, 1) := by decide +kernel
theorem dL_known_349 : decode cL_known 349 = .ok (.iconst 3, 1) := by decide +kernel
theorem dL_known_350 : decode cL_known 350 = .ok (.invokevirtual 33, 3) := by decide +kernel
theorem dL_known_353 : decode cL_known 353 = .ok (.ifCond .ne 120, 3) := by decide +kernel
theorem dL_known_356 : decode cL_known 356 = .ok (.aload_n 0, 1) := by decide +kernel
theorem dL_known_357 : decode cL_known 357 = .ok (.iconst 1, 1) := by decide +kernel
theorem dL_known_358 : decode cL_known 358 = .ok (.iconst 1, 1) := by decide +kernel
theorem dL_known_359 : decode cL_known 359 = .ok (.iconst 4, 1) := by decide +kernel
theorem dL_known_360 : decode cL_known 360 = .ok (.iconst 1, 1) := by decide +kernel
theorem dL_known_361 : decode cL_known 361 = .ok (.invokevirtual 33, 3) := by decide +kernel
theorem dL_known_364 : decode cL_known 364 = .ok (.ifCond .ne 109, 3) := by decide +kernel
theorem dL_known_367 : decode cL_known 367 = .ok (.aload_n 0, 1) := by decide +kernel
theorem dL_known_368 : decode cL_known 368 = .ok (.iconst 0, 1) := by decide +kernel
theorem dL_known_369 : decode cL_known 369 = .ok (.invokevirtual 55, 3) := by decide +kernel
theorem dL_known_372 : decode cL_known 372 = .ok (.ifCond .ne 101, 3) := by decide +kernel
theorem dL_known_375 : decode cL_known 375 = .ok (.aload_n 0, 1) := by decide +kernel
theorem dL_known_376 : decode cL_known 376 = .ok (.invokevirtual 151, 3) := by decide +kernel
theorem dL_known_379 : decode cL_known 379 = .ok (.ifCond .ne 94, 3) := by decide +kernel
theorem dL_known_382 : decode cL_known 382 = .ok (.aload_n 0, 1) := by decide +kernel
theorem dL_known_383 : decode cL_known 383 = .ok (.iconst 0, 1) := by decide +kernel
theorem dL_known_384 : decode cL_known 384 = .ok (.invokevirtual 13, 3) := by decide +kernel
theorem dL_known_387 : decode cL_known 387 = .ok (.iconst 1, 1) := by decide +kernel
theorem dL_known_388 : decode cL_known 388 = .ok (.if_icmp .ne 85, 3) := by decide +kernel
theorem dL_known_391 : decode cL_known 391 = .ok (.aload_n 0, 1) := by decide +kernel
theorem dL_known_392 : decode cL_known 392 = .ok (.invokevirtual 151, 3) := by decide +kernel
theorem dL_known_395 : decode cL_known 395 = .ok (.iconst 1, 1) := by decide +kernel
theorem dL_known_396 : decode cL_known 396 = .ok (.if_icmp .ne 77, 3) := by decide +kernel
theorem dL_known_399 : decode cL_known 399 = .ok (.aload_n 0, 1) := by decide +kernel
theorem dL_known_400 : decode cL_known 400 = .ok (.iconst 1, 1) := by decide +kernel
theorem dL_known_401 : decode cL_known 401 = .ok (.invokevirtual 13, 3) := by decide +kernel
theorem dL_known_404 : decode cL_known 404 = .ok (.iconst 2, 1) := by decide +kernel
theorem dL_known_405 : decode cL_known 405 = .ok (.if_icmp .ne 68, 3) := by decide +kernel
theorem dL_known_408 : decode cL_known 408 = .ok (.aload_n 0, 1) := by decide +kernel
theorem dL_known_409 : decode cL_known 409 = .ok (.iconst 2, 1) := by decide +kernel
theorem dL_known_410 : decode cL_known 410 = .ok (.invokevirtual 13, 3) := by decide +kernel
theorem dL_known_413 : decode cL_known 413 = .ok (.ifCond .ne 60, 3) := by decide +kernel
theorem dL_known_416 : decode cL_known 416 = .ok (.aload_n 0, 1) := by decide +kernel
theorem dL_known_417 : decode cL_known 417 = .ok (.iconst 3, 1) := by decide +kernel
theorem dL_known_418 : decode cL_known 418 = .ok (.invokevirtual 13, 3) := by decide +kernel
theorem dL_known_421 : decode cL_known 421 = .ok (.iconst 2, 1) := by decide +kernel
theorem dL_known_422 : decode cL_known 422 = .ok (.if_icmp .ne 51, 3) := by decide +kernel
theorem dL_known_425 : decode cL_known 425 = .ok (.aload_n 0, 1) := by decide +kernel
theorem dL_known_426 : decode cL_known 426 = .ok (.invokevirtual 138, 3) := by decide +kernel
theorem dL_known_429 : decode cL_known 429 = .ok (.iconst 4, 1) := by decide +kernel
theorem dL_known_430 : decode cL_known 430 = .ok (.if_icmp .ne 43, 3) := by decide +kernel
theorem dL_known_433 : decode cL_known 433 = .ok (.aload_n 0, 1) := by decide +kernel
theorem dL_known_434 : decode cL_known 434 = .ok (.bipush 31, 2) := by decide +kernel
theorem dL_known_436 : decode cL_known 436 = .ok (.iconst 0, 1) := by decide +kernel
theorem dL_known_437 : decode cL_known 437 = .ok (.iconst 4, 1) := by decide +kernel
theorem dL_known_438 : decode cL_known 438 = .ok (.iconst 1, 1) := by decide +kernel
theorem dL_known_439 : decode cL_known 439 = .ok (.invokevirtual 33, 3) := by decide +kernel
theorem dL_known_442 : decode cL_known 442 = .ok (.iconst 1, 1) := by decide +kernel
theorem dL_known_443 : decode cL_known 443 = .ok (.if_icmp .ne 30, 3) := by decide +kernel
theorem dL_known_446 : decode cL_known 446 = .ok (.aload_n 0, 1) := by decide +kernel
theorem dL_known_447 : decode cL_known 447 = .ok (.invokevirtual 151, 3) := by decide +kernel
theorem dL_known_450 : decode cL_known 450 = .ok (.iconst 1, 1) := by decide +kernel
theorem dL_known_451 : decode cL_known 451 = .ok (.if_icmp .ne 22, 3) := by decide +kernel
theorem dL_known_454 : decode cL_known 454 = .ok (.aload_n 0, 1) := by decide +kernel
theorem dL_known_455 : decode cL_known 455 = .ok (.iconst 2, 1) := by decide +kernel
theorem dL_known_456 : decode cL_known 456 = .ok (.invokevirtual 13, 3) := by decide +kernel
theorem dL_known_459 : decode cL_known 459 = .ok (.bipush (-4), 2) := by decide +kernel
theorem dL_known_461 : decode cL_known 461 = .ok (.if_icmp .ne 12, 3) := by decide +kernel
theorem dL_known_464 : decode cL_known 464 = .ok (.aload_n 0, 1) := by decide +kernel
theorem dL_known_465 : decode cL_known 465 = .ok (.invokevirtual 154, 3) := by decide +kernel
theorem dL_known_468 : decode cL_known 468 = .ok (.bipush 96, 2) := by decide +kernel
theorem dL_known_470 : decode cL_known 470 = .ok (.if_icmp .eq 5, 3) := by decide +kernel
theorem dL_known_473 : decode cL_known 473 = .ok (.iconst 0, 1) := by decide +kernel
theorem dL_known_474 : decode cL_known 474 = .ok (.ireturn, 1) := by decide +kernel
theorem dL_known_475 : decode cL_known 475 = .ok (.aload_n 0, 1) := by decide +kernel
theorem dL_known_476 : decode cL_known 476 = .ok (.invokestatic 157, 3) := by decide +kernel
theorem dL_known_479 : decode cL_known 479 = .ok (.ifCond .eq 112, 3) := by decide +kernel
theorem dL_known_482 : decode cL_known 482 = .ok (.aload_n 0, 1) := by decide +kernel
theorem dL_known_483 : decode cL_known 483 = .ok (.bipush 25, 2) := by decide +kernel
theorem dL_known_485 : decode cL_known 485 = .ok (.iconst 0, 1) := by decide +kernel
theorem dL_known_486 : decode cL_known 486 = .ok (.iconst 4, 1) := by decide +kernel
theorem dL_known_487 : decode cL_known 487 = .ok (.iconst 2, 1) := by decide +kernel
theorem dL_known_488 : decode cL_known 488 = .ok (.invokevirtual 33, 3) := by decide +kernel
theorem dL_known_491 : decode cL_known 491 = .ok (.ifCond .ne 100, 3) := by decide +kernel
theorem dL_known_494 : decode cL_known 494 = .ok (.aload_n 0, 1) := by decide +kernel
theorem dL_known_495 : decode cL_known 495 = .ok (.bipush 25, 2) := by decide +kernel
theorem dL_known_497 : decode cL_known 497 = .ok (.iconst 3, 1) := by decide +kernel
theorem dL_known_498 : decode cL_known 498 = .ok (.invokevirtual 52, 3) := by decide +kernel
theorem dL_known_501 : decode cL_known 501 = .ok (.iconst 2, 1) := by decide +kernel
theorem dL_known_502 : decode cL_known 502 = .ok (.if_icmp .ne 89, 3) := by decide +kernel
theorem dL_known_505 : decode cL_known 505 = .ok (.aload_n 0, 1) := by decide +kernel
theorem dL_known_506 : decode cL_known 506 = .ok (.invokevirtual 141, 3) := by decide +kernel
theorem dL_known_509 : decode cL_known 509 = .ok (.iconst 1, 1) := by decide +kernel
theorem dL_known_510 : decode cL_known 510 = .ok (.if_icmp .ne 81, 3) := by decide +kernel
theorem dL_known_513 : decode cL_known 513 = .ok (.aload_n 0, 1) := by decide +kernel
theorem dL_known_514 : decode cL_known 514 = .ok (.bipush 25, 2) := by decide +kernel
theorem dL_known_516 : decode cL_known 516 = .ok (.bipush 31, 2) := by decide +kernel
theorem dL_known_518 : decode cL_known 518 = .ok (.invokevirtual 40, 3) := by decide +kernel
theorem dL_known_521 : decode cL_known 521 = .ok (.iconst 1, 1) := by decide +kernel
theorem dL_known_522 : decode cL_known 522 = .ok (.if_icmp .ne 69, 3) := by decide +kernel
theorem dL_known_525 : decode cL_known 525 = .ok (.aload_n 0, 1) := by decide +kernel
theorem dL_known_526 : decode cL_known 526 = .ok (.bipush 31, 2) := by decide +kernel
theorem dL_known_528 : decode cL_known 528 = .ok (.iconst 1, 1) := by decide +kernel
theorem dL_known_529 : decode cL_known 529 = .ok (.invokevirtual 25, 3) := by decide +kernel
theorem dL_known_532 : decode cL_known 532 = .ok (.iconst 1, 1) := by decide +kernel
theorem dL_known_533 : decode cL_known 533 = .ok (.if_icmp .ne 58, 3) := by decide +kernel
theorem dL_known_536 : decode cL_known 536 = .ok (.aload_n 0, 1) := by decide +kernel
theorem dL_known_537 : decode cL_known 537 = .ok (.bipush 31, 2) := by decide +kernel
theorem dL_known_539 : decode cL_known 539 = .ok (.iconst 2, 1) := by decide +kernel
theorem dL_known_540 : decode cL_known 540 = .ok (.invokevirtual 25, 3) := by decide +kernel
theorem dL_known_543 : decode cL_known 543 = .ok (.iconst 1, 1) := by decide +kernel
theorem dL_known_544 : decode cL_known 544 = .ok (.if_icmp .ne 47, 3) := by decide +kernel
theorem dL_known_547 : decode cL_known 547 = .ok (.aload_n 0, 1) := by decide +kernel
theorem dL_known_548 : decode cL_known 548 = .ok (.iconst 0, 1) := by decide +kernel
theorem dL_known_549 : decode cL_known 549 = .ok (.invokevirtual 13, 3) := by decide +kernel
theorem dL_known_552 : decode cL_known 552 = .ok (.iconst 1, 1) := by decide +kernel
theorem dL_known_553 : decode cL_known 553 = .ok (.if_icmp .ne 38, 3) := by decide +kernel
theorem dL_known_556 : decode cL_known 556 = .ok (.aload_n 0, 1) := by decide +kernel
theorem dL_known_557 : decode cL_known 557 = .ok (.invokevirtual 151, 3) := by decide +kernel
theorem dL_known_560 : decode cL_known 560 = .ok (.ifCond .ne 31, 3) := by decide +kernel
theorem dL_known_563 : decode cL_known 563 = .ok (.aload_n 0, 1) := by decide +kernel
theorem dL_known_564 : decode cL_known 564 = .ok (.iconst 0, 1) := by decide +kernel
theorem dL_known_565 : decode cL_known 565 = .ok (.invokevirtual 55, 3) := by decide +kernel
theorem dL_known_568 : decode cL_known 568 = .ok (.aload_n 0, 1) := by decide +kernel
theorem dL_known_569 : decode cL_known 569 = .ok (.bipush 31, 2) := by decide +kernel
theorem dL_known_571 : decode cL_known 571 = .ok (.iconst 4, 1) := by decide +kernel
theorem dL_known_572 : decode cL_known 572 = .ok (.invokevirtual 25, 3) := by decide +kernel
theorem dL_known_575 : decode cL_known 575 = .ok (.if_icmp .ne 16, 3) := by decide +kernel
theorem dL_known_578 : decode cL_known 578 = .ok (.aload_n 0, 1) := by decide +kernel
theorem dL_known_579 : decode cL_known 579 = .ok (.iconst 0, 1) := by decide +kernel
theorem dL_known_580 : decode cL_known 580 = .ok (.invokevirtual 55, 3) := by decide +kernel
theorem dL_known_583 : decode cL_known 583 = .ok (.iconst 3, 1) := by decide +kernel
theorem dL_known_584 : decode cL_known 584 = .ok (.if_icmp .ne 7, 3) := by decide +kernel
theorem dL_known_587 : decode cL_known 587 = .ok (.iconst 1, 1) := by decide +kernel
theorem dL_known_588 : decode cL_known 588 = .ok (.goto 4, 3) := by decide +kernel
theorem dL_known_591 : decode cL_known 591 = .ok (.iconst 0, 1) := by decide +kernel
theorem dL_known_592 : decode cL_known 592 = .ok (.ireturn, 1) := by decide +kernel
theorem dL_law_0 : decode cL_law 0 = .ok (.invokestatic 160, 3) := by decide +kernel
theorem dL_law_3 : decode cL_law 3 = .ok (.ifCond .eq 15, 3) := by decide +kernel
theorem dL_law_6 : decode cL_law 6 = .ok (.invokestatic 164, 3) := by decide +kernel
theorem dL_law_9 : decode cL_law 9 = .ok (.ifCond .eq 9, 3) := by decide +kernel
theorem dL_law_12 : decode cL_law 12 = .ok (.invokestatic 167, 3) := by decide +kernel
theorem dL_law_15 : decode cL_law 15 = .ok (.ifCond .ne 5, 3) := by decide +kernel
theorem dL_law_18 : decode cL_law 18 = .ok (.iconst 0, 1) := by decide +kernel
theorem dL_law_19 : decode cL_law 19 = .ok (.ireturn, 1) := by decide +kernel
theorem dL_law_20 : decode cL_law 20 = .ok (.new 14, 3) := by decide +kernel
theorem dL_law_23 : decode cL_law 23 = .ok (.dup, 1) := by decide +kernel
theorem dL_law_24 : decode cL_law 24 = .ok (.invokespecial 80, 3) := by decide +kernel
theorem dL_law_27 : decode cL_law 27 = .ok (.astore_n 1, 1) := by decide +kernel
theorem dL_law_28 : decode cL_law 28 = .ok (.bipush 48, 2) := by decide +kernel
theorem dL_law_30 : decode cL_law 30 = .ok (.newarray .long, 2) := by decide +kernel
theorem dL_law_32 : decode cL_law 32 = .ok (.astore_n 2, 1) := by decide +kernel
theorem dL_law_33 : decode cL_law 33 = .ok (.iconst 0, 1) := by decide +kernel
theorem dL_law_34 : decode cL_law 34 = .ok (.istore_n 3, 1) := by decide +kernel
theorem dL_law_35 : decode cL_law 35 = .ok (.iconst 0, 1) := by decide +kernel
theorem dL_law_36 : decode cL_law 36 = .ok (.istore 4, 2) := by decide +kernel
theorem dL_law_38 : decode cL_law 38 = .ok (.iload 4, 2) := by decide +kernel
theorem dL_law_40 : decode cL_law 40 = .ok (.bipush 40, 2) := by decide +kernel
theorem dL_law_42 : decode cL_law 42 = .ok (.if_icmp .ge 310, 3) := by decide +kernel
theorem dL_law_45 : decode cL_law 45 = .ok (.aload_n 0, 1) := by decide +kernel
theorem dL_law_46 : decode cL_law 46 = .ok (.iload 4, 2) := by decide +kernel
theorem dL_law_48 : decode cL_law 48 = .ok (.invokestatic 170, 3) := by decide +kernel
theorem dL_law_51 : decode cL_law 51 = .ok (.istore 5, 2) := by decide +kernel
theorem dL_law_53 : decode cL_law 53 = .ok (.iload 5, 2) := by decide +kernel
theorem dL_law_55 : decode cL_law 55 = .ok (.bipush 12, 2) := by decide +kernel
theorem dL_law_57 : decode cL_law 57 = .ok (.invokestatic 174, 3) := by decide +kernel
theorem dL_law_60 : decode cL_law 60 = .ok (.istore 6, 2) := by decide +kernel
theorem dL_law_62 : decode cL_law 62 = .ok (.aload_n 2, 1) := by decide +kernel
theorem dL_law_63 : decode cL_law 63 = .ok (.iload_n 3, 1) := by decide +kernel
theorem dL_law_64 : decode cL_law 64 = .ok (.aload_n 1, 1) := by decide +kernel
theorem dL_law_65 : decode cL_law 65 = .ok (.invokestatic 29, 3) := by decide +kernel
theorem dL_law_68 : decode cL_law 68 = .ok (.lastore, 1) := by decide +kernel
theorem dL_law_69 : decode cL_law 69 = .ok (.aload_n 1, 1) := by decide +kernel
theorem dL_law_70 : decode cL_law 70 = .ok (.aload_n 1, 1) := by decide +kernel
theorem dL_law_71 : decode cL_law 71 = .ok (.iconst 0, 1) := by decide +kernel
theorem dL_law_72 : decode cL_law 72 = .ok (.invokevirtual 13, 3) := by decide +kernel
theorem dL_law_75 : decode cL_law 75 = .ok (.invokevirtual 55, 3) := by decide +kernel
theorem dL_law_78 : decode cL_law 78 = .ok (.istore 7, 2) := by decide +kernel
theorem dL_law_80 : decode cL_law 80 = .ok (.iload 7, 2) := by decide +kernel
theorem dL_law_82 : decode cL_law 82 = .ok (.ifCond .le 24, 3) := by decide +kernel
theorem dL_law_85 : decode cL_law 85 = .ok (.aload_n 1, 1) := by decide +kernel
theorem dL_law_86 : decode cL_law 86 = .ok (.aload_n 1, 1) := by decide +kernel
theorem dL_law_87 : decode cL_law 87 = .ok (.iconst 0, 1) := by decide +kernel
theorem dL_law_88 : decode cL_law 88 = .ok (.invokevirtual 13, 3) := by decide +kernel
theorem dL_law_91 : decode cL_law 91 = .ok (.iload 5, 2) := by decide +kernel
theorem dL_law_93 : decode cL_law 93 = .ok (.iconst 4, 1) := by decide +kernel
theorem dL_law_94 : decode cL_law 94 = .ok (.ishr, 1) := by decide +kernel
theorem dL_law_95 : decode cL_law 95 = .ok (.iload 7, 2) := by decide +kernel
theorem dL_law_97 : decode cL_law 97 = .ok (.invokestatic 174, 3) := by decide +kernel
theorem dL_law_100 : decode cL_law 100 = .ok (.invokevirtual 58, 3) := by decide +kernel
theorem dL_law_103 : decode cL_law 103 = .ok (.goto 4, 3) := by decide +kernel
theorem dL_law_106 : decode cL_law 106 = .ok (.iconst 0, 1) := by decide +kernel
theorem dL_law_107 : decode cL_law 107 = .ok (.istore 8, 2) := by decide +kernel
theorem dL_law_109 : decode cL_law 109 = .ok (.iload 6, 2) := by decide +kernel
theorem dL_law_111 : decode cL_law 111 = .ok (.bipush 8, 2) := by decide +kernel
theorem dL_law_113 : decode cL_law 113 = .ok (.if_icmp .ge 20, 3) := by decide +kernel
theorem dL_law_116 : decode cL_law 116 = .ok (.aload_n 1, 1) := by decide +kernel
theorem dL_law_117 : decode cL_law 117 = .ok (.iload 8, 2) := by decide +kernel
theorem dL_law_119 : decode cL_law 119 = .ok (.bipush 36, 2) := by decide +kernel
theorem dL_law_121 : decode cL_law 121 = .ok (.idiv, 1) := by decide +kernel
theorem dL_law_122 : decode cL_law 122 = .ok (.iload 8, 2) := by decide +kernel
theorem dL_law_124 : decode cL_law 124 = .ok (.bipush 36, 2) := by decide +kernel
theorem dL_law_126 : decode cL_law 126 = .ok (.irem, 1) := by decide +kernel
theorem dL_law_127 : decode cL_law 127 = .ok (.invokevirtual 40, 3) := by decide +kernel
theorem dL_law_130 : decode cL_law 130 = .ok (.goto 131, 3) := by decide +kernel
theorem dL_law_133 : decode cL_law 133 = .ok (.iload 6, 2) := by decide +kernel
theorem dL_law_135 : decode cL_law 135 = .ok (.bipush 8, 2) := by decide +kernel
theorem dL_law_137 : decode cL_law 137 = .ok (.if_icmp .ne 47, 3) := by decide +kernel
theorem dL_law_140 : decode cL_law 140 = .ok (.aload_n 1, 1) := by decide +kernel
theorem dL_law_141 : decode cL_law 141 = .ok (.iload 5, 2) := by decide +kernel
theorem dL_law_143 : decode cL_law 143 = .ok (.iconst 4, 1) := by decide +kernel
theorem dL_law_144 : decode cL_law 144 = .ok (.ishr, 1) := by decide +kernel
theorem dL_law_145 : decode cL_law 145 = .ok (.bipush 36, 2) := by decide +kernel
theorem dL_law_147 : decode cL_law 147 = .ok (.invokestatic 174, 3) := by decide +kernel
theorem dL_law_150 : decode cL_law 150 = .ok (.iload 5, 2) := by decide +kernel
theorem dL_law_152 : decode cL_law 152 = .ok (.iconst 3, 1) := by decide +kernel
theorem dL_law_153 : decode cL_law 153 = .ok (.ishr, 1) := by decide +kernel
theorem dL_law_154 : decode cL_law 154 = .ok (.iconst 3, 1) := by decide +kernel
theorem dL_law_155 : decode cL_law 155 = .ok (.invokestatic 174, 3) := by decide +kernel
theorem dL_law_158 : decode cL_law 158 = .ok (.iconst 1, 1) := by decide +kernel
theorem dL_law_159 : decode cL_law 159 = .ok (.isub, 1) := by decide +kernel
theorem dL_law_160 : decode cL_law 160 = .ok (.iload 5, 2) := by decide +kernel
theorem dL_law_162 : decode cL_law 162 = .ok (.iconst 5, 1) := by decide +kernel
theorem dL_law_163 : decode cL_law 163 = .ok (.ishr, 1) := by decide +kernel
theorem dL_law_164 : decode cL_law 164 = .ok (.iconst 5, 1) := by decide +kernel
theorem dL_law_165 : decode cL_law 165 = .ok (.invokestatic 174, 3) := by decide +kernel
theorem dL_law_168 : decode cL_law 168 = .ok (.iload 5, 2) := by decide +kernel
theorem dL_law_170 : decode cL_law 170 = .ok (.bipush 6, 2) := by decide +kernel
theorem dL_law_172 : decode cL_law 172 = .ok (.ishr, 1) := by decide +kernel
theorem dL_law_173 : decode cL_law 173 = .ok (.bipush 13, 2) := by decide +kernel
theorem dL_law_175 : decode cL_law 175 = .ok (.invokestatic 174, 3) := by decide +kernel
theorem dL_law_178 : decode cL_law 178 = .ok (.invokevirtual 33, 3) := by decide +kernel
theorem dL_law_181 : decode cL_law 181 = .ok (.goto 80, 3) := by decide +kernel
theorem dL_law_184 : decode cL_law 184 = .ok (.iload 6, 2) := by decide +kernel
theorem dL_law_186 : decode cL_law 186 = .ok (.bipush 9, 2) := by decide +kernel
theorem dL_law_188 : decode cL_law 188 = .ok (.if_icmp .ne 27, 3) := by decide +kernel
theorem dL_law_191 : decode cL_law 191 = .ok (.aload_n 1, 1) := by decide +kernel
theorem dL_law_192 : decode cL_law 192 = .ok (.iload 5, 2) := by decide +kernel
theorem dL_law_194 : decode cL_law 194 = .ok (.iconst 4, 1) := by decide +kernel
theorem dL_law_195 : decode cL_law 195 = .ok (.ishr, 1) := by decide +kernel
theorem dL_law_196 : decode cL_law 196 = .ok (.iconst 3, 1) := by decide +kernel
theorem dL_law_197 : decode cL_law 197 = .ok (.invokestatic 174, 3) := by decide +kernel
theorem dL_law_200 : decode cL_law 200 = .ok (.iload 5, 2) := by decide +kernel
theorem dL_law_202 : decode cL_law 202 = .ok (.iconst 5, 1) := by decide +kernel
theorem dL_law_203 : decode cL_law 203 = .ok (.ishr, 1) := by decide +kernel
theorem dL_law_204 : decode cL_law 204 = .ok (.bipush 13, 2) := by decide +kernel
theorem dL_law_206 : decode cL_law 206 = .ok (.invokestatic 174, 3) := by decide +kernel
theorem dL_law_209 : decode cL_law 209 = .ok (.invokevirtual 64, 3) := by decide +kernel
theorem dL_law_212 : decode cL_law 212 = .ok (.goto 49, 3) := by decide +kernel
theorem dL_law_215 : decode cL_law 215 = .ok (.iload 6, 2) := by decide +kernel
theorem dL_law_217 : decode cL_law 217 = .ok (.bipush 10, 2) := by decide +kernel
theorem dL_law_219 : decode cL_law 219 = .ok (.if_icmp .ne 19, 3) := by decide +kernel
theorem dL_law_222 : decode cL_law 222 = .ok (.aload_n 1, 1) := by decide +kernel
theorem dL_law_223 : decode cL_law 223 = .ok (.iload 5, 2) := by decide +kernel
theorem dL_law_225 : decode cL_law 225 = .ok (.iconst 4, 1) := by decide +kernel
theorem dL_law_226 : decode cL_law 226 = .ok (.ishr, 1) := by decide +kernel
theorem dL_law_227 : decode cL_law 227 = .ok (.bipush 36, 2) := by decide +kernel
theorem dL_law_229 : decode cL_law 229 = .ok (.invokestatic 174, 3) := by decide +kernel
theorem dL_law_232 : decode cL_law 232 = .ok (.invokevirtual 37, 3) := by decide +kernel
theorem dL_law_235 : decode cL_law 235 = .ok (.goto 26, 3) := by decide +kernel
theorem dL_law_238 : decode cL_law 238 = .ok (.iload 5, 2) := by decide +kernel
theorem dL_law_240 : decode cL_law 240 = .ok (.iconst 4, 1) := by decide +kernel
theorem dL_law_241 : decode cL_law 241 = .ok (.ishr, 1) := by decide +kernel
theorem dL_law_242 : decode cL_law 242 = .ok (.bipush 6, 2) := by decide +kernel
theorem dL_law_244 : decode cL_law 244 = .ok (.invokestatic 174, 3) := by decide +kernel
theorem dL_law_247 : decode cL_law 247 = .ok (.ifCond .ne 10, 3) := by decide +kernel
theorem dL_law_250 : decode cL_law 250 = .ok (.aload_n 1, 1) := by decide +kernel
theorem dL_law_251 : decode cL_law 251 = .ok (.invokevirtual 154, 3) := by decide +kernel
theorem dL_law_254 : decode cL_law 254 = .ok (.goto 7, 3) := by decide +kernel
theorem dL_law_257 : decode cL_law 257 = .ok (.aload_n 1, 1) := by decide +kernel
theorem dL_law_258 : decode cL_law 258 = .ok (.invokevirtual 151, 3) := by decide +kernel
theorem dL_law_261 : decode cL_law 261 = .ok (.istore 9, 2) := by decide +kernel
theorem dL_law_263 : decode cL_law 263 = .ok (.iload_n 3, 1) := by decide +kernel
theorem dL_law_264 : decode cL_law 264 = .ok (.iload 9, 2) := by decide +kernel
theorem dL_law_266 : decode cL_law 266 = .ok (.ifCond .lt 7, 3) := by decide +kernel
theorem dL_law_269 : decode cL_law 269 = .ok (.iconst 1, 1) := by decide +kernel
theorem dL_law_270 : decode cL_law 270 = .ok (.goto 4, 3) := by decide +kernel
theorem dL_law_273 : decode cL_law 273 = .ok (.iconst 0, 1) := by decide +kernel
theorem dL_law_274 : decode cL_law 274 = .ok (.iadd, 1) := by decide +kernel
theorem dL_law_275 : decode cL_law 275 = .ok (.istore_n 3, 1) := by decide +kernel
theorem dL_law_276 : decode cL_law 276 = .ok (.iload 9, 2) := by decide +kernel
theorem dL_law_278 : decode cL_law 278 = .ok (.ifCond .ge 16, 3) := by decide +kernel
theorem dL_law_281 : decode cL_law 281 = .ok (.aload_n 1, 1) := by decide +kernel
theorem dL_law_282 : decode cL_law 282 = .ok (.invokestatic 29, 3) := by decide +kernel
theorem dL_law_285 : decode cL_law 285 = .ok (.aload_n 2, 1) := by decide +kernel
theorem dL_law_286 : decode cL_law 286 = .ok (.iload_n 3, 1) := by decide +kernel
theorem dL_law_287 : decode cL_law 287 = .ok (.laload, 1) := by decide +kernel
theorem dL_law_288 : decode cL_law 288 = .ok (.lcmp, 1) := by decide +kernel
theorem dL_law_289 : decode cL_law 289 = .ok (.ifCond .eq 5, 3) := by decide +kernel
theorem dL_law_292 : decode cL_law 292 = .ok (.iconst 0, 1) := by decide +kernel
theorem dL_law_293 : decode cL_law 293 = .ok (.ireturn, 1) := by decide +kernel
theorem dL_law_294 : decode cL_law 294 = .ok (.aload_n 1, 1) := by decide +kernel
theorem dL_law_295 : decode cL_law 295 = .ok (.bipush 20, 2) := by decide +kernel
theorem dL_law_297 : decode cL_law 297 = .ok (.invokevirtual 13, 3) := by decide +kernel
theorem dL_law_300 : decode cL_law 300 = .ok (.aload_n 1, 1) := by decide +kernel
theorem dL_law_301 : decode cL_law 301 = .ok (.bipush 21, 2) := by decide +kernel
theorem dL_law_303 : decode cL_law 303 = .ok (.invokevirtual 13, 3) := by decide +kernel
theorem dL_law_306 : decode cL_law 306 = .ok (.iadd, 1) := by decide +kernel
theorem dL_law_307 : decode cL_law 307 = .ok (.aload_n 1, 1) := by decide +kernel
theorem dL_law_308 : decode cL_law 308 = .ok (.bipush 22, 2) := by decide +kernel
theorem dL_law_310 : decode cL_law 310 = .ok (.invokevirtual 13, 3) := by decide +kernel
theorem dL_law_313 : decode cL_law 313 = .ok (.iadd, 1) := by decide +kernel
theorem dL_law_314 : decode cL_law 314 = .ok (.aload_n 1, 1) := by decide +kernel
theorem dL_law_315 : decode cL_law 315 = .ok (.bipush 26, 2) := by decide +kernel
theorem dL_law_317 : decode cL_law 317 = .ok (.invokevirtual 13, 3) := by decide +kernel
theorem dL_law_320 : decode cL_law 320 = .ok (.iadd, 1) := by decide +kernel
theorem dL_law_321 : decode cL_law 321 = .ok (.aload_n 1, 1) := by decide +kernel
theorem dL_law_322 : decode cL_law 322 = .ok (.bipush 23, 2) := by decide +kernel
theorem dL_law_324 : decode cL_law 324 = .ok (.invokevirtual 13, 3) := by decide +kernel
theorem dL_law_327 : decode cL_law 327 = .ok (.aload_n 1, 1) := by decide +kernel
theorem dL_law_328 : decode cL_law 328 = .ok (.bipush 24, 2) := by decide +kernel
theorem dL_law_330 : decode cL_law 330 = .ok (.invokevirtual 13, 3) := by decide +kernel
theorem dL_law_333 : decode cL_law 333 = .ok (.iadd, 1) := by decide +kernel
theorem dL_law_334 : decode cL_law 334 = .ok (.aload_n 1, 1) := by decide +kernel
theorem dL_law_335 : decode cL_law 335 = .ok (.bipush 25, 2) := by decide +kernel
theorem dL_law_337 : decode cL_law 337 = .ok (.invokevirtual 13, 3) := by decide +kernel
theorem dL_law_340 : decode cL_law 340 = .ok (.iadd, 1) := by decide +kernel
theorem dL_law_341 : decode cL_law 341 = .ok (.if_icmp .eq 5, 3) := by decide +kernel
theorem dL_law_344 : decode cL_law 344 = .ok (.iconst 0, 1) := by decide +kernel
theorem dL_law_345 : decode cL_law 345 = .ok (.ireturn, 1) := by decide +kernel
theorem dL_law_346 : decode cL_law 346 = .ok (.iinc 4 1, 3) := by decide +kernel
theorem dL_law_349 : decode cL_law 349 = .ok (.goto (-311), 3) := by decide +kernel
theorem dL_law_352 : decode cL_law 352 = .ok (.aload_n 1, 1) := by decide +kernel
theorem dL_law_353 : decode cL_law 353 = .ok (.invokestatic 147, 3) := by decide +kernel
theorem dL_law_356 : decode cL_law 356 = .ok (.ifCond .ne 5, 3) := by decide +kernel
theorem dL_law_359 : decode cL_law 359 = .ok (.iconst 0, 1) := by decide +kernel
theorem dL_law_360 : decode cL_law 360 = .ok (.ireturn, 1) := by decide +kernel
theorem dL_law_361 : decode cL_law 361 = .ok (.iconst 1, 1) := by decide +kernel
theorem dL_law_362 : decode cL_law 362 = .ok (.istore 4, 2) := by decide +kernel
theorem dL_law_364 : decode cL_law 364 = .ok (.iload 4, 2) := by decide +kernel
theorem dL_law_366 : decode cL_law 366 = .ok (.iconst 5, 1) := by decide +kernel
theorem dL_law_367 : decode cL_law 367 = .ok (.if_icmp .gt 56, 3) := by decide +kernel
theorem dL_law_370 : decode cL_law 370 = .ok (.iload 4, 2) := by decide +kernel
theorem dL_law_372 : decode cL_law 372 = .ok (.iload_n 3, 1) := by decide +kernel
theorem dL_law_373 : decode cL_law 373 = .ok (.if_icmp .gt 50, 3) := by decide +kernel
theorem dL_law_376 : decode cL_law 376 = .ok (.aload_n 1, 1) := by decide +kernel
theorem dL_law_377 : decode cL_law 377 = .ok (.invokevirtual 138, 3) := by decide +kernel
theorem dL_law_380 : decode cL_law 380 = .ok (.istore 5, 2) := by decide +kernel
theorem dL_law_382 : decode cL_law 382 = .ok (.iload 5, 2) := by decide +kernel
theorem dL_law_384 : decode cL_law 384 = .ok (.ifCond .lt 31, 3) := by decide +kernel
theorem dL_law_387 : decode cL_law 387 = .ok (.aload_n 1, 1) := by decide +kernel
theorem dL_law_388 : decode cL_law 388 = .ok (.invokestatic 29, 3) := by decide +kernel
theorem dL_law_391 : decode cL_law 391 = .ok (.aload_n 2, 1) := by decide +kernel
theorem dL_law_392 : decode cL_law 392 = .ok (.iload_n 3, 1) := by decide +kernel
theorem dL_law_393 : decode cL_law 393 = .ok (.iload 4, 2) := by decide +kernel
theorem dL_law_395 : decode cL_law 395 = .ok (.isub, 1) := by decide +kernel
theorem dL_law_396 : decode cL_law 396 = .ok (.laload, 1) := by decide +kernel
theorem dL_law_397 : decode cL_law 397 = .ok (.lcmp, 1) := by decide +kernel
theorem dL_law_398 : decode cL_law 398 = .ok (.ifCond .ne 17, 3) := by decide +kernel
theorem dL_law_401 : decode cL_law 401 = .ok (.iload_n 3, 1) := by decide +kernel
theorem dL_law_402 : decode cL_law 402 = .ok (.iconst 4, 1) := by decide +kernel
theorem dL_law_403 : decode cL_law 403 = .ok (.if_icmp .le 14, 3) := by decide +kernel
theorem dL_law_406 : decode cL_law 406 = .ok (.iload 5, 2) := by decide +kernel
theorem dL_law_408 : decode cL_law 408 = .ok (.iconst 5, 1) := by decide +kernel
theorem dL_law_409 : decode cL_law 409 = .ok (.iload 4, 2) := by decide +kernel
theorem dL_law_411 : decode cL_law 411 = .ok (.isub, 1) := by decide +kernel
theorem dL_law_412 : decode cL_law 412 = .ok (.if_icmp .eq 5, 3) := by decide +kernel
theorem dL_law_415 : decode cL_law 415 = .ok (.iconst 0, 1) := by decide +kernel
theorem dL_law_416 : decode cL_law 416 = .ok (.ireturn, 1) := by decide +kernel
theorem dL_law_417 : decode cL_law 417 = .ok (.iinc 4 1, 3) := by decide +kernel
theorem dL_law_420 : decode cL_law 420 = .ok (.goto (-56), 3) := by decide +kernel
theorem dL_law_423 : decode cL_law 423 = .ok (.iload_n 3, 1) := by decide +kernel
theorem dL_law_424 : decode cL_law 424 = .ok (.iconst 5, 1) := by decide +kernel
theorem dL_law_425 : decode cL_law 425 = .ok (.if_icmp .lt 12, 3) := by decide +kernel
theorem dL_law_428 : decode cL_law 428 = .ok (.aload_n 1, 1) := by decide +kernel
theorem dL_law_429 : decode cL_law 429 = .ok (.invokevirtual 138, 3) := by decide +kernel
theorem dL_law_432 : decode cL_law 432 = .ok (.bipush (-2), 2) := by decide +kernel
theorem dL_law_434 : decode cL_law 434 = .ok (.if_icmp .ne 7, 3) := by decide +kernel
theorem dL_law_437 : decode cL_law 437 = .ok (.iconst 1, 1) := by decide +kernel
theorem dL_law_438 : decode cL_law 438 = .ok (.goto 4, 3) := by decide +kernel
theorem dL_law_441 : decode cL_law 441 = .ok (.iconst 0, 1) := by decide +kernel
theorem dL_law_442 : decode cL_law 442 = .ok (.ireturn, 1) := by decide +kernel
abbrev vwCl : List vw_C := [(RX0, TX0, 4), (RX1, TX1, 15), (RX2, TX2, 8)]
