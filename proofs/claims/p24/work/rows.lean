section
-- ===== PART A: goes FIRST, ahead of the names: the tables' words, and 'selects' of the private methods out of them =====
/-- a private method of a class that the tables say can be made, by its rows of tables_1 -/
def lw_okq (q : MethodName × Nat) : Prop := (q.1.cls ≠ "java/lang/invoke/MethodHandle" ∧ q.1.cls ≠ "java/lang/invoke/VarHandle") ∧ Cond.instantiable q.1.cls q.2 ∈ tables_1 ∧ Cond.privateMethod q.1 ∈ tables_1 ∧ Cond.instanceMethod q.1 ∈ tables_1
theorem lw_p0 : lw_okq (⟨"ClockworkChess$Game", "begin", "()V"⟩, 15) := ⟨⟨by decide +kernel, by decide +kernel⟩, List.mem_of_getElem? (i := 16) (by decide +kernel), List.mem_of_getElem? (i := 95) (by decide +kernel), List.mem_of_getElem? (i := 96) (by decide +kernel)⟩
theorem lw_p1 : lw_okq (⟨"ClockworkChess$Board", "arrange", "(I)V"⟩, 4) := ⟨⟨by decide +kernel, by decide +kernel⟩, List.mem_of_getElem? (i := 22) (by decide +kernel), List.mem_of_getElem? (i := 99) (by decide +kernel), List.mem_of_getElem? (i := 100) (by decide +kernel)⟩
theorem lw_p2 : lw_okq (⟨"ClockworkChess$Board", "empty", "(I)V"⟩, 4) := ⟨⟨by decide +kernel, by decide +kernel⟩, List.mem_of_getElem? (i := 22) (by decide +kernel), List.mem_of_getElem? (i := 103) (by decide +kernel), List.mem_of_getElem? (i := 104) (by decide +kernel)⟩
theorem lw_p3 : lw_okq (⟨"ClockworkChess$Board", "place", "(IIII)V"⟩, 4) := ⟨⟨by decide +kernel, by decide +kernel⟩, List.mem_of_getElem? (i := 22) (by decide +kernel), List.mem_of_getElem? (i := 107) (by decide +kernel), List.mem_of_getElem? (i := 108) (by decide +kernel)⟩
theorem lw_p4 : lw_okq (⟨"ClockworkChess$Board", "markTower", "(IZ)V"⟩, 4) := ⟨⟨by decide +kernel, by decide +kernel⟩, List.mem_of_getElem? (i := 22) (by decide +kernel), List.mem_of_getElem? (i := 114) (by decide +kernel), List.mem_of_getElem? (i := 115) (by decide +kernel)⟩
theorem lw_p5 : lw_okq (⟨"ClockworkChess$Board", "springsInAll", "()I"⟩, 4) := ⟨⟨by decide +kernel, by decide +kernel⟩, List.mem_of_getElem? (i := 22) (by decide +kernel), List.mem_of_getElem? (i := 122) (by decide +kernel), List.mem_of_getElem? (i := 123) (by decide +kernel)⟩
theorem lw_p6 : lw_okq (⟨"ClockworkChess$Board", "springsOf", "(I)I"⟩, 4) := ⟨⟨by decide +kernel, by decide +kernel⟩, List.mem_of_getElem? (i := 22) (by decide +kernel), List.mem_of_getElem? (i := 126) (by decide +kernel), List.mem_of_getElem? (i := 127) (by decide +kernel)⟩
theorem lw_p7 : lw_okq (⟨"ClockworkChess", "record", "()V"⟩, 8) := ⟨⟨by decide +kernel, by decide +kernel⟩, List.mem_of_getElem? (i := 8) (by decide +kernel), List.mem_of_getElem? (i := 160) (by decide +kernel), List.mem_of_getElem? (i := 161) (by decide +kernel)⟩
theorem lw_p8 : lw_okq (⟨"ClockworkChess", "stateAt", "(I)LClockworkChess$Game;"⟩, 8) := ⟨⟨by decide +kernel, by decide +kernel⟩, List.mem_of_getElem? (i := 8) (by decide +kernel), List.mem_of_getElem? (i := 164) (by decide +kernel), List.mem_of_getElem? (i := 165) (by decide +kernel)⟩
theorem lw_p9 : lw_okq (⟨"ClockworkChess$Game", "copyFrom", "(LClockworkChess$Game;)V"⟩, 15) := ⟨⟨by decide +kernel, by decide +kernel⟩, List.mem_of_getElem? (i := 16) (by decide +kernel), List.mem_of_getElem? (i := 168) (by decide +kernel), List.mem_of_getElem? (i := 169) (by decide +kernel)⟩
theorem lw_p10 : lw_okq (⟨"ClockworkChess$Board", "copyFrom", "(LClockworkChess$Board;)V"⟩, 4) := ⟨⟨by decide +kernel, by decide +kernel⟩, List.mem_of_getElem? (i := 22) (by decide +kernel), List.mem_of_getElem? (i := 172) (by decide +kernel), List.mem_of_getElem? (i := 173) (by decide +kernel)⟩
theorem lw_p11 : lw_okq (⟨"ClockworkChess$Game", "setting", "(I)I"⟩, 15) := ⟨⟨by decide +kernel, by decide +kernel⟩, List.mem_of_getElem? (i := 16) (by decide +kernel), List.mem_of_getElem? (i := 187) (by decide +kernel), List.mem_of_getElem? (i := 188) (by decide +kernel)⟩
theorem lw_p12 : lw_okq (⟨"ClockworkChess$Game", "changeSetting", "(II)V"⟩, 15) := ⟨⟨by decide +kernel, by decide +kernel⟩, List.mem_of_getElem? (i := 16) (by decide +kernel), List.mem_of_getElem? (i := 191) (by decide +kernel), List.mem_of_getElem? (i := 192) (by decide +kernel)⟩
theorem lw_p13 : lw_okq (⟨"ClockworkChess$Game", "cutSprings", "()V"⟩, 15) := ⟨⟨by decide +kernel, by decide +kernel⟩, List.mem_of_getElem? (i := 16) (by decide +kernel), List.mem_of_getElem? (i := 195) (by decide +kernel), List.mem_of_getElem? (i := 196) (by decide +kernel)⟩
theorem lw_p14 : lw_okq (⟨"ClockworkChess$Board", "springOn", "(I)I"⟩, 4) := ⟨⟨by decide +kernel, by decide +kernel⟩, List.mem_of_getElem? (i := 22) (by decide +kernel), List.mem_of_getElem? (i := 199) (by decide +kernel), List.mem_of_getElem? (i := 200) (by decide +kernel)⟩
theorem lw_p15 : lw_okq (⟨"ClockworkChess$Board", "changeSpring", "(II)V"⟩, 4) := ⟨⟨by decide +kernel, by decide +kernel⟩, List.mem_of_getElem? (i := 22) (by decide +kernel), List.mem_of_getElem? (i := 203) (by decide +kernel), List.mem_of_getElem? (i := 204) (by decide +kernel)⟩
def lw_privs_1 : List (MethodName × Nat) := [(⟨"ClockworkChess$Game", "begin", "()V"⟩, 15), (⟨"ClockworkChess$Board", "arrange", "(I)V"⟩, 4), (⟨"ClockworkChess$Board", "empty", "(I)V"⟩, 4), (⟨"ClockworkChess$Board", "place", "(IIII)V"⟩, 4), (⟨"ClockworkChess$Board", "markTower", "(IZ)V"⟩, 4), (⟨"ClockworkChess$Board", "springsInAll", "()I"⟩, 4), (⟨"ClockworkChess$Board", "springsOf", "(I)I"⟩, 4), (⟨"ClockworkChess", "record", "()V"⟩, 8), (⟨"ClockworkChess", "stateAt", "(I)LClockworkChess$Game;"⟩, 8), (⟨"ClockworkChess$Game", "copyFrom", "(LClockworkChess$Game;)V"⟩, 15), (⟨"ClockworkChess$Board", "copyFrom", "(LClockworkChess$Board;)V"⟩, 4), (⟨"ClockworkChess$Game", "setting", "(I)I"⟩, 15), (⟨"ClockworkChess$Game", "changeSetting", "(II)V"⟩, 15), (⟨"ClockworkChess$Game", "cutSprings", "()V"⟩, 15), (⟨"ClockworkChess$Board", "springOn", "(I)I"⟩, 4), (⟨"ClockworkChess$Board", "changeSpring", "(II)V"⟩, 4)]
theorem lw_r1 : ∀ q ∈ lw_privs_1, lw_okq q := List.forall_mem_cons.mpr ⟨lw_p0, List.forall_mem_cons.mpr ⟨lw_p1, List.forall_mem_cons.mpr ⟨lw_p2, List.forall_mem_cons.mpr ⟨lw_p3, List.forall_mem_cons.mpr ⟨lw_p4, List.forall_mem_cons.mpr ⟨lw_p5, List.forall_mem_cons.mpr ⟨lw_p6, List.forall_mem_cons.mpr ⟨lw_p7, List.forall_mem_cons.mpr ⟨lw_p8, List.forall_mem_cons.mpr ⟨lw_p9, List.forall_mem_cons.mpr ⟨lw_p10, List.forall_mem_cons.mpr ⟨lw_p11, List.forall_mem_cons.mpr ⟨lw_p12, List.forall_mem_cons.mpr ⟨lw_p13, List.forall_mem_cons.mpr ⟨lw_p14, List.forall_mem_cons.mpr ⟨lw_p15, fun _ h => absurd h List.not_mem_nil⟩⟩⟩⟩⟩⟩⟩⟩⟩⟩⟩⟩⟩⟩⟩⟩
theorem lw_p16 : lw_okq (⟨"ClockworkChess$Game", "isOver", "()Z"⟩, 15) := ⟨⟨by decide +kernel, by decide +kernel⟩, List.mem_of_getElem? (i := 16) (by decide +kernel), List.mem_of_getElem? (i := 215) (by decide +kernel), List.mem_of_getElem? (i := 216) (by decide +kernel)⟩
theorem lw_p17 : lw_okq (⟨"ClockworkChess$Board", "hasPiece", "(I)Z"⟩, 4) := ⟨⟨by decide +kernel, by decide +kernel⟩, List.mem_of_getElem? (i := 22) (by decide +kernel), List.mem_of_getElem? (i := 219) (by decide +kernel), List.mem_of_getElem? (i := 220) (by decide +kernel)⟩
theorem lw_p18 : lw_okq (⟨"ClockworkChess$Board", "sideOn", "(I)I"⟩, 4) := ⟨⟨by decide +kernel, by decide +kernel⟩, List.mem_of_getElem? (i := 22) (by decide +kernel), List.mem_of_getElem? (i := 223) (by decide +kernel), List.mem_of_getElem? (i := 224) (by decide +kernel)⟩
theorem lw_p19 : lw_okq (⟨"ClockworkChess$Game", "putInstead", "(IIII)V"⟩, 15) := ⟨⟨by decide +kernel, by decide +kernel⟩, List.mem_of_getElem? (i := 16) (by decide +kernel), List.mem_of_getElem? (i := 227) (by decide +kernel), List.mem_of_getElem? (i := 228) (by decide +kernel)⟩
theorem lw_p20 : lw_okq (⟨"ClockworkChess$Board", "isTower", "(I)Z"⟩, 4) := ⟨⟨by decide +kernel, by decide +kernel⟩, List.mem_of_getElem? (i := 22) (by decide +kernel), List.mem_of_getElem? (i := 237) (by decide +kernel), List.mem_of_getElem? (i := 238) (by decide +kernel)⟩
theorem lw_p21 : lw_okq (⟨"ClockworkChess$Board", "towersInAll", "()I"⟩, 4) := ⟨⟨by decide +kernel, by decide +kernel⟩, List.mem_of_getElem? (i := 22) (by decide +kernel), List.mem_of_getElem? (i := 241) (by decide +kernel), List.mem_of_getElem? (i := 242) (by decide +kernel)⟩
theorem lw_p22 : lw_okq (⟨"ClockworkChess$Board", "piecesInAll", "()I"⟩, 4) := ⟨⟨by decide +kernel, by decide +kernel⟩, List.mem_of_getElem? (i := 22) (by decide +kernel), List.mem_of_getElem? (i := 250) (by decide +kernel), List.mem_of_getElem? (i := 251) (by decide +kernel)⟩
theorem lw_p23 : lw_okq (⟨"ClockworkChess$Game", "account", "(I)I"⟩, 15) := ⟨⟨by decide +kernel, by decide +kernel⟩, List.mem_of_getElem? (i := 16) (by decide +kernel), List.mem_of_getElem? (i := 258) (by decide +kernel), List.mem_of_getElem? (i := 259) (by decide +kernel)⟩
theorem lw_p24 : lw_okq (⟨"ClockworkChess$Game", "reasonAgainst", "(II)I"⟩, 15) := ⟨⟨by decide +kernel, by decide +kernel⟩, List.mem_of_getElem? (i := 16) (by decide +kernel), List.mem_of_getElem? (i := 270) (by decide +kernel), List.mem_of_getElem? (i := 271) (by decide +kernel)⟩
theorem lw_p25 : lw_okq (⟨"ClockworkChess$Board", "price", "(II)I"⟩, 4) := ⟨⟨by decide +kernel, by decide +kernel⟩, List.mem_of_getElem? (i := 22) (by decide +kernel), List.mem_of_getElem? (i := 277) (by decide +kernel), List.mem_of_getElem? (i := 278) (by decide +kernel)⟩
theorem lw_p26 : lw_okq (⟨"ClockworkChess$Board", "kindOn", "(I)I"⟩, 4) := ⟨⟨by decide +kernel, by decide +kernel⟩, List.mem_of_getElem? (i := 22) (by decide +kernel), List.mem_of_getElem? (i := 284) (by decide +kernel), List.mem_of_getElem? (i := 285) (by decide +kernel)⟩
theorem lw_p27 : lw_okq (⟨"ClockworkChess$Board", "priceAlong", "(III)I"⟩, 4) := ⟨⟨by decide +kernel, by decide +kernel⟩, List.mem_of_getElem? (i := 22) (by decide +kernel), List.mem_of_getElem? (i := 291) (by decide +kernel), List.mem_of_getElem? (i := 292) (by decide +kernel)⟩
theorem lw_p28 : lw_okq (⟨"ClockworkChess$Game", "makeMove", "(II)I"⟩, 15) := ⟨⟨by decide +kernel, by decide +kernel⟩, List.mem_of_getElem? (i := 16) (by decide +kernel), List.mem_of_getElem? (i := 298) (by decide +kernel), List.mem_of_getElem? (i := 299) (by decide +kernel)⟩
theorem lw_p29 : lw_okq (⟨"ClockworkChess$Game", "carryOut", "(II)I"⟩, 15) := ⟨⟨by decide +kernel, by decide +kernel⟩, List.mem_of_getElem? (i := 16) (by decide +kernel), List.mem_of_getElem? (i := 302) (by decide +kernel), List.mem_of_getElem? (i := 303) (by decide +kernel)⟩
theorem lw_p30 : lw_okq (⟨"ClockworkChess$Game", "springBehindTaking", "(II)I"⟩, 15) := ⟨⟨by decide +kernel, by decide +kernel⟩, List.mem_of_getElem? (i := 16) (by decide +kernel), List.mem_of_getElem? (i := 307) (by decide +kernel), List.mem_of_getElem? (i := 308) (by decide +kernel)⟩
theorem lw_p31 : lw_okq (⟨"ClockworkChess$Game", "beginTurn", "(I)V"⟩, 15) := ⟨⟨by decide +kernel, by decide +kernel⟩, List.mem_of_getElem? (i := 16) (by decide +kernel), List.mem_of_getElem? (i := 314) (by decide +kernel), List.mem_of_getElem? (i := 315) (by decide +kernel)⟩
def lw_privs_2 : List (MethodName × Nat) := [(⟨"ClockworkChess$Game", "isOver", "()Z"⟩, 15), (⟨"ClockworkChess$Board", "hasPiece", "(I)Z"⟩, 4), (⟨"ClockworkChess$Board", "sideOn", "(I)I"⟩, 4), (⟨"ClockworkChess$Game", "putInstead", "(IIII)V"⟩, 15), (⟨"ClockworkChess$Board", "isTower", "(I)Z"⟩, 4), (⟨"ClockworkChess$Board", "towersInAll", "()I"⟩, 4), (⟨"ClockworkChess$Board", "piecesInAll", "()I"⟩, 4), (⟨"ClockworkChess$Game", "account", "(I)I"⟩, 15), (⟨"ClockworkChess$Game", "reasonAgainst", "(II)I"⟩, 15), (⟨"ClockworkChess$Board", "price", "(II)I"⟩, 4), (⟨"ClockworkChess$Board", "kindOn", "(I)I"⟩, 4), (⟨"ClockworkChess$Board", "priceAlong", "(III)I"⟩, 4), (⟨"ClockworkChess$Game", "makeMove", "(II)I"⟩, 15), (⟨"ClockworkChess$Game", "carryOut", "(II)I"⟩, 15), (⟨"ClockworkChess$Game", "springBehindTaking", "(II)I"⟩, 15), (⟨"ClockworkChess$Game", "beginTurn", "(I)V"⟩, 15)]
theorem lw_r2 : ∀ q ∈ lw_privs_2, lw_okq q := List.forall_mem_cons.mpr ⟨lw_p16, List.forall_mem_cons.mpr ⟨lw_p17, List.forall_mem_cons.mpr ⟨lw_p18, List.forall_mem_cons.mpr ⟨lw_p19, List.forall_mem_cons.mpr ⟨lw_p20, List.forall_mem_cons.mpr ⟨lw_p21, List.forall_mem_cons.mpr ⟨lw_p22, List.forall_mem_cons.mpr ⟨lw_p23, List.forall_mem_cons.mpr ⟨lw_p24, List.forall_mem_cons.mpr ⟨lw_p25, List.forall_mem_cons.mpr ⟨lw_p26, List.forall_mem_cons.mpr ⟨lw_p27, List.forall_mem_cons.mpr ⟨lw_p28, List.forall_mem_cons.mpr ⟨lw_p29, List.forall_mem_cons.mpr ⟨lw_p30, List.forall_mem_cons.mpr ⟨lw_p31, fun _ h => absurd h List.not_mem_nil⟩⟩⟩⟩⟩⟩⟩⟩⟩⟩⟩⟩⟩⟩⟩⟩
theorem lw_p32 : lw_okq (⟨"ClockworkChess$Game", "reasonAgainstPass", "()I"⟩, 15) := ⟨⟨by decide +kernel, by decide +kernel⟩, List.mem_of_getElem? (i := 16) (by decide +kernel), List.mem_of_getElem? (i := 323) (by decide +kernel), List.mem_of_getElem? (i := 324) (by decide +kernel)⟩
theorem lw_p33 : lw_okq (⟨"ClockworkChess$Board", "movesOf", "(I)I"⟩, 4) := ⟨⟨by decide +kernel, by decide +kernel⟩, List.mem_of_getElem? (i := 22) (by decide +kernel), List.mem_of_getElem? (i := 327) (by decide +kernel), List.mem_of_getElem? (i := 328) (by decide +kernel)⟩
theorem lw_p34 : lw_okq (⟨"ClockworkChess$Board", "canMove", "(II)Z"⟩, 4) := ⟨⟨by decide +kernel, by decide +kernel⟩, List.mem_of_getElem? (i := 22) (by decide +kernel), List.mem_of_getElem? (i := 331) (by decide +kernel), List.mem_of_getElem? (i := 332) (by decide +kernel)⟩
theorem lw_p35 : lw_okq (⟨"ClockworkChess$Game", "makePass", "()V"⟩, 15) := ⟨⟨by decide +kernel, by decide +kernel⟩, List.mem_of_getElem? (i := 16) (by decide +kernel), List.mem_of_getElem? (i := 337) (by decide +kernel), List.mem_of_getElem? (i := 338) (by decide +kernel)⟩
theorem lw_p36 : lw_okq (⟨"ClockworkChess$Board", "movesFrom", "(I)I"⟩, 4) := ⟨⟨by decide +kernel, by decide +kernel⟩, List.mem_of_getElem? (i := 22) (by decide +kernel), List.mem_of_getElem? (i := 375) (by decide +kernel), List.mem_of_getElem? (i := 376) (by decide +kernel)⟩
theorem lw_p37 : lw_okq (⟨"ClockworkChess", "makeReachWider", "(II)V"⟩, 8) := ⟨⟨by decide +kernel, by decide +kernel⟩, List.mem_of_getElem? (i := 8) (by decide +kernel), List.mem_of_getElem? (i := 402) (by decide +kernel), List.mem_of_getElem? (i := 403) (by decide +kernel)⟩
theorem lw_p38 : lw_okq (⟨"ClockworkChess", "leaveFrom", "(I)V"⟩, 8) := ⟨⟨by decide +kernel, by decide +kernel⟩, List.mem_of_getElem? (i := 8) (by decide +kernel), List.mem_of_getElem? (i := 407) (by decide +kernel), List.mem_of_getElem? (i := 408) (by decide +kernel)⟩
theorem lw_p39 : lw_okq (⟨"ClockworkChess", "cellsReached", "()I"⟩, 8) := ⟨⟨by decide +kernel, by decide +kernel⟩, List.mem_of_getElem? (i := 8) (by decide +kernel), List.mem_of_getElem? (i := 412) (by decide +kernel), List.mem_of_getElem? (i := 413) (by decide +kernel)⟩
theorem lw_p40 : lw_okq (⟨"ClockworkChess", "tryText", "()I"⟩, 8) := ⟨⟨by decide +kernel, by decide +kernel⟩, List.mem_of_getElem? (i := 8) (by decide +kernel), List.mem_of_getElem? (i := 420) (by decide +kernel), List.mem_of_getElem? (i := 421) (by decide +kernel)⟩
theorem lw_p41 : lw_okq (⟨"ClockworkChess", "signsOfForm", "(I)I"⟩, 8) := ⟨⟨by decide +kernel, by decide +kernel⟩, List.mem_of_getElem? (i := 8) (by decide +kernel), List.mem_of_getElem? (i := 424) (by decide +kernel), List.mem_of_getElem? (i := 425) (by decide +kernel)⟩
theorem lw_p42 : lw_okq (⟨"ClockworkChess", "signAt", "(I)C"⟩, 8) := ⟨⟨by decide +kernel, by decide +kernel⟩, List.mem_of_getElem? (i := 8) (by decide +kernel), List.mem_of_getElem? (i := 428) (by decide +kernel), List.mem_of_getElem? (i := 429) (by decide +kernel)⟩
theorem lw_p43 : lw_okq (⟨"ClockworkChess", "cellAt", "(I)I"⟩, 8) := ⟨⟨by decide +kernel, by decide +kernel⟩, List.mem_of_getElem? (i := 8) (by decide +kernel), List.mem_of_getElem? (i := 432) (by decide +kernel), List.mem_of_getElem? (i := 433) (by decide +kernel)⟩
theorem lw_p44 : lw_okq (⟨"ClockworkChess", "movesInText", "()I"⟩, 8) := ⟨⟨by decide +kernel, by decide +kernel⟩, List.mem_of_getElem? (i := 8) (by decide +kernel), List.mem_of_getElem? (i := 447) (by decide +kernel), List.mem_of_getElem? (i := 448) (by decide +kernel)⟩
theorem lw_p45 : lw_okq (⟨"ClockworkChess", "gamesBehind", "(II)I"⟩, 8) := ⟨⟨by decide +kernel, by decide +kernel⟩, List.mem_of_getElem? (i := 8) (by decide +kernel), List.mem_of_getElem? (i := 494) (by decide +kernel), List.mem_of_getElem? (i := 495) (by decide +kernel)⟩
theorem lw_p46 : lw_okq (⟨"ClockworkChess", "worthOf", "(II)I"⟩, 8) := ⟨⟨by decide +kernel, by decide +kernel⟩, List.mem_of_getElem? (i := 8) (by decide +kernel), List.mem_of_getElem? (i := 502) (by decide +kernel), List.mem_of_getElem? (i := 503) (by decide +kernel)⟩
def lw_privs_3 : List (MethodName × Nat) := [(⟨"ClockworkChess$Game", "reasonAgainstPass", "()I"⟩, 15), (⟨"ClockworkChess$Board", "movesOf", "(I)I"⟩, 4), (⟨"ClockworkChess$Board", "canMove", "(II)Z"⟩, 4), (⟨"ClockworkChess$Game", "makePass", "()V"⟩, 15), (⟨"ClockworkChess$Board", "movesFrom", "(I)I"⟩, 4), (⟨"ClockworkChess", "makeReachWider", "(II)V"⟩, 8), (⟨"ClockworkChess", "leaveFrom", "(I)V"⟩, 8), (⟨"ClockworkChess", "cellsReached", "()I"⟩, 8), (⟨"ClockworkChess", "tryText", "()I"⟩, 8), (⟨"ClockworkChess", "signsOfForm", "(I)I"⟩, 8), (⟨"ClockworkChess", "signAt", "(I)C"⟩, 8), (⟨"ClockworkChess", "cellAt", "(I)I"⟩, 8), (⟨"ClockworkChess", "movesInText", "()I"⟩, 8), (⟨"ClockworkChess", "gamesBehind", "(II)I"⟩, 8), (⟨"ClockworkChess", "worthOf", "(II)I"⟩, 8)]
theorem lw_r3 : ∀ q ∈ lw_privs_3, lw_okq q := List.forall_mem_cons.mpr ⟨lw_p32, List.forall_mem_cons.mpr ⟨lw_p33, List.forall_mem_cons.mpr ⟨lw_p34, List.forall_mem_cons.mpr ⟨lw_p35, List.forall_mem_cons.mpr ⟨lw_p36, List.forall_mem_cons.mpr ⟨lw_p37, List.forall_mem_cons.mpr ⟨lw_p38, List.forall_mem_cons.mpr ⟨lw_p39, List.forall_mem_cons.mpr ⟨lw_p40, List.forall_mem_cons.mpr ⟨lw_p41, List.forall_mem_cons.mpr ⟨lw_p42, List.forall_mem_cons.mpr ⟨lw_p43, List.forall_mem_cons.mpr ⟨lw_p44, List.forall_mem_cons.mpr ⟨lw_p45, List.forall_mem_cons.mpr ⟨lw_p46, fun _ h => absurd h List.not_mem_nil⟩⟩⟩⟩⟩⟩⟩⟩⟩⟩⟩⟩⟩⟩⟩
def lw_privs : List (MethodName × Nat) := lw_privs_1 ++ (lw_privs_2 ++ (lw_privs_3))
def lw_tbl : List Cond := k2_sels lw_privs ++ tables_1
theorem lw_privs_ok : ∀ q ∈ lw_privs, lw_okq q := by
  show ∀ q ∈ lw_privs_1 ++ (lw_privs_2 ++ (lw_privs_3)), lw_okq q
  exact List.forall_mem_append.mpr ⟨lw_r1, List.forall_mem_append.mpr ⟨lw_r2, lw_r3⟩⟩
end
section
/-! ===== BEGIN printed: names, fields, word lists, decode rows ===== -/
def RX0 : String := "ClockworkChess$Board"
def TX0 : u_T := fun k => match k with
  | 0 => ("ClockworkChess$Board", "sides", "[I", true)
  | 1 => ("ClockworkChess$Board", "kinds", "[I", true)
  | 2 => ("ClockworkChess$Board", "springs", "[I", true)
  | _ => ("ClockworkChess$Board", "towers", "[I", true)
def tyX0 : Nat → FieldType := fun k => match k with
  | 0 => .array .int
  | 1 => .array .int
  | 2 => .array .int
  | _ => .array .int
theorem nmX0 : ∀ a, a < 4 → ∀ b, b < 4 → a ≠ b → (TX0 a).2.1 ≠ (TX0 b).2.1 := by decide +kernel
theorem tyX0_ok : ∀ k, k < 4 → parseFieldDescriptor (TX0 k).2.2.1 = some (tyX0 k) := by decide +kernel
abbrev cX0_init : ByteArray := prog_2_method_1_code
def yX0_init : MethodName := ⟨RX0, "<init>", "()V"⟩
abbrev cX0_copyFrom : ByteArray := prog_2_method_2_code
def yX0_copyFrom : MethodName := ⟨RX0, "copyFrom", "(LClockworkChess$Board;)V"⟩
abbrev cX0_arrange : ByteArray := prog_2_method_3_code
def yX0_arrange : MethodName := ⟨RX0, "arrange", "(I)V"⟩
abbrev cX0_place : ByteArray := prog_2_method_4_code
def yX0_place : MethodName := ⟨RX0, "place", "(IIII)V"⟩
abbrev cX0_empty : ByteArray := prog_2_method_5_code
def yX0_empty : MethodName := ⟨RX0, "empty", "(I)V"⟩
abbrev cX0_changeSpring : ByteArray := prog_2_method_6_code
def yX0_changeSpring : MethodName := ⟨RX0, "changeSpring", "(II)V"⟩
abbrev cX0_markTower : ByteArray := prog_2_method_7_code
def yX0_markTower : MethodName := ⟨RX0, "markTower", "(IZ)V"⟩
abbrev cX0_sideOn : ByteArray := prog_2_method_8_code
def yX0_sideOn : MethodName := ⟨RX0, "sideOn", "(I)I"⟩
abbrev cX0_hasPiece : ByteArray := prog_2_method_9_code
def yX0_hasPiece : MethodName := ⟨RX0, "hasPiece", "(I)Z"⟩
abbrev cX0_kindOn : ByteArray := prog_2_method_10_code
def yX0_kindOn : MethodName := ⟨RX0, "kindOn", "(I)I"⟩
abbrev cX0_springOn : ByteArray := prog_2_method_11_code
def yX0_springOn : MethodName := ⟨RX0, "springOn", "(I)I"⟩
abbrev cX0_isTower : ByteArray := prog_2_method_12_code
def yX0_isTower : MethodName := ⟨RX0, "isTower", "(I)Z"⟩
abbrev cX0_springsOf : ByteArray := prog_2_method_13_code
def yX0_springsOf : MethodName := ⟨RX0, "springsOf", "(I)I"⟩
abbrev cX0_springsInAll : ByteArray := prog_2_method_14_code
def yX0_springsInAll : MethodName := ⟨RX0, "springsInAll", "()I"⟩
abbrev cX0_piecesInAll : ByteArray := prog_2_method_15_code
def yX0_piecesInAll : MethodName := ⟨RX0, "piecesInAll", "()I"⟩
abbrev cX0_towersInAll : ByteArray := prog_2_method_16_code
def yX0_towersInAll : MethodName := ⟨RX0, "towersInAll", "()I"⟩
abbrev cX0_movesOf : ByteArray := prog_2_method_17_code
def yX0_movesOf : MethodName := ⟨RX0, "movesOf", "(I)I"⟩
abbrev cX0_movesFrom : ByteArray := prog_2_method_18_code
def yX0_movesFrom : MethodName := ⟨RX0, "movesFrom", "(I)I"⟩
abbrev cX0_canMove : ByteArray := prog_2_method_19_code
def yX0_canMove : MethodName := ⟨RX0, "canMove", "(II)Z"⟩
abbrev cX0_price : ByteArray := prog_2_method_20_code
def yX0_price : MethodName := ⟨RX0, "price", "(II)I"⟩
abbrev cX0_priceAlong : ByteArray := prog_2_method_21_code
def yX0_priceAlong : MethodName := ⟨RX0, "priceAlong", "(III)I"⟩
def RX1 : String := "ClockworkChess$Game"
def TX1 : u_T := fun k => match k with
  | 0 => ("ClockworkChess$Game", "board", "LClockworkChess$Board;", true)
  | 1 => ("ClockworkChess$Game", "limit", "I", false)
  | 2 => ("ClockworkChess$Game", "bonus", "I", false)
  | 3 => ("ClockworkChess$Game", "winding", "I", false)
  | 4 => ("ClockworkChess$Game", "mover", "I", false)
  | 5 => ("ClockworkChess$Game", "ending", "I", false)
  | 6 => ("ClockworkChess$Game", "winner", "I", false)
  | 7 => ("ClockworkChess$Game", "turnsMade", "I", false)
  | 8 => ("ClockworkChess$Game", "justPassed", "Z", false)
  | 9 => ("ClockworkChess$Game", "atBeginning", "I", false)
  | 10 => ("ClockworkChess$Game", "wound", "I", false)
  | 11 => ("ClockworkChess$Game", "gainedByBonus", "I", false)
  | 12 => ("ClockworkChess$Game", "spent", "I", false)
  | 13 => ("ClockworkChess$Game", "lost", "I", false)
  | _ => ("ClockworkChess$Game", "putOn", "I", false)
def tyX1 : Nat → FieldType := fun k => match k with
  | 0 => .object "ClockworkChess$Board"
  | 1 => .int
  | 2 => .int
  | 3 => .int
  | 4 => .int
  | 5 => .int
  | 6 => .int
  | 7 => .int
  | 8 => .boolean
  | 9 => .int
  | 10 => .int
  | 11 => .int
  | 12 => .int
  | 13 => .int
  | _ => .int
theorem nmX1 : ∀ a, a < 15 → ∀ b, b < 15 → a ≠ b → (TX1 a).2.1 ≠ (TX1 b).2.1 := by decide +kernel
theorem tyX1_ok : ∀ k, k < 15 → parseFieldDescriptor (TX1 k).2.2.1 = some (tyX1 k) := by decide +kernel
abbrev cX1_init : ByteArray := prog_3_method_1_code
def yX1_init : MethodName := ⟨RX1, "<init>", "()V"⟩
abbrev cX1_copyFrom : ByteArray := prog_3_method_2_code
def yX1_copyFrom : MethodName := ⟨RX1, "copyFrom", "(LClockworkChess$Game;)V"⟩
abbrev cX1_begin : ByteArray := prog_3_method_3_code
def yX1_begin : MethodName := ⟨RX1, "begin", "()V"⟩
abbrev cX1_isOver : ByteArray := prog_3_method_4_code
def yX1_isOver : MethodName := ⟨RX1, "isOver", "()Z"⟩
abbrev cX1_setting : ByteArray := prog_3_method_5_code
def yX1_setting : MethodName := ⟨RX1, "setting", "(I)I"⟩
abbrev cX1_changeSetting : ByteArray := prog_3_method_6_code
def yX1_changeSetting : MethodName := ⟨RX1, "changeSetting", "(II)V"⟩
abbrev cX1_cutSprings : ByteArray := prog_3_method_7_code
def yX1_cutSprings : MethodName := ⟨RX1, "cutSprings", "()V"⟩
abbrev cX1_account : ByteArray := prog_3_method_8_code
def yX1_account : MethodName := ⟨RX1, "account", "(I)I"⟩
abbrev cX1_putInstead : ByteArray := prog_3_method_9_code
def yX1_putInstead : MethodName := ⟨RX1, "putInstead", "(IIII)V"⟩
abbrev cX1_reasonAgainst : ByteArray := prog_3_method_10_code
def yX1_reasonAgainst : MethodName := ⟨RX1, "reasonAgainst", "(II)I"⟩
abbrev cX1_reasonAgainstPass : ByteArray := prog_3_method_11_code
def yX1_reasonAgainstPass : MethodName := ⟨RX1, "reasonAgainstPass", "()I"⟩
abbrev cX1_makeMove : ByteArray := prog_3_method_12_code
def yX1_makeMove : MethodName := ⟨RX1, "makeMove", "(II)I"⟩
abbrev cX1_carryOut : ByteArray := prog_3_method_13_code
def yX1_carryOut : MethodName := ⟨RX1, "carryOut", "(II)I"⟩
abbrev cX1_springBehindTaking : ByteArray := prog_3_method_14_code
def yX1_springBehindTaking : MethodName := ⟨RX1, "springBehindTaking", "(II)I"⟩
abbrev cX1_makePass : ByteArray := prog_3_method_15_code
def yX1_makePass : MethodName := ⟨RX1, "makePass", "()V"⟩
abbrev cX1_beginTurn : ByteArray := prog_3_method_16_code
def yX1_beginTurn : MethodName := ⟨RX1, "beginTurn", "(I)V"⟩
def RX2 : String := "ClockworkChess"
def TX2 : u_T := fun k => match k with
  | 0 => ("ClockworkChess", "game", "LClockworkChess$Game;", true)
  | 1 => ("ClockworkChess", "trial", "LClockworkChess$Game;", true)
  | 2 => ("ClockworkChess", "states", "[LClockworkChess$Game;", true)
  | 3 => ("ClockworkChess", "stateCount", "I", false)
  | 4 => ("ClockworkChess", "text", "[C", true)
  | 5 => ("ClockworkChess", "textLength", "I", false)
  | 6 => ("ClockworkChess", "springLeft", "[I", false)
  | _ => ("ClockworkChess", "springLeftNext", "[I", false)
def tyX2 : Nat → FieldType := fun k => match k with
  | 0 => .object "ClockworkChess$Game"
  | 1 => .object "ClockworkChess$Game"
  | 2 => .array (.object "ClockworkChess$Game")
  | 3 => .int
  | 4 => .array .char
  | 5 => .int
  | 6 => .array .int
  | _ => .array .int
theorem nmX2 : ∀ a, a < 8 → ∀ b, b < 8 → a ≠ b → (TX2 a).2.1 ≠ (TX2 b).2.1 := by decide +kernel
theorem tyX2_ok : ∀ k, k < 8 → parseFieldDescriptor (TX2 k).2.2.1 = some (tyX2 k) := by decide +kernel
abbrev cX2_init : ByteArray := prog_1_method_1_code
def yX2_init : MethodName := ⟨RX2, "<init>", "()V"⟩
abbrev cX2_setUp : ByteArray := prog_1_method_2_code
def yX2_setUp : MethodName := ⟨RX2, "setUp", "()I"⟩
abbrev cX2_set : ByteArray := prog_1_method_3_code
def yX2_set : MethodName := ⟨RX2, "set", "(II)I"⟩
abbrev cX2_put : ByteArray := prog_1_method_4_code
def yX2_put : MethodName := ⟨RX2, "put", "(IIII)I"⟩
abbrev cX2_tower : ByteArray := prog_1_method_5_code
def yX2_tower : MethodName := ⟨RX2, "tower", "(I)I"⟩
abbrev cX2_cell : ByteArray := prog_1_method_6_code
def yX2_cell : MethodName := ⟨RX2, "cell", "(II)I"⟩
abbrev cX2_count : ByteArray := prog_1_method_7_code
def yX2_count : MethodName := ⟨RX2, "count", "(I)I"⟩
abbrev cX2_undo : ByteArray := prog_1_method_8_code
def yX2_undo : MethodName := ⟨RX2, "undo", "()I"⟩
abbrev cX2_move : ByteArray := prog_1_method_9_code
def yX2_move : MethodName := ⟨RX2, "move", "(II)I"⟩
abbrev cX2_pass : ByteArray := prog_1_method_10_code
def yX2_pass : MethodName := ⟨RX2, "pass", "()I"⟩
abbrev cX2_refusal : ByteArray := prog_1_method_11_code
def yX2_refusal : MethodName := ⟨RX2, "refusal", "(II)I"⟩
abbrev cX2_cost : ByteArray := prog_1_method_12_code
def yX2_cost : MethodName := ⟨RX2, "cost", "(II)I"⟩
abbrev cX2_moves : ByteArray := prog_1_method_13_code
def yX2_moves : MethodName := ⟨RX2, "moves", "(I)I"⟩
abbrev cX2_listed : ByteArray := prog_1_method_14_code
def yX2_listed : MethodName := ⟨RX2, "listed", "(II)I"⟩
abbrev cX2_struck : ByteArray := prog_1_method_15_code
def yX2_struck : MethodName := ⟨RX2, "struck", "(II)I"⟩
abbrev cX2_reach : ByteArray := prog_1_method_16_code
def yX2_reach : MethodName := ⟨RX2, "reach", "(II)I"⟩
abbrev cX2_replies : ByteArray := prog_1_method_17_code
def yX2_replies : MethodName := ⟨RX2, "replies", "()I"⟩
abbrev cX2_best : ByteArray := prog_1_method_18_code
def yX2_best : MethodName := ⟨RX2, "best", "()I"⟩
abbrev cX2_type : ByteArray := prog_1_method_19_code
def yX2_type : MethodName := ⟨RX2, "type", "(I)I"⟩
abbrev cX2_clearText : ByteArray := prog_1_method_20_code
def yX2_clearText : MethodName := ⟨RX2, "clearText", "()I"⟩
abbrev cX2_fault : ByteArray := prog_1_method_21_code
def yX2_fault : MethodName := ⟨RX2, "fault", "(I)I"⟩
abbrev cX2_play : ByteArray := prog_1_method_22_code
def yX2_play : MethodName := ⟨RX2, "play", "()I"⟩
abbrev cX2_isCell : ByteArray := prog_1_method_23_code
def yX2_isCell : MethodName := ⟨RX2, "isCell", "(I)Z"⟩
abbrev cX2_isSide : ByteArray := prog_1_method_24_code
def yX2_isSide : MethodName := ⟨RX2, "isSide", "(I)Z"⟩
abbrev cX2_isAccount : ByteArray := prog_1_method_25_code
def yX2_isAccount : MethodName := ⟨RX2, "isAccount", "(I)Z"⟩
abbrev cX2_isSetting : ByteArray := prog_1_method_26_code
def yX2_isSetting : MethodName := ⟨RX2, "isSetting", "(II)Z"⟩
abbrev cX2_record : ByteArray := prog_1_method_27_code
def yX2_record : MethodName := ⟨RX2, "record", "()V"⟩
abbrev cX2_stateAt : ByteArray := prog_1_method_28_code
def yX2_stateAt : MethodName := ⟨RX2, "stateAt", "(I)LClockworkChess$Game;"⟩
abbrev cX2_makeReachWider : ByteArray := prog_1_method_29_code
def yX2_makeReachWider : MethodName := ⟨RX2, "makeReachWider", "(II)V"⟩
abbrev cX2_leaveFrom : ByteArray := prog_1_method_30_code
def yX2_leaveFrom : MethodName := ⟨RX2, "leaveFrom", "(I)V"⟩
abbrev cX2_cellsReached : ByteArray := prog_1_method_31_code
def yX2_cellsReached : MethodName := ⟨RX2, "cellsReached", "()I"⟩
abbrev cX2_gamesBehind : ByteArray := prog_1_method_32_code
def yX2_gamesBehind : MethodName := ⟨RX2, "gamesBehind", "(II)I"⟩
abbrev cX2_worthOf : ByteArray := prog_1_method_33_code
def yX2_worthOf : MethodName := ⟨RX2, "worthOf", "(II)I"⟩
abbrev cX2_tryText : ByteArray := prog_1_method_34_code
def yX2_tryText : MethodName := ⟨RX2, "tryText", "()I"⟩
abbrev cX2_signsOfForm : ByteArray := prog_1_method_35_code
def yX2_signsOfForm : MethodName := ⟨RX2, "signsOfForm", "(I)I"⟩
abbrev cX2_cellAt : ByteArray := prog_1_method_36_code
def yX2_cellAt : MethodName := ⟨RX2, "cellAt", "(I)I"⟩
abbrev cX2_signAt : ByteArray := prog_1_method_37_code
def yX2_signAt : MethodName := ⟨RX2, "signAt", "(I)C"⟩
abbrev cX2_movesInText : ByteArray := prog_1_method_38_code
def yX2_movesInText : MethodName := ⟨RX2, "movesInText", "()I"⟩
def RX3 : String := "ClockworkChessModel"
def TX3 : u_T := fun k => match k with
  | _ => ("", "", "", false)
def tyX3 : Nat → FieldType := fun k => match k with
  | _ => .int
theorem nmX3 : ∀ a, a < 0 → ∀ b, b < 0 → a ≠ b → (TX3 a).2.1 ≠ (TX3 b).2.1 := by decide +kernel
theorem tyX3_ok : ∀ k, k < 0 → parseFieldDescriptor (TX3 k).2.2.1 = some (tyX3 k) := by decide +kernel
def RJ6 : String := "java/lang/Integer"
def TJ6 : u_T := fun k => match k with
  | _ => ("", "", "", false)
def tyJ6 : Nat → FieldType := fun k => match k with
  | _ => .int
theorem nmJ6 : ∀ a, a < 0 → ∀ b, b < 0 → a ≠ b → (TJ6 a).2.1 ≠ (TJ6 b).2.1 := by decide +kernel
theorem tyJ6_ok : ∀ k, k < 0 → parseFieldDescriptor (TJ6 k).2.2.1 = some (tyJ6 k) := by decide +kernel
abbrev cJ6_compare_7cf53 : ByteArray := prog_6_method_40_code
def yJ6_compare_7cf53 : MethodName := ⟨RJ6, "compare", "(II)I"⟩
def RJ9 : String := "java/lang/Math"
def TJ9 : u_T := fun k => match k with
  | _ => ("", "", "", false)
def tyJ9 : Nat → FieldType := fun k => match k with
  | _ => .int
theorem nmJ9 : ∀ a, a < 0 → ∀ b, b < 0 → a ≠ b → (TJ9 a).2.1 ≠ (TJ9 b).2.1 := by decide +kernel
theorem tyJ9_ok : ∀ k, k < 0 → parseFieldDescriptor (TJ9 k).2.2.1 = some (tyJ9 k) := by decide +kernel
abbrev cJ9_abs_0f7a4 : ByteArray := prog_7_method_59_code
def yJ9_abs_0f7a4 : MethodName := ⟨RJ9, "abs", "(I)I"⟩
abbrev cJ9_max_7cf53 : ByteArray := prog_7_method_65_code
def yJ9_max_7cf53 : MethodName := ⟨RJ9, "max", "(II)I"⟩
abbrev cJ9_min_7cf53 : ByteArray := prog_7_method_69_code
def yJ9_min_7cf53 : MethodName := ⟨RJ9, "min", "(II)I"⟩
def RJ10 : String := "java/lang/System"
def TJ10 : u_T := fun k => match k with
  | _ => ("", "", "", false)
def tyJ10 : Nat → FieldType := fun k => match k with
  | _ => .int
theorem nmJ10 : ∀ a, a < 0 → ∀ b, b < 0 → a ≠ b → (TJ10 a).2.1 ≠ (TJ10 b).2.1 := by decide +kernel
theorem tyJ10_ok : ∀ k, k < 0 → parseFieldDescriptor (TJ10 k).2.2.1 = some (tyJ10 k) := by decide +kernel
def RL : String := "ClockworkChessLaw"
abbrev cL_part : ByteArray := method_2_code
def yL_part : MethodName := ⟨RL, "part", "(II)I"⟩
abbrev cL_take : ByteArray := method_3_code
def yL_take : MethodName := ⟨RL, "take", "([II)I"⟩
abbrev cL_mixed : ByteArray := method_4_code
def yL_mixed : MethodName := ⟨RL, "mixed", "(JJ)J"⟩
abbrev cL_state : ByteArray := method_5_code
def yL_state : MethodName := ⟨RL, "state", "(LClockworkChess;)J"⟩
abbrev cL_refused : ByteArray := method_6_code
def yL_refused : MethodName := ⟨RL, "refused", "(LClockworkChess;)Z"⟩
abbrev cL_types : ByteArray := method_7_code
def yL_types : MethodName := ⟨RL, "types", "(LClockworkChess;J)V"⟩
abbrev cL_isFault : ByteArray := method_8_code
def yL_isFault : MethodName := ⟨RL, "isFault", "(LClockworkChess;JJII)Z"⟩
abbrev cL_texts : ByteArray := method_9_code
def yL_texts : MethodName := ⟨RL, "texts", "()Z"⟩
abbrev cL_isCleared : ByteArray := method_10_code
def yL_isCleared : MethodName := ⟨RL, "isCleared", "(LClockworkChess;)Z"⟩
abbrev cL_begins : ByteArray := method_11_code
def yL_begins : MethodName := ⟨RL, "begins", "()Z"⟩
abbrev cL_known : ByteArray := method_12_code
def yL_known : MethodName := ⟨RL, "known", "()Z"⟩
abbrev cL_law : ByteArray := code
def yL_law : MethodName := ⟨RL, "law", "([I)Z"⟩
theorem dX0_init_0 : decode cX0_init 0 = .ok (.aload_n 0, 1) := by decide +kernel
theorem dX0_init_1 : decode cX0_init 1 = .ok (.invokespecial 3, 3) := by decide +kernel
theorem dX0_init_4 : decode cX0_init 4 = .ok (.aload_n 0, 1) := by decide +kernel
theorem dX0_init_5 : decode cX0_init 5 = .ok (.bipush 36, 2) := by decide +kernel
theorem dX0_init_7 : decode cX0_init 7 = .ok (.newarray .int, 2) := by decide +kernel
theorem dX0_init_9 : decode cX0_init 9 = .ok (.putfield 9, 3) := by decide +kernel
theorem dX0_init_12 : decode cX0_init 12 = .ok (.aload_n 0, 1) := by decide +kernel
theorem dX0_init_13 : decode cX0_init 13 = .ok (.bipush 36, 2) := by decide +kernel
theorem dX0_init_15 : decode cX0_init 15 = .ok (.newarray .int, 2) := by decide +kernel
theorem dX0_init_17 : decode cX0_init 17 = .ok (.putfield 15, 3) := by decide +kernel
theorem dX0_init_20 : decode cX0_init 20 = .ok (.aload_n 0, 1) := by decide +kernel
theorem dX0_init_21 : decode cX0_init 21 = .ok (.bipush 36, 2) := by decide +kernel
theorem dX0_init_23 : decode cX0_init 23 = .ok (.newarray .int, 2) := by decide +kernel
theorem dX0_init_25 : decode cX0_init 25 = .ok (.putfield 18, 3) := by decide +kernel
theorem dX0_init_28 : decode cX0_init 28 = .ok (.aload_n 0, 1) := by decide +kernel
theorem dX0_init_29 : decode cX0_init 29 = .ok (.bipush 36, 2) := by decide +kernel
theorem dX0_init_31 : decode cX0_init 31 = .ok (.newarray .int, 2) := by decide +kernel
theorem dX0_init_33 : decode cX0_init 33 = .ok (.putfield 21, 3) := by decide +kernel
theorem dX0_init_36 : decode cX0_init 36 = .ok (.return_, 1) := by decide +kernel
theorem dX0_copyFrom_0 : decode cX0_copyFrom 0 = .ok (.aload_n 1, 1) := by decide +kernel
theorem dX0_copyFrom_1 : decode cX0_copyFrom 1 = .ok (.getfield 9, 3) := by decide +kernel
theorem dX0_copyFrom_4 : decode cX0_copyFrom 4 = .ok (.iconst 0, 1) := by decide +kernel
theorem dX0_copyFrom_5 : decode cX0_copyFrom 5 = .ok (.aload_n 0, 1) := by decide +kernel
theorem dX0_copyFrom_6 : decode cX0_copyFrom 6 = .ok (.getfield 9, 3) := by decide +kernel
theorem dX0_copyFrom_9 : decode cX0_copyFrom 9 = .ok (.iconst 0, 1) := by decide +kernel
theorem dX0_copyFrom_10 : decode cX0_copyFrom 10 = .ok (.bipush 36, 2) := by decide +kernel
theorem dX0_copyFrom_12 : decode cX0_copyFrom 12 = .ok (.invokestatic 24, 3) := by decide +kernel
theorem dX0_copyFrom_15 : decode cX0_copyFrom 15 = .ok (.aload_n 1, 1) := by decide +kernel
theorem dX0_copyFrom_16 : decode cX0_copyFrom 16 = .ok (.getfield 15, 3) := by decide +kernel
theorem dX0_copyFrom_19 : decode cX0_copyFrom 19 = .ok (.iconst 0, 1) := by decide +kernel
theorem dX0_copyFrom_20 : decode cX0_copyFrom 20 = .ok (.aload_n 0, 1) := by decide +kernel
theorem dX0_copyFrom_21 : decode cX0_copyFrom 21 = .ok (.getfield 15, 3) := by decide +kernel
theorem dX0_copyFrom_24 : decode cX0_copyFrom 24 = .ok (.iconst 0, 1) := by decide +kernel
theorem dX0_copyFrom_25 : decode cX0_copyFrom 25 = .ok (.bipush 36, 2) := by decide +kernel
theorem dX0_copyFrom_27 : decode cX0_copyFrom 27 = .ok (.invokestatic 24, 3) := by decide +kernel
theorem dX0_copyFrom_30 : decode cX0_copyFrom 30 = .ok (.aload_n 1, 1) := by decide +kernel
theorem dX0_copyFrom_31 : decode cX0_copyFrom 31 = .ok (.getfield 18, 3) := by decide +kernel
theorem dX0_copyFrom_34 : decode cX0_copyFrom 34 = .ok (.iconst 0, 1) := by decide +kernel
theorem dX0_copyFrom_35 : decode cX0_copyFrom 35 = .ok (.aload_n 0, 1) := by decide +kernel
theorem dX0_copyFrom_36 : decode cX0_copyFrom 36 = .ok (.getfield 18, 3) := by decide +kernel
theorem dX0_copyFrom_39 : decode cX0_copyFrom 39 = .ok (.iconst 0, 1) := by decide +kernel
theorem dX0_copyFrom_40 : decode cX0_copyFrom 40 = .ok (.bipush 36, 2) := by decide +kernel
theorem dX0_copyFrom_42 : decode cX0_copyFrom 42 = .ok (.invokestatic 24, 3) := by decide +kernel
theorem dX0_copyFrom_45 : decode cX0_copyFrom 45 = .ok (.aload_n 1, 1) := by decide +kernel
theorem dX0_copyFrom_46 : decode cX0_copyFrom 46 = .ok (.getfield 21, 3) := by decide +kernel
theorem dX0_copyFrom_49 : decode cX0_copyFrom 49 = .ok (.iconst 0, 1) := by decide +kernel
theorem dX0_copyFrom_50 : decode cX0_copyFrom 50 = .ok (.aload_n 0, 1) := by decide +kernel
theorem dX0_copyFrom_51 : decode cX0_copyFrom 51 = .ok (.getfield 21, 3) := by decide +kernel
theorem dX0_copyFrom_54 : decode cX0_copyFrom 54 = .ok (.iconst 0, 1) := by decide +kernel
theorem dX0_copyFrom_55 : decode cX0_copyFrom 55 = .ok (.bipush 36, 2) := by decide +kernel
theorem dX0_copyFrom_57 : decode cX0_copyFrom 57 = .ok (.invokestatic 24, 3) := by decide +kernel
theorem dX0_copyFrom_60 : decode cX0_copyFrom 60 = .ok (.return_, 1) := by decide +kernel
theorem dX0_arrange_0 : decode cX0_arrange 0 = .ok (.iconst 0, 1) := by decide +kernel
theorem dX0_arrange_1 : decode cX0_arrange 1 = .ok (.istore_n 2, 1) := by decide +kernel
theorem dX0_arrange_2 : decode cX0_arrange 2 = .ok (.iload_n 2, 1) := by decide +kernel
theorem dX0_arrange_3 : decode cX0_arrange 3 = .ok (.bipush 36, 2) := by decide +kernel
theorem dX0_arrange_5 : decode cX0_arrange 5 = .ok (.if_icmp .ge 20, 3) := by decide +kernel
theorem dX0_arrange_8 : decode cX0_arrange 8 = .ok (.aload_n 0, 1) := by decide +kernel
theorem dX0_arrange_9 : decode cX0_arrange 9 = .ok (.iload_n 2, 1) := by decide +kernel
theorem dX0_arrange_10 : decode cX0_arrange 10 = .ok (.invokevirtual 30, 3) := by decide +kernel
theorem dX0_arrange_13 : decode cX0_arrange 13 = .ok (.aload_n 0, 1) := by decide +kernel
theorem dX0_arrange_14 : decode cX0_arrange 14 = .ok (.iload_n 2, 1) := by decide +kernel
theorem dX0_arrange_15 : decode cX0_arrange 15 = .ok (.iconst 0, 1) := by decide +kernel
theorem dX0_arrange_16 : decode cX0_arrange 16 = .ok (.invokevirtual 34, 3) := by decide +kernel
theorem dX0_arrange_19 : decode cX0_arrange 19 = .ok (.iinc 2 1, 3) := by decide +kernel
theorem dX0_arrange_22 : decode cX0_arrange 22 = .ok (.goto (-20), 3) := by decide +kernel
theorem dX0_arrange_25 : decode cX0_arrange 25 = .ok (.iconst 0, 1) := by decide +kernel
theorem dX0_arrange_26 : decode cX0_arrange 26 = .ok (.istore_n 2, 1) := by decide +kernel
theorem dX0_arrange_27 : decode cX0_arrange 27 = .ok (.iload_n 2, 1) := by decide +kernel
theorem dX0_arrange_28 : decode cX0_arrange 28 = .ok (.getstatic 38, 3) := by decide +kernel
theorem dX0_arrange_31 : decode cX0_arrange 31 = .ok (.arraylength, 1) := by decide +kernel
theorem dX0_arrange_32 : decode cX0_arrange 32 = .ok (.if_icmp .ge 58, 3) := by decide +kernel
theorem dX0_arrange_35 : decode cX0_arrange 35 = .ok (.aload_n 0, 1) := by decide +kernel
theorem dX0_arrange_36 : decode cX0_arrange 36 = .ok (.iload_n 2, 1) := by decide +kernel
theorem dX0_arrange_37 : decode cX0_arrange 37 = .ok (.iconst 0, 1) := by decide +kernel
theorem dX0_arrange_38 : decode cX0_arrange 38 = .ok (.getstatic 38, 3) := by decide +kernel
theorem dX0_arrange_41 : decode cX0_arrange 41 = .ok (.iload_n 2, 1) := by decide +kernel
theorem dX0_arrange_42 : decode cX0_arrange 42 = .ok (.iaload, 1) := by decide +kernel
theorem dX0_arrange_43 : decode cX0_arrange 43 = .ok (.iload_n 1, 1) := by decide +kernel
theorem dX0_arrange_44 : decode cX0_arrange 44 = .ok (.invokevirtual 41, 3) := by decide +kernel
theorem dX0_arrange_47 : decode cX0_arrange 47 = .ok (.aload_n 0, 1) := by decide +kernel
theorem dX0_arrange_48 : decode cX0_arrange 48 = .ok (.bipush 6, 2) := by decide +kernel
theorem dX0_arrange_50 : decode cX0_arrange 50 = .ok (.iload_n 2, 1) := by decide +kernel
theorem dX0_arrange_51 : decode cX0_arrange 51 = .ok (.iadd, 1) := by decide +kernel
theorem dX0_arrange_52 : decode cX0_arrange 52 = .ok (.iconst 0, 1) := by decide +kernel
theorem dX0_arrange_53 : decode cX0_arrange 53 = .ok (.iconst 4, 1) := by decide +kernel
theorem dX0_arrange_54 : decode cX0_arrange 54 = .ok (.iload_n 1, 1) := by decide +kernel
theorem dX0_arrange_55 : decode cX0_arrange 55 = .ok (.invokevirtual 41, 3) := by decide +kernel
theorem dX0_arrange_58 : decode cX0_arrange 58 = .ok (.aload_n 0, 1) := by decide +kernel
theorem dX0_arrange_59 : decode cX0_arrange 59 = .ok (.bipush 24, 2) := by decide +kernel
theorem dX0_arrange_61 : decode cX0_arrange 61 = .ok (.iload_n 2, 1) := by decide +kernel
theorem dX0_arrange_62 : decode cX0_arrange 62 = .ok (.iadd, 1) := by decide +kernel
theorem dX0_arrange_63 : decode cX0_arrange 63 = .ok (.iconst 1, 1) := by decide +kernel
theorem dX0_arrange_64 : decode cX0_arrange 64 = .ok (.iconst 4, 1) := by decide +kernel
theorem dX0_arrange_65 : decode cX0_arrange 65 = .ok (.iload_n 1, 1) := by decide +kernel
theorem dX0_arrange_66 : decode cX0_arrange 66 = .ok (.invokevirtual 41, 3) := by decide +kernel
theorem dX0_arrange_69 : decode cX0_arrange 69 = .ok (.aload_n 0, 1) := by decide +kernel
theorem dX0_arrange_70 : decode cX0_arrange 70 = .ok (.bipush 30, 2) := by decide +kernel
theorem dX0_arrange_72 : decode cX0_arrange 72 = .ok (.iload_n 2, 1) := by decide +kernel
theorem dX0_arrange_73 : decode cX0_arrange 73 = .ok (.iadd, 1) := by decide +kernel
theorem dX0_arrange_74 : decode cX0_arrange 74 = .ok (.iconst 1, 1) := by decide +kernel
theorem dX0_arrange_75 : decode cX0_arrange 75 = .ok (.getstatic 38, 3) := by decide +kernel
theorem dX0_arrange_78 : decode cX0_arrange 78 = .ok (.iload_n 2, 1) := by decide +kernel
theorem dX0_arrange_79 : decode cX0_arrange 79 = .ok (.iaload, 1) := by decide +kernel
theorem dX0_arrange_80 : decode cX0_arrange 80 = .ok (.iload_n 1, 1) := by decide +kernel
theorem dX0_arrange_81 : decode cX0_arrange 81 = .ok (.invokevirtual 41, 3) := by decide +kernel
theorem dX0_arrange_84 : decode cX0_arrange 84 = .ok (.iinc 2 1, 3) := by decide +kernel
theorem dX0_arrange_87 : decode cX0_arrange 87 = .ok (.goto (-60), 3) := by decide +kernel
theorem dX0_arrange_90 : decode cX0_arrange 90 = .ok (.iconst 0, 1) := by decide +kernel
theorem dX0_arrange_91 : decode cX0_arrange 91 = .ok (.istore_n 2, 1) := by decide +kernel
theorem dX0_arrange_92 : decode cX0_arrange 92 = .ok (.iload_n 2, 1) := by decide +kernel
theorem dX0_arrange_93 : decode cX0_arrange 93 = .ok (.getstatic 45, 3) := by decide +kernel
theorem dX0_arrange_96 : decode cX0_arrange 96 = .ok (.arraylength, 1) := by decide +kernel
theorem dX0_arrange_97 : decode cX0_arrange 97 = .ok (.if_icmp .ge 19, 3) := by decide +kernel
theorem dX0_arrange_100 : decode cX0_arrange 100 = .ok (.aload_n 0, 1) := by decide +kernel
theorem dX0_arrange_101 : decode cX0_arrange 101 = .ok (.getstatic 45, 3) := by decide +kernel
theorem dX0_arrange_104 : decode cX0_arrange 104 = .ok (.iload_n 2, 1) := by decide +kernel
theorem dX0_arrange_105 : decode cX0_arrange 105 = .ok (.iaload, 1) := by decide +kernel
theorem dX0_arrange_106 : decode cX0_arrange 106 = .ok (.iconst 1, 1) := by decide +kernel
theorem dX0_arrange_107 : decode cX0_arrange 107 = .ok (.invokevirtual 34, 3) := by decide +kernel
theorem dX0_arrange_110 : decode cX0_arrange 110 = .ok (.iinc 2 1, 3) := by decide +kernel
theorem dX0_arrange_113 : decode cX0_arrange 113 = .ok (.goto (-21), 3) := by decide +kernel
theorem dX0_arrange_116 : decode cX0_arrange 116 = .ok (.return_, 1) := by decide +kernel
theorem dX0_place_0 : decode cX0_place 0 = .ok (.iload_n 1, 1) := by decide +kernel
theorem dX0_place_1 : decode cX0_place 1 = .ok (.invokestatic 48, 3) := by decide +kernel
theorem dX0_place_4 : decode cX0_place 4 = .ok (.ifCond .eq 25, 3) := by decide +kernel
theorem dX0_place_7 : decode cX0_place 7 = .ok (.aload_n 0, 1) := by decide +kernel
theorem dX0_place_8 : decode cX0_place 8 = .ok (.getfield 9, 3) := by decide +kernel
theorem dX0_place_11 : decode cX0_place 11 = .ok (.iload_n 1, 1) := by decide +kernel
theorem dX0_place_12 : decode cX0_place 12 = .ok (.iload_n 2, 1) := by decide +kernel
theorem dX0_place_13 : decode cX0_place 13 = .ok (.iastore, 1) := by decide +kernel
theorem dX0_place_14 : decode cX0_place 14 = .ok (.aload_n 0, 1) := by decide +kernel
theorem dX0_place_15 : decode cX0_place 15 = .ok (.getfield 15, 3) := by decide +kernel
theorem dX0_place_18 : decode cX0_place 18 = .ok (.iload_n 1, 1) := by decide +kernel
theorem dX0_place_19 : decode cX0_place 19 = .ok (.iload_n 3, 1) := by decide +kernel
theorem dX0_place_20 : decode cX0_place 20 = .ok (.iastore, 1) := by decide +kernel
theorem dX0_place_21 : decode cX0_place 21 = .ok (.aload_n 0, 1) := by decide +kernel
theorem dX0_place_22 : decode cX0_place 22 = .ok (.getfield 18, 3) := by decide +kernel
theorem dX0_place_25 : decode cX0_place 25 = .ok (.iload_n 1, 1) := by decide +kernel
theorem dX0_place_26 : decode cX0_place 26 = .ok (.iload 4, 2) := by decide +kernel
theorem dX0_place_28 : decode cX0_place 28 = .ok (.iastore, 1) := by decide +kernel
theorem dX0_place_29 : decode cX0_place 29 = .ok (.return_, 1) := by decide +kernel
theorem dX0_empty_0 : decode cX0_empty 0 = .ok (.aload_n 0, 1) := by decide +kernel
theorem dX0_empty_1 : decode cX0_empty 1 = .ok (.iload_n 1, 1) := by decide +kernel
theorem dX0_empty_2 : decode cX0_empty 2 = .ok (.iconst (-1), 1) := by decide +kernel
theorem dX0_empty_3 : decode cX0_empty 3 = .ok (.iconst 0, 1) := by decide +kernel
theorem dX0_empty_4 : decode cX0_empty 4 = .ok (.iconst 0, 1) := by decide +kernel
theorem dX0_empty_5 : decode cX0_empty 5 = .ok (.invokevirtual 41, 3) := by decide +kernel
theorem dX0_empty_8 : decode cX0_empty 8 = .ok (.return_, 1) := by decide +kernel
theorem dX0_changeSpring_0 : decode cX0_changeSpring 0 = .ok (.iload_n 1, 1) := by decide +kernel
theorem dX0_changeSpring_1 : decode cX0_changeSpring 1 = .ok (.invokestatic 48, 3) := by decide +kernel
theorem dX0_changeSpring_4 : decode cX0_changeSpring 4 = .ok (.ifCond .eq 10, 3) := by decide +kernel
theorem dX0_changeSpring_7 : decode cX0_changeSpring 7 = .ok (.aload_n 0, 1) := by decide +kernel
theorem dX0_changeSpring_8 : decode cX0_changeSpring 8 = .ok (.getfield 18, 3) := by decide +kernel
theorem dX0_changeSpring_11 : decode cX0_changeSpring 11 = .ok (.iload_n 1, 1) := by decide +kernel
theorem dX0_changeSpring_12 : decode cX0_changeSpring 12 = .ok (.iload_n 2, 1) := by decide +kernel
theorem dX0_changeSpring_13 : decode cX0_changeSpring 13 = .ok (.iastore, 1) := by decide +kernel
theorem dX0_changeSpring_14 : decode cX0_changeSpring 14 = .ok (.return_, 1) := by decide +kernel
theorem dX0_markTower_0 : decode cX0_markTower 0 = .ok (.iload_n 1, 1) := by decide +kernel
theorem dX0_markTower_1 : decode cX0_markTower 1 = .ok (.invokestatic 48, 3) := by decide +kernel
theorem dX0_markTower_4 : decode cX0_markTower 4 = .ok (.ifCond .eq 18, 3) := by decide +kernel
theorem dX0_markTower_7 : decode cX0_markTower 7 = .ok (.aload_n 0, 1) := by decide +kernel
theorem dX0_markTower_8 : decode cX0_markTower 8 = .ok (.getfield 21, 3) := by decide +kernel
theorem dX0_markTower_11 : decode cX0_markTower 11 = .ok (.iload_n 1, 1) := by decide +kernel
theorem dX0_markTower_12 : decode cX0_markTower 12 = .ok (.iload_n 2, 1) := by decide +kernel
theorem dX0_markTower_13 : decode cX0_markTower 13 = .ok (.ifCond .eq 7, 3) := by decide +kernel
theorem dX0_markTower_16 : decode cX0_markTower 16 = .ok (.iconst 1, 1) := by decide +kernel
theorem dX0_markTower_17 : decode cX0_markTower 17 = .ok (.goto 4, 3) := by decide +kernel
theorem dX0_markTower_20 : decode cX0_markTower 20 = .ok (.iconst 0, 1) := by decide +kernel
theorem dX0_markTower_21 : decode cX0_markTower 21 = .ok (.iastore, 1) := by decide +kernel
theorem dX0_markTower_22 : decode cX0_markTower 22 = .ok (.return_, 1) := by decide +kernel
theorem dX0_sideOn_0 : decode cX0_sideOn 0 = .ok (.iload_n 1, 1) := by decide +kernel
theorem dX0_sideOn_1 : decode cX0_sideOn 1 = .ok (.invokestatic 48, 3) := by decide +kernel
theorem dX0_sideOn_4 : decode cX0_sideOn 4 = .ok (.ifCond .eq 12, 3) := by decide +kernel
theorem dX0_sideOn_7 : decode cX0_sideOn 7 = .ok (.aload_n 0, 1) := by decide +kernel
theorem dX0_sideOn_8 : decode cX0_sideOn 8 = .ok (.getfield 9, 3) := by decide +kernel
theorem dX0_sideOn_11 : decode cX0_sideOn 11 = .ok (.iload_n 1, 1) := by decide +kernel
theorem dX0_sideOn_12 : decode cX0_sideOn 12 = .ok (.iaload, 1) := by decide +kernel
theorem dX0_sideOn_13 : decode cX0_sideOn 13 = .ok (.goto 4, 3) := by decide +kernel
theorem dX0_sideOn_16 : decode cX0_sideOn 16 = .ok (.iconst (-1), 1) := by decide +kernel
theorem dX0_sideOn_17 : decode cX0_sideOn 17 = .ok (.ireturn, 1) := by decide +kernel
theorem dX0_hasPiece_0 : decode cX0_hasPiece 0 = .ok (.aload_n 0, 1) := by decide +kernel
theorem dX0_hasPiece_1 : decode cX0_hasPiece 1 = .ok (.iload_n 1, 1) := by decide +kernel
theorem dX0_hasPiece_2 : decode cX0_hasPiece 2 = .ok (.invokevirtual 52, 3) := by decide +kernel
theorem dX0_hasPiece_5 : decode cX0_hasPiece 5 = .ok (.iconst (-1), 1) := by decide +kernel
theorem dX0_hasPiece_6 : decode cX0_hasPiece 6 = .ok (.if_icmp .eq 7, 3) := by decide +kernel
theorem dX0_hasPiece_9 : decode cX0_hasPiece 9 = .ok (.iconst 1, 1) := by decide +kernel
theorem dX0_hasPiece_10 : decode cX0_hasPiece 10 = .ok (.goto 4, 3) := by decide +kernel
theorem dX0_hasPiece_13 : decode cX0_hasPiece 13 = .ok (.iconst 0, 1) := by decide +kernel
theorem dX0_hasPiece_14 : decode cX0_hasPiece 14 = .ok (.ireturn, 1) := by decide +kernel
theorem dX0_kindOn_0 : decode cX0_kindOn 0 = .ok (.iload_n 1, 1) := by decide +kernel
theorem dX0_kindOn_1 : decode cX0_kindOn 1 = .ok (.invokestatic 48, 3) := by decide +kernel
theorem dX0_kindOn_4 : decode cX0_kindOn 4 = .ok (.ifCond .eq 12, 3) := by decide +kernel
theorem dX0_kindOn_7 : decode cX0_kindOn 7 = .ok (.aload_n 0, 1) := by decide +kernel
theorem dX0_kindOn_8 : decode cX0_kindOn 8 = .ok (.getfield 15, 3) := by decide +kernel
theorem dX0_kindOn_11 : decode cX0_kindOn 11 = .ok (.iload_n 1, 1) := by decide +kernel
theorem dX0_kindOn_12 : decode cX0_kindOn 12 = .ok (.iaload, 1) := by decide +kernel
theorem dX0_kindOn_13 : decode cX0_kindOn 13 = .ok (.goto 4, 3) := by decide +kernel
theorem dX0_kindOn_16 : decode cX0_kindOn 16 = .ok (.iconst 0, 1) := by decide +kernel
theorem dX0_kindOn_17 : decode cX0_kindOn 17 = .ok (.ireturn, 1) := by decide +kernel
theorem dX0_springOn_0 : decode cX0_springOn 0 = .ok (.iload_n 1, 1) := by decide +kernel
theorem dX0_springOn_1 : decode cX0_springOn 1 = .ok (.invokestatic 48, 3) := by decide +kernel
theorem dX0_springOn_4 : decode cX0_springOn 4 = .ok (.ifCond .eq 12, 3) := by decide +kernel
theorem dX0_springOn_7 : decode cX0_springOn 7 = .ok (.aload_n 0, 1) := by decide +kernel
theorem dX0_springOn_8 : decode cX0_springOn 8 = .ok (.getfield 18, 3) := by decide +kernel
theorem dX0_springOn_11 : decode cX0_springOn 11 = .ok (.iload_n 1, 1) := by decide +kernel
theorem dX0_springOn_12 : decode cX0_springOn 12 = .ok (.iaload, 1) := by decide +kernel
theorem dX0_springOn_13 : decode cX0_springOn 13 = .ok (.goto 4, 3) := by decide +kernel
theorem dX0_springOn_16 : decode cX0_springOn 16 = .ok (.iconst 0, 1) := by decide +kernel
theorem dX0_springOn_17 : decode cX0_springOn 17 = .ok (.ireturn, 1) := by decide +kernel
theorem dX0_isTower_0 : decode cX0_isTower 0 = .ok (.iload_n 1, 1) := by decide +kernel
theorem dX0_isTower_1 : decode cX0_isTower 1 = .ok (.invokestatic 48, 3) := by decide +kernel
theorem dX0_isTower_4 : decode cX0_isTower 4 = .ok (.ifCond .eq 17, 3) := by decide +kernel
theorem dX0_isTower_7 : decode cX0_isTower 7 = .ok (.aload_n 0, 1) := by decide +kernel
theorem dX0_isTower_8 : decode cX0_isTower 8 = .ok (.getfield 21, 3) := by decide +kernel
theorem dX0_isTower_11 : decode cX0_isTower 11 = .ok (.iload_n 1, 1) := by decide +kernel
theorem dX0_isTower_12 : decode cX0_isTower 12 = .ok (.iaload, 1) := by decide +kernel
theorem dX0_isTower_13 : decode cX0_isTower 13 = .ok (.iconst 1, 1) := by decide +kernel
theorem dX0_isTower_14 : decode cX0_isTower 14 = .ok (.if_icmp .ne 7, 3) := by decide +kernel
theorem dX0_isTower_17 : decode cX0_isTower 17 = .ok (.iconst 1, 1) := by decide +kernel
theorem dX0_isTower_18 : decode cX0_isTower 18 = .ok (.goto 4, 3) := by decide +kernel
theorem dX0_isTower_21 : decode cX0_isTower 21 = .ok (.iconst 0, 1) := by decide +kernel
theorem dX0_isTower_22 : decode cX0_isTower 22 = .ok (.ireturn, 1) := by decide +kernel
theorem dX0_springsOf_0 : decode cX0_springsOf 0 = .ok (.iconst 0, 1) := by decide +kernel
theorem dX0_springsOf_1 : decode cX0_springsOf 1 = .ok (.istore_n 2, 1) := by decide +kernel
theorem dX0_springsOf_2 : decode cX0_springsOf 2 = .ok (.iconst 0, 1) := by decide +kernel
theorem dX0_springsOf_3 : decode cX0_springsOf 3 = .ok (.istore_n 3, 1) := by decide +kernel
theorem dX0_springsOf_4 : decode cX0_springsOf 4 = .ok (.iload_n 3, 1) := by decide +kernel
theorem dX0_springsOf_5 : decode cX0_springsOf 5 = .ok (.bipush 36, 2) := by decide +kernel
theorem dX0_springsOf_7 : decode cX0_springsOf 7 = .ok (.if_icmp .ge 28, 3) := by decide +kernel
theorem dX0_springsOf_10 : decode cX0_springsOf 10 = .ok (.aload_n 0, 1) := by decide +kernel
theorem dX0_springsOf_11 : decode cX0_springsOf 11 = .ok (.getfield 9, 3) := by decide +kernel
theorem dX0_springsOf_14 : decode cX0_springsOf 14 = .ok (.iload_n 3, 1) := by decide +kernel
theorem dX0_springsOf_15 : decode cX0_springsOf 15 = .ok (.iaload, 1) := by decide +kernel
theorem dX0_springsOf_16 : decode cX0_springsOf 16 = .ok (.iload_n 1, 1) := by decide +kernel
theorem dX0_springsOf_17 : decode cX0_springsOf 17 = .ok (.if_icmp .ne 12, 3) := by decide +kernel
theorem dX0_springsOf_20 : decode cX0_springsOf 20 = .ok (.iload_n 2, 1) := by decide +kernel
theorem dX0_springsOf_21 : decode cX0_springsOf 21 = .ok (.aload_n 0, 1) := by decide +kernel
theorem dX0_springsOf_22 : decode cX0_springsOf 22 = .ok (.getfield 18, 3) := by decide +kernel
theorem dX0_springsOf_25 : decode cX0_springsOf 25 = .ok (.iload_n 3, 1) := by decide +kernel
theorem dX0_springsOf_26 : decode cX0_springsOf 26 = .ok (.iaload, 1) := by decide +kernel
theorem dX0_springsOf_27 : decode cX0_springsOf 27 = .ok (.iadd, 1) := by decide +kernel
theorem dX0_springsOf_28 : decode cX0_springsOf 28 = .ok (.istore_n 2, 1) := by decide +kernel
theorem dX0_springsOf_29 : decode cX0_springsOf 29 = .ok (.iinc 3 1, 3) := by decide +kernel
theorem dX0_springsOf_32 : decode cX0_springsOf 32 = .ok (.goto (-28), 3) := by decide +kernel
theorem dX0_springsOf_35 : decode cX0_springsOf 35 = .ok (.iload_n 2, 1) := by decide +kernel
theorem dX0_springsOf_36 : decode cX0_springsOf 36 = .ok (.ireturn, 1) := by decide +kernel
theorem dX0_springsInAll_0 : decode cX0_springsInAll 0 = .ok (.aload_n 0, 1) := by decide +kernel
theorem dX0_springsInAll_1 : decode cX0_springsInAll 1 = .ok (.iconst 0, 1) := by decide +kernel
theorem dX0_springsInAll_2 : decode cX0_springsInAll 2 = .ok (.invokevirtual 56, 3) := by decide +kernel
theorem dX0_springsInAll_5 : decode cX0_springsInAll 5 = .ok (.aload_n 0, 1) := by decide +kernel
theorem dX0_springsInAll_6 : decode cX0_springsInAll 6 = .ok (.iconst 1, 1) := by decide +kernel
theorem dX0_springsInAll_7 : decode cX0_springsInAll 7 = .ok (.invokevirtual 56, 3) := by decide +kernel
theorem dX0_springsInAll_10 : decode cX0_springsInAll 10 = .ok (.iadd, 1) := by decide +kernel
theorem dX0_springsInAll_11 : decode cX0_springsInAll 11 = .ok (.ireturn, 1) := by decide +kernel
theorem dX0_piecesInAll_0 : decode cX0_piecesInAll 0 = .ok (.iconst 0, 1) := by decide +kernel
theorem dX0_piecesInAll_1 : decode cX0_piecesInAll 1 = .ok (.istore_n 1, 1) := by decide +kernel
theorem dX0_piecesInAll_2 : decode cX0_piecesInAll 2 = .ok (.iconst 0, 1) := by decide +kernel
theorem dX0_piecesInAll_3 : decode cX0_piecesInAll 3 = .ok (.istore_n 2, 1) := by decide +kernel
theorem dX0_piecesInAll_4 : decode cX0_piecesInAll 4 = .ok (.iload_n 2, 1) := by decide +kernel
theorem dX0_piecesInAll_5 : decode cX0_piecesInAll 5 = .ok (.bipush 36, 2) := by decide +kernel
theorem dX0_piecesInAll_7 : decode cX0_piecesInAll 7 = .ok (.if_icmp .ge 22, 3) := by decide +kernel
theorem dX0_piecesInAll_10 : decode cX0_piecesInAll 10 = .ok (.aload_n 0, 1) := by decide +kernel
theorem dX0_piecesInAll_11 : decode cX0_piecesInAll 11 = .ok (.getfield 9, 3) := by decide +kernel
theorem dX0_piecesInAll_14 : decode cX0_piecesInAll 14 = .ok (.iload_n 2, 1) := by decide +kernel
theorem dX0_piecesInAll_15 : decode cX0_piecesInAll 15 = .ok (.iaload, 1) := by decide +kernel
theorem dX0_piecesInAll_16 : decode cX0_piecesInAll 16 = .ok (.iconst (-1), 1) := by decide +kernel
theorem dX0_piecesInAll_17 : decode cX0_piecesInAll 17 = .ok (.if_icmp .eq 6, 3) := by decide +kernel
theorem dX0_piecesInAll_20 : decode cX0_piecesInAll 20 = .ok (.iinc 1 1, 3) := by decide +kernel
theorem dX0_piecesInAll_23 : decode cX0_piecesInAll 23 = .ok (.iinc 2 1, 3) := by decide +kernel
theorem dX0_piecesInAll_26 : decode cX0_piecesInAll 26 = .ok (.goto (-22), 3) := by decide +kernel
theorem dX0_piecesInAll_29 : decode cX0_piecesInAll 29 = .ok (.iload_n 1, 1) := by decide +kernel
theorem dX0_piecesInAll_30 : decode cX0_piecesInAll 30 = .ok (.ireturn, 1) := by decide +kernel
theorem dX0_towersInAll_0 : decode cX0_towersInAll 0 = .ok (.iconst 0, 1) := by decide +kernel
theorem dX0_towersInAll_1 : decode cX0_towersInAll 1 = .ok (.istore_n 1, 1) := by decide +kernel
theorem dX0_towersInAll_2 : decode cX0_towersInAll 2 = .ok (.iconst 0, 1) := by decide +kernel
theorem dX0_towersInAll_3 : decode cX0_towersInAll 3 = .ok (.istore_n 2, 1) := by decide +kernel
theorem dX0_towersInAll_4 : decode cX0_towersInAll 4 = .ok (.iload_n 2, 1) := by decide +kernel
theorem dX0_towersInAll_5 : decode cX0_towersInAll 5 = .ok (.bipush 36, 2) := by decide +kernel
theorem dX0_towersInAll_7 : decode cX0_towersInAll 7 = .ok (.if_icmp .ge 18, 3) := by decide +kernel
theorem dX0_towersInAll_10 : decode cX0_towersInAll 10 = .ok (.iload_n 1, 1) := by decide +kernel
theorem dX0_towersInAll_11 : decode cX0_towersInAll 11 = .ok (.aload_n 0, 1) := by decide +kernel
theorem dX0_towersInAll_12 : decode cX0_towersInAll 12 = .ok (.getfield 21, 3) := by decide +kernel
theorem dX0_towersInAll_15 : decode cX0_towersInAll 15 = .ok (.iload_n 2, 1) := by decide +kernel
theorem dX0_towersInAll_16 : decode cX0_towersInAll 16 = .ok (.iaload, 1) := by decide +kernel
theorem dX0_towersInAll_17 : decode cX0_towersInAll 17 = .ok (.iadd, 1) := by decide +kernel
theorem dX0_towersInAll_18 : decode cX0_towersInAll 18 = .ok (.istore_n 1, 1) := by decide +kernel
theorem dX0_towersInAll_19 : decode cX0_towersInAll 19 = .ok (.iinc 2 1, 3) := by decide +kernel
theorem dX0_towersInAll_22 : decode cX0_towersInAll 22 = .ok (.goto (-18), 3) := by decide +kernel
theorem dX0_towersInAll_25 : decode cX0_towersInAll 25 = .ok (.iload_n 1, 1) := by decide +kernel
theorem dX0_towersInAll_26 : decode cX0_towersInAll 26 = .ok (.ireturn, 1) := by decide +kernel
theorem dX0_movesOf_0 : decode cX0_movesOf 0 = .ok (.iconst 0, 1) := by decide +kernel
theorem dX0_movesOf_1 : decode cX0_movesOf 1 = .ok (.istore_n 2, 1) := by decide +kernel
theorem dX0_movesOf_2 : decode cX0_movesOf 2 = .ok (.iconst 0, 1) := by decide +kernel
theorem dX0_movesOf_3 : decode cX0_movesOf 3 = .ok (.istore_n 3, 1) := by decide +kernel
theorem dX0_movesOf_4 : decode cX0_movesOf 4 = .ok (.iload_n 3, 1) := by decide +kernel
theorem dX0_movesOf_5 : decode cX0_movesOf 5 = .ok (.bipush 36, 2) := by decide +kernel
theorem dX0_movesOf_7 : decode cX0_movesOf 7 = .ok (.if_icmp .ge 48, 3) := by decide +kernel
theorem dX0_movesOf_10 : decode cX0_movesOf 10 = .ok (.iconst 0, 1) := by decide +kernel
theorem dX0_movesOf_11 : decode cX0_movesOf 11 = .ok (.istore 4, 2) := by decide +kernel
theorem dX0_movesOf_13 : decode cX0_movesOf 13 = .ok (.aload_n 0, 1) := by decide +kernel
theorem dX0_movesOf_14 : decode cX0_movesOf 14 = .ok (.getfield 9, 3) := by decide +kernel
theorem dX0_movesOf_17 : decode cX0_movesOf 17 = .ok (.iload_n 3, 1) := by decide +kernel
theorem dX0_movesOf_18 : decode cX0_movesOf 18 = .ok (.iaload, 1) := by decide +kernel
theorem dX0_movesOf_19 : decode cX0_movesOf 19 = .ok (.iload_n 1, 1) := by decide +kernel
theorem dX0_movesOf_20 : decode cX0_movesOf 20 = .ok (.if_icmp .ne 29, 3) := by decide +kernel
theorem dX0_movesOf_23 : decode cX0_movesOf 23 = .ok (.iload 4, 2) := by decide +kernel
theorem dX0_movesOf_25 : decode cX0_movesOf 25 = .ok (.bipush 36, 2) := by decide +kernel
theorem dX0_movesOf_27 : decode cX0_movesOf 27 = .ok (.if_icmp .ge 22, 3) := by decide +kernel
theorem dX0_movesOf_30 : decode cX0_movesOf 30 = .ok (.aload_n 0, 1) := by decide +kernel
theorem dX0_movesOf_31 : decode cX0_movesOf 31 = .ok (.iload_n 3, 1) := by decide +kernel
theorem dX0_movesOf_32 : decode cX0_movesOf 32 = .ok (.iload 4, 2) := by decide +kernel
theorem dX0_movesOf_34 : decode cX0_movesOf 34 = .ok (.invokevirtual 59, 3) := by decide +kernel
theorem dX0_movesOf_37 : decode cX0_movesOf 37 = .ok (.ifCond .eq 6, 3) := by decide +kernel
theorem dX0_movesOf_40 : decode cX0_movesOf 40 = .ok (.iinc 2 1, 3) := by decide +kernel
theorem dX0_movesOf_43 : decode cX0_movesOf 43 = .ok (.iinc 4 1, 3) := by decide +kernel
theorem dX0_movesOf_46 : decode cX0_movesOf 46 = .ok (.goto (-33), 3) := by decide +kernel
theorem dX0_movesOf_49 : decode cX0_movesOf 49 = .ok (.iinc 3 1, 3) := by decide +kernel
theorem dX0_movesOf_52 : decode cX0_movesOf 52 = .ok (.goto (-48), 3) := by decide +kernel
theorem dX0_movesOf_55 : decode cX0_movesOf 55 = .ok (.iload_n 2, 1) := by decide +kernel
theorem dX0_movesOf_56 : decode cX0_movesOf 56 = .ok (.ireturn, 1) := by decide +kernel
theorem dX0_movesFrom_0 : decode cX0_movesFrom 0 = .ok (.iconst 0, 1) := by decide +kernel
theorem dX0_movesFrom_1 : decode cX0_movesFrom 1 = .ok (.istore_n 2, 1) := by decide +kernel
theorem dX0_movesFrom_2 : decode cX0_movesFrom 2 = .ok (.iconst 0, 1) := by decide +kernel
theorem dX0_movesFrom_3 : decode cX0_movesFrom 3 = .ok (.istore_n 3, 1) := by decide +kernel
theorem dX0_movesFrom_4 : decode cX0_movesFrom 4 = .ok (.iload_n 3, 1) := by decide +kernel
theorem dX0_movesFrom_5 : decode cX0_movesFrom 5 = .ok (.bipush 36, 2) := by decide +kernel
theorem dX0_movesFrom_7 : decode cX0_movesFrom 7 = .ok (.if_icmp .ge 21, 3) := by decide +kernel
theorem dX0_movesFrom_10 : decode cX0_movesFrom 10 = .ok (.aload_n 0, 1) := by decide +kernel
theorem dX0_movesFrom_11 : decode cX0_movesFrom 11 = .ok (.iload_n 1, 1) := by decide +kernel
theorem dX0_movesFrom_12 : decode cX0_movesFrom 12 = .ok (.iload_n 3, 1) := by decide +kernel
theorem dX0_movesFrom_13 : decode cX0_movesFrom 13 = .ok (.invokevirtual 59, 3) := by decide +kernel
theorem dX0_movesFrom_16 : decode cX0_movesFrom 16 = .ok (.ifCond .eq 6, 3) := by decide +kernel
theorem dX0_movesFrom_19 : decode cX0_movesFrom 19 = .ok (.iinc 2 1, 3) := by decide +kernel
theorem dX0_movesFrom_22 : decode cX0_movesFrom 22 = .ok (.iinc 3 1, 3) := by decide +kernel
theorem dX0_movesFrom_25 : decode cX0_movesFrom 25 = .ok (.goto (-21), 3) := by decide +kernel
theorem dX0_movesFrom_28 : decode cX0_movesFrom 28 = .ok (.iload_n 2, 1) := by decide +kernel
theorem dX0_movesFrom_29 : decode cX0_movesFrom 29 = .ok (.ireturn, 1) := by decide +kernel
theorem dX0_canMove_0 : decode cX0_canMove 0 = .ok (.aload_n 0, 1) := by decide +kernel
theorem dX0_canMove_1 : decode cX0_canMove 1 = .ok (.iload_n 1, 1) := by decide +kernel
theorem dX0_canMove_2 : decode cX0_canMove 2 = .ok (.iload_n 2, 1) := by decide +kernel
theorem dX0_canMove_3 : decode cX0_canMove 3 = .ok (.invokevirtual 63, 3) := by decide +kernel
theorem dX0_canMove_6 : decode cX0_canMove 6 = .ok (.istore_n 3, 1) := by decide +kernel
theorem dX0_canMove_7 : decode cX0_canMove 7 = .ok (.iload_n 3, 1) := by decide +kernel
theorem dX0_canMove_8 : decode cX0_canMove 8 = .ok (.ifCond .le 16, 3) := by decide +kernel
theorem dX0_canMove_11 : decode cX0_canMove 11 = .ok (.iload_n 3, 1) := by decide +kernel
theorem dX0_canMove_12 : decode cX0_canMove 12 = .ok (.aload_n 0, 1) := by decide +kernel
theorem dX0_canMove_13 : decode cX0_canMove 13 = .ok (.iload_n 1, 1) := by decide +kernel
theorem dX0_canMove_14 : decode cX0_canMove 14 = .ok (.invokevirtual 67, 3) := by decide +kernel
theorem dX0_canMove_17 : decode cX0_canMove 17 = .ok (.if_icmp .gt 7, 3) := by decide +kernel
theorem dX0_canMove_20 : decode cX0_canMove 20 = .ok (.iconst 1, 1) := by decide +kernel
theorem dX0_canMove_21 : decode cX0_canMove 21 = .ok (.goto 4, 3) := by decide +kernel
theorem dX0_canMove_24 : decode cX0_canMove 24 = .ok (.iconst 0, 1) := by decide +kernel
theorem dX0_canMove_25 : decode cX0_canMove 25 = .ok (.ireturn, 1) := by decide +kernel
theorem dX0_price_0 : decode cX0_price 0 = .ok (.aload_n 0, 1) := by decide +kernel
theorem dX0_price_1 : decode cX0_price 1 = .ok (.iload_n 1, 1) := by decide +kernel
theorem dX0_price_2 : decode cX0_price 2 = .ok (.invokevirtual 52, 3) := by decide +kernel
theorem dX0_price_5 : decode cX0_price 5 = .ok (.istore_n 3, 1) := by decide +kernel
theorem dX0_price_6 : decode cX0_price 6 = .ok (.aload_n 0, 1) := by decide +kernel
theorem dX0_price_7 : decode cX0_price 7 = .ok (.iload_n 2, 1) := by decide +kernel
theorem dX0_price_8 : decode cX0_price 8 = .ok (.invokevirtual 52, 3) := by decide +kernel
theorem dX0_price_11 : decode cX0_price 11 = .ok (.istore 4, 2) := by decide +kernel
theorem dX0_price_13 : decode cX0_price 13 = .ok (.iload_n 3, 1) := by decide +kernel
theorem dX0_price_14 : decode cX0_price 14 = .ok (.iconst (-1), 1) := by decide +kernel
theorem dX0_price_15 : decode cX0_price 15 = .ok (.if_icmp .eq 9, 3) := by decide +kernel
theorem dX0_price_18 : decode cX0_price 18 = .ok (.iload 4, 2) := by decide +kernel
theorem dX0_price_20 : decode cX0_price 20 = .ok (.iload_n 3, 1) := by decide +kernel
theorem dX0_price_21 : decode cX0_price 21 = .ok (.if_icmp .ne 5, 3) := by decide +kernel
theorem dX0_price_24 : decode cX0_price 24 = .ok (.iconst 0, 1) := by decide +kernel
theorem dX0_price_25 : decode cX0_price 25 = .ok (.ireturn, 1) := by decide +kernel
theorem dX0_price_26 : decode cX0_price 26 = .ok (.iload_n 2, 1) := by decide +kernel
theorem dX0_price_27 : decode cX0_price 27 = .ok (.bipush 6, 2) := by decide +kernel
theorem dX0_price_29 : decode cX0_price 29 = .ok (.irem, 1) := by decide +kernel
theorem dX0_price_30 : decode cX0_price 30 = .ok (.iload_n 1, 1) := by decide +kernel
theorem dX0_price_31 : decode cX0_price 31 = .ok (.bipush 6, 2) := by decide +kernel
theorem dX0_price_33 : decode cX0_price 33 = .ok (.irem, 1) := by decide +kernel
theorem dX0_price_34 : decode cX0_price 34 = .ok (.isub, 1) := by decide +kernel
theorem dX0_price_35 : decode cX0_price 35 = .ok (.istore 5, 2) := by decide +kernel
theorem dX0_price_37 : decode cX0_price 37 = .ok (.iload_n 2, 1) := by decide +kernel
theorem dX0_price_38 : decode cX0_price 38 = .ok (.bipush 6, 2) := by decide +kernel
theorem dX0_price_40 : decode cX0_price 40 = .ok (.idiv, 1) := by decide +kernel
theorem dX0_price_41 : decode cX0_price 41 = .ok (.iload_n 1, 1) := by decide +kernel
theorem dX0_price_42 : decode cX0_price 42 = .ok (.bipush 6, 2) := by decide +kernel
theorem dX0_price_44 : decode cX0_price 44 = .ok (.idiv, 1) := by decide +kernel
theorem dX0_price_45 : decode cX0_price 45 = .ok (.isub, 1) := by decide +kernel
theorem dX0_price_46 : decode cX0_price 46 = .ok (.istore 6, 2) := by decide +kernel
theorem dX0_price_48 : decode cX0_price 48 = .ok (.iload 5, 2) := by decide +kernel
theorem dX0_price_50 : decode cX0_price 50 = .ok (.invokestatic 70, 3) := by decide +kernel
theorem dX0_price_53 : decode cX0_price 53 = .ok (.istore 7, 2) := by decide +kernel
theorem dX0_price_55 : decode cX0_price 55 = .ok (.iload 6, 2) := by decide +kernel
theorem dX0_price_57 : decode cX0_price 57 = .ok (.invokestatic 70, 3) := by decide +kernel
theorem dX0_price_60 : decode cX0_price 60 = .ok (.istore 8, 2) := by decide +kernel
theorem dX0_price_62 : decode cX0_price 62 = .ok (.aload_n 0, 1) := by decide +kernel
theorem dX0_price_63 : decode cX0_price 63 = .ok (.iload_n 1, 1) := by decide +kernel
theorem dX0_price_64 : decode cX0_price 64 = .ok (.invokevirtual 75, 3) := by decide +kernel
theorem dX0_price_67 : decode cX0_price 67 = .ok (.tableswitch 106 0 3 #[29, 46, 70, 91], 29) := by decide +kernel
theorem dX0_price_96 : decode cX0_price 96 = .ok (.iload 7, 2) := by decide +kernel
theorem dX0_price_98 : decode cX0_price 98 = .ok (.iload 8, 2) := by decide +kernel
theorem dX0_price_100 : decode cX0_price 100 = .ok (.invokestatic 78, 3) := by decide +kernel
theorem dX0_price_103 : decode cX0_price 103 = .ok (.iconst 1, 1) := by decide +kernel
theorem dX0_price_104 : decode cX0_price 104 = .ok (.if_icmp .ne 7, 3) := by decide +kernel
theorem dX0_price_107 : decode cX0_price 107 = .ok (.iconst 1, 1) := by decide +kernel
theorem dX0_price_108 : decode cX0_price 108 = .ok (.goto 4, 3) := by decide +kernel
theorem dX0_price_111 : decode cX0_price 111 = .ok (.iconst 0, 1) := by decide +kernel
theorem dX0_price_112 : decode cX0_price 112 = .ok (.ireturn, 1) := by decide +kernel
theorem dX0_price_113 : decode cX0_price 113 = .ok (.iload 7, 2) := by decide +kernel
theorem dX0_price_115 : decode cX0_price 115 = .ok (.ifCond .eq 8, 3) := by decide +kernel
theorem dX0_price_118 : decode cX0_price 118 = .ok (.iload 8, 2) := by decide +kernel
theorem dX0_price_120 : decode cX0_price 120 = .ok (.ifCond .ne 15, 3) := by decide +kernel
theorem dX0_price_123 : decode cX0_price 123 = .ok (.aload_n 0, 1) := by decide +kernel
theorem dX0_price_124 : decode cX0_price 124 = .ok (.iload_n 1, 1) := by decide +kernel
theorem dX0_price_125 : decode cX0_price 125 = .ok (.iload 5, 2) := by decide +kernel
theorem dX0_price_127 : decode cX0_price 127 = .ok (.iload 6, 2) := by decide +kernel
theorem dX0_price_129 : decode cX0_price 129 = .ok (.invokevirtual 81, 3) := by decide +kernel
theorem dX0_price_132 : decode cX0_price 132 = .ok (.goto 4, 3) := by decide +kernel
theorem dX0_price_135 : decode cX0_price 135 = .ok (.iconst 0, 1) := by decide +kernel
theorem dX0_price_136 : decode cX0_price 136 = .ok (.ireturn, 1) := by decide +kernel
theorem dX0_price_137 : decode cX0_price 137 = .ok (.iload 7, 2) := by decide +kernel
theorem dX0_price_139 : decode cX0_price 139 = .ok (.iload 8, 2) := by decide +kernel
theorem dX0_price_141 : decode cX0_price 141 = .ok (.if_icmp .ne 15, 3) := by decide +kernel
theorem dX0_price_144 : decode cX0_price 144 = .ok (.aload_n 0, 1) := by decide +kernel
theorem dX0_price_145 : decode cX0_price 145 = .ok (.iload_n 1, 1) := by decide +kernel
theorem dX0_price_146 : decode cX0_price 146 = .ok (.iload 5, 2) := by decide +kernel
theorem dX0_price_148 : decode cX0_price 148 = .ok (.iload 6, 2) := by decide +kernel
theorem dX0_price_150 : decode cX0_price 150 = .ok (.invokevirtual 81, 3) := by decide +kernel
theorem dX0_price_153 : decode cX0_price 153 = .ok (.goto 4, 3) := by decide +kernel
theorem dX0_price_156 : decode cX0_price 156 = .ok (.iconst 0, 1) := by decide +kernel
theorem dX0_price_157 : decode cX0_price 157 = .ok (.ireturn, 1) := by decide +kernel
theorem dX0_price_158 : decode cX0_price 158 = .ok (.iload 7, 2) := by decide +kernel
theorem dX0_price_160 : decode cX0_price 160 = .ok (.iload 8, 2) := by decide +kernel
theorem dX0_price_162 : decode cX0_price 162 = .ok (.imul, 1) := by decide +kernel
theorem dX0_price_163 : decode cX0_price 163 = .ok (.iconst 2, 1) := by decide +kernel
theorem dX0_price_164 : decode cX0_price 164 = .ok (.if_icmp .ne 7, 3) := by decide +kernel
theorem dX0_price_167 : decode cX0_price 167 = .ok (.iconst 2, 1) := by decide +kernel
theorem dX0_price_168 : decode cX0_price 168 = .ok (.goto 4, 3) := by decide +kernel
theorem dX0_price_171 : decode cX0_price 171 = .ok (.iconst 0, 1) := by decide +kernel
theorem dX0_price_172 : decode cX0_price 172 = .ok (.ireturn, 1) := by decide +kernel
theorem dX0_price_173 : decode cX0_price 173 = .ok (.iload_n 3, 1) := by decide +kernel
theorem dX0_price_174 : decode cX0_price 174 = .ok (.ifCond .ne 7, 3) := by decide +kernel
theorem dX0_price_177 : decode cX0_price 177 = .ok (.iconst 1, 1) := by decide +kernel
theorem dX0_price_178 : decode cX0_price 178 = .ok (.goto 4, 3) := by decide +kernel
theorem dX0_price_181 : decode cX0_price 181 = .ok (.iconst (-1), 1) := by decide +kernel
theorem dX0_price_182 : decode cX0_price 182 = .ok (.istore 9, 2) := by decide +kernel
theorem dX0_price_184 : decode cX0_price 184 = .ok (.iload 6, 2) := by decide +kernel
theorem dX0_price_186 : decode cX0_price 186 = .ok (.iload 9, 2) := by decide +kernel
theorem dX0_price_188 : decode cX0_price 188 = .ok (.if_icmp .ne 23, 3) := by decide +kernel
theorem dX0_price_191 : decode cX0_price 191 = .ok (.iload 7, 2) := by decide +kernel
theorem dX0_price_193 : decode cX0_price 193 = .ok (.iload 4, 2) := by decide +kernel
theorem dX0_price_195 : decode cX0_price 195 = .ok (.iconst (-1), 1) := by decide +kernel
theorem dX0_price_196 : decode cX0_price 196 = .ok (.if_icmp .ne 7, 3) := by decide +kernel
theorem dX0_price_199 : decode cX0_price 199 = .ok (.iconst 0, 1) := by decide +kernel
theorem dX0_price_200 : decode cX0_price 200 = .ok (.goto 4, 3) := by decide +kernel
theorem dX0_price_203 : decode cX0_price 203 = .ok (.iconst 1, 1) := by decide +kernel
theorem dX0_price_204 : decode cX0_price 204 = .ok (.if_icmp .ne 7, 3) := by decide +kernel
theorem dX0_price_207 : decode cX0_price 207 = .ok (.iconst 1, 1) := by decide +kernel
theorem dX0_price_208 : decode cX0_price 208 = .ok (.goto 4, 3) := by decide +kernel
theorem dX0_price_211 : decode cX0_price 211 = .ok (.iconst 0, 1) := by decide +kernel
theorem dX0_price_212 : decode cX0_price 212 = .ok (.ireturn, 1) := by decide +kernel
theorem dX0_priceAlong_0 : decode cX0_priceAlong 0 = .ok (.iload_n 2, 1) := by decide +kernel
theorem dX0_priceAlong_1 : decode cX0_priceAlong 1 = .ok (.invokestatic 70, 3) := by decide +kernel
theorem dX0_priceAlong_4 : decode cX0_priceAlong 4 = .ok (.iload_n 3, 1) := by decide +kernel
theorem dX0_priceAlong_5 : decode cX0_priceAlong 5 = .ok (.invokestatic 70, 3) := by decide +kernel
theorem dX0_priceAlong_8 : decode cX0_priceAlong 8 = .ok (.invokestatic 78, 3) := by decide +kernel
theorem dX0_priceAlong_11 : decode cX0_priceAlong 11 = .ok (.istore 4, 2) := by decide +kernel
theorem dX0_priceAlong_13 : decode cX0_priceAlong 13 = .ok (.bipush 6, 2) := by decide +kernel
theorem dX0_priceAlong_15 : decode cX0_priceAlong 15 = .ok (.iload_n 3, 1) := by decide +kernel
theorem dX0_priceAlong_16 : decode cX0_priceAlong 16 = .ok (.iconst 0, 1) := by decide +kernel
theorem dX0_priceAlong_17 : decode cX0_priceAlong 17 = .ok (.invokestatic 85, 3) := by decide +kernel
theorem dX0_priceAlong_20 : decode cX0_priceAlong 20 = .ok (.imul, 1) := by decide +kernel
theorem dX0_priceAlong_21 : decode cX0_priceAlong 21 = .ok (.iload_n 2, 1) := by decide +kernel
theorem dX0_priceAlong_22 : decode cX0_priceAlong 22 = .ok (.iconst 0, 1) := by decide +kernel
theorem dX0_priceAlong_23 : decode cX0_priceAlong 23 = .ok (.invokestatic 85, 3) := by decide +kernel
theorem dX0_priceAlong_26 : decode cX0_priceAlong 26 = .ok (.iadd, 1) := by decide +kernel
theorem dX0_priceAlong_27 : decode cX0_priceAlong 27 = .ok (.istore 5, 2) := by decide +kernel
theorem dX0_priceAlong_29 : decode cX0_priceAlong 29 = .ok (.iconst 1, 1) := by decide +kernel
theorem dX0_priceAlong_30 : decode cX0_priceAlong 30 = .ok (.istore 6, 2) := by decide +kernel
theorem dX0_priceAlong_32 : decode cX0_priceAlong 32 = .ok (.iload 6, 2) := by decide +kernel
theorem dX0_priceAlong_34 : decode cX0_priceAlong 34 = .ok (.iload 4, 2) := by decide +kernel
theorem dX0_priceAlong_36 : decode cX0_priceAlong 36 = .ok (.if_icmp .ge 43, 3) := by decide +kernel
theorem dX0_priceAlong_39 : decode cX0_priceAlong 39 = .ok (.iload_n 1, 1) := by decide +kernel
theorem dX0_priceAlong_40 : decode cX0_priceAlong 40 = .ok (.iload 6, 2) := by decide +kernel
theorem dX0_priceAlong_42 : decode cX0_priceAlong 42 = .ok (.iload 5, 2) := by decide +kernel
theorem dX0_priceAlong_44 : decode cX0_priceAlong 44 = .ok (.imul, 1) := by decide +kernel
theorem dX0_priceAlong_45 : decode cX0_priceAlong 45 = .ok (.iadd, 1) := by decide +kernel
theorem dX0_priceAlong_46 : decode cX0_priceAlong 46 = .ok (.istore 7, 2) := by decide +kernel
theorem dX0_priceAlong_48 : decode cX0_priceAlong 48 = .ok (.iload 7, 2) := by decide +kernel
theorem dX0_priceAlong_50 : decode cX0_priceAlong 50 = .ok (.ifCond .lt 21, 3) := by decide +kernel
theorem dX0_priceAlong_53 : decode cX0_priceAlong 53 = .ok (.iload 7, 2) := by decide +kernel
theorem dX0_priceAlong_55 : decode cX0_priceAlong 55 = .ok (.bipush 36, 2) := by decide +kernel
theorem dX0_priceAlong_57 : decode cX0_priceAlong 57 = .ok (.if_icmp .ge 14, 3) := by decide +kernel
theorem dX0_priceAlong_60 : decode cX0_priceAlong 60 = .ok (.aload_n 0, 1) := by decide +kernel
theorem dX0_priceAlong_61 : decode cX0_priceAlong 61 = .ok (.getfield 9, 3) := by decide +kernel
theorem dX0_priceAlong_64 : decode cX0_priceAlong 64 = .ok (.iload 7, 2) := by decide +kernel
theorem dX0_priceAlong_66 : decode cX0_priceAlong 66 = .ok (.iaload, 1) := by decide +kernel
theorem dX0_priceAlong_67 : decode cX0_priceAlong 67 = .ok (.iconst (-1), 1) := by decide +kernel
theorem dX0_priceAlong_68 : decode cX0_priceAlong 68 = .ok (.if_icmp .eq 5, 3) := by decide +kernel
theorem dX0_priceAlong_71 : decode cX0_priceAlong 71 = .ok (.iconst 0, 1) := by decide +kernel
theorem dX0_priceAlong_72 : decode cX0_priceAlong 72 = .ok (.ireturn, 1) := by decide +kernel
theorem dX0_priceAlong_73 : decode cX0_priceAlong 73 = .ok (.iinc 6 1, 3) := by decide +kernel
theorem dX0_priceAlong_76 : decode cX0_priceAlong 76 = .ok (.goto (-44), 3) := by decide +kernel
theorem dX0_priceAlong_79 : decode cX0_priceAlong 79 = .ok (.iload 4, 2) := by decide +kernel
theorem dX0_priceAlong_81 : decode cX0_priceAlong 81 = .ok (.ireturn, 1) := by decide +kernel
theorem dX1_init_0 : decode cX1_init 0 = .ok (.aload_n 0, 1) := by decide +kernel
theorem dX1_init_1 : decode cX1_init 1 = .ok (.invokespecial 3, 3) := by decide +kernel
theorem dX1_init_4 : decode cX1_init 4 = .ok (.aload_n 0, 1) := by decide +kernel
theorem dX1_init_5 : decode cX1_init 5 = .ok (.new 9, 3) := by decide +kernel
theorem dX1_init_8 : decode cX1_init 8 = .ok (.dup, 1) := by decide +kernel
theorem dX1_init_9 : decode cX1_init 9 = .ok (.invokespecial 11, 3) := by decide +kernel
theorem dX1_init_12 : decode cX1_init 12 = .ok (.putfield 12, 3) := by decide +kernel
theorem dX1_init_15 : decode cX1_init 15 = .ok (.aload_n 0, 1) := by decide +kernel
theorem dX1_init_16 : decode cX1_init 16 = .ok (.bipush 9, 2) := by decide +kernel
theorem dX1_init_18 : decode cX1_init 18 = .ok (.putfield 18, 3) := by decide +kernel
theorem dX1_init_21 : decode cX1_init 21 = .ok (.aload_n 0, 1) := by decide +kernel
theorem dX1_init_22 : decode cX1_init 22 = .ok (.iconst 1, 1) := by decide +kernel
theorem dX1_init_23 : decode cX1_init 23 = .ok (.putfield 22, 3) := by decide +kernel
theorem dX1_init_26 : decode cX1_init 26 = .ok (.aload_n 0, 1) := by decide +kernel
theorem dX1_init_27 : decode cX1_init 27 = .ok (.iconst 2, 1) := by decide +kernel
theorem dX1_init_28 : decode cX1_init 28 = .ok (.putfield 25, 3) := by decide +kernel
theorem dX1_init_31 : decode cX1_init 31 = .ok (.aload_n 0, 1) := by decide +kernel
theorem dX1_init_32 : decode cX1_init 32 = .ok (.iconst (-1), 1) := by decide +kernel
theorem dX1_init_33 : decode cX1_init 33 = .ok (.putfield 28, 3) := by decide +kernel
theorem dX1_init_36 : decode cX1_init 36 = .ok (.return_, 1) := by decide +kernel
theorem dX1_copyFrom_0 : decode cX1_copyFrom 0 = .ok (.aload_n 0, 1) := by decide +kernel
theorem dX1_copyFrom_1 : decode cX1_copyFrom 1 = .ok (.getfield 12, 3) := by decide +kernel
theorem dX1_copyFrom_4 : decode cX1_copyFrom 4 = .ok (.aload_n 1, 1) := by decide +kernel
theorem dX1_copyFrom_5 : decode cX1_copyFrom 5 = .ok (.getfield 12, 3) := by decide +kernel
theorem dX1_copyFrom_8 : decode cX1_copyFrom 8 = .ok (.invokevirtual 31, 3) := by decide +kernel
theorem dX1_copyFrom_11 : decode cX1_copyFrom 11 = .ok (.aload_n 0, 1) := by decide +kernel
theorem dX1_copyFrom_12 : decode cX1_copyFrom 12 = .ok (.aload_n 1, 1) := by decide +kernel
theorem dX1_copyFrom_13 : decode cX1_copyFrom 13 = .ok (.getfield 18, 3) := by decide +kernel
theorem dX1_copyFrom_16 : decode cX1_copyFrom 16 = .ok (.putfield 18, 3) := by decide +kernel
theorem dX1_copyFrom_19 : decode cX1_copyFrom 19 = .ok (.aload_n 0, 1) := by decide +kernel
theorem dX1_copyFrom_20 : decode cX1_copyFrom 20 = .ok (.aload_n 1, 1) := by decide +kernel
theorem dX1_copyFrom_21 : decode cX1_copyFrom 21 = .ok (.getfield 22, 3) := by decide +kernel
theorem dX1_copyFrom_24 : decode cX1_copyFrom 24 = .ok (.putfield 22, 3) := by decide +kernel
theorem dX1_copyFrom_27 : decode cX1_copyFrom 27 = .ok (.aload_n 0, 1) := by decide +kernel
theorem dX1_copyFrom_28 : decode cX1_copyFrom 28 = .ok (.aload_n 1, 1) := by decide +kernel
theorem dX1_copyFrom_29 : decode cX1_copyFrom 29 = .ok (.getfield 25, 3) := by decide +kernel
theorem dX1_copyFrom_32 : decode cX1_copyFrom 32 = .ok (.putfield 25, 3) := by decide +kernel
theorem dX1_copyFrom_35 : decode cX1_copyFrom 35 = .ok (.aload_n 0, 1) := by decide +kernel
theorem dX1_copyFrom_36 : decode cX1_copyFrom 36 = .ok (.aload_n 1, 1) := by decide +kernel
theorem dX1_copyFrom_37 : decode cX1_copyFrom 37 = .ok (.getfield 35, 3) := by decide +kernel
theorem dX1_copyFrom_40 : decode cX1_copyFrom 40 = .ok (.putfield 35, 3) := by decide +kernel
theorem dX1_copyFrom_43 : decode cX1_copyFrom 43 = .ok (.aload_n 0, 1) := by decide +kernel
theorem dX1_copyFrom_44 : decode cX1_copyFrom 44 = .ok (.aload_n 1, 1) := by decide +kernel
theorem dX1_copyFrom_45 : decode cX1_copyFrom 45 = .ok (.getfield 38, 3) := by decide +kernel
theorem dX1_copyFrom_48 : decode cX1_copyFrom 48 = .ok (.putfield 38, 3) := by decide +kernel
theorem dX1_copyFrom_51 : decode cX1_copyFrom 51 = .ok (.aload_n 0, 1) := by decide +kernel
theorem dX1_copyFrom_52 : decode cX1_copyFrom 52 = .ok (.aload_n 1, 1) := by decide +kernel
theorem dX1_copyFrom_53 : decode cX1_copyFrom 53 = .ok (.getfield 28, 3) := by decide +kernel
theorem dX1_copyFrom_56 : decode cX1_copyFrom 56 = .ok (.putfield 28, 3) := by decide +kernel
theorem dX1_copyFrom_59 : decode cX1_copyFrom 59 = .ok (.aload_n 0, 1) := by decide +kernel
theorem dX1_copyFrom_60 : decode cX1_copyFrom 60 = .ok (.aload_n 1, 1) := by decide +kernel
theorem dX1_copyFrom_61 : decode cX1_copyFrom 61 = .ok (.getfield 41, 3) := by decide +kernel
theorem dX1_copyFrom_64 : decode cX1_copyFrom 64 = .ok (.putfield 41, 3) := by decide +kernel
theorem dX1_copyFrom_67 : decode cX1_copyFrom 67 = .ok (.aload_n 0, 1) := by decide +kernel
theorem dX1_copyFrom_68 : decode cX1_copyFrom 68 = .ok (.aload_n 1, 1) := by decide +kernel
theorem dX1_copyFrom_69 : decode cX1_copyFrom 69 = .ok (.getfield 44, 3) := by decide +kernel
theorem dX1_copyFrom_72 : decode cX1_copyFrom 72 = .ok (.putfield 44, 3) := by decide +kernel
theorem dX1_copyFrom_75 : decode cX1_copyFrom 75 = .ok (.aload_n 0, 1) := by decide +kernel
theorem dX1_copyFrom_76 : decode cX1_copyFrom 76 = .ok (.aload_n 1, 1) := by decide +kernel
theorem dX1_copyFrom_77 : decode cX1_copyFrom 77 = .ok (.getfield 48, 3) := by decide +kernel
theorem dX1_copyFrom_80 : decode cX1_copyFrom 80 = .ok (.putfield 48, 3) := by decide +kernel
theorem dX1_copyFrom_83 : decode cX1_copyFrom 83 = .ok (.aload_n 0, 1) := by decide +kernel
theorem dX1_copyFrom_84 : decode cX1_copyFrom 84 = .ok (.aload_n 1, 1) := by decide +kernel
theorem dX1_copyFrom_85 : decode cX1_copyFrom 85 = .ok (.getfield 51, 3) := by decide +kernel
theorem dX1_copyFrom_88 : decode cX1_copyFrom 88 = .ok (.putfield 51, 3) := by decide +kernel
theorem dX1_copyFrom_91 : decode cX1_copyFrom 91 = .ok (.aload_n 0, 1) := by decide +kernel
theorem dX1_copyFrom_92 : decode cX1_copyFrom 92 = .ok (.aload_n 1, 1) := by decide +kernel
theorem dX1_copyFrom_93 : decode cX1_copyFrom 93 = .ok (.getfield 54, 3) := by decide +kernel
theorem dX1_copyFrom_96 : decode cX1_copyFrom 96 = .ok (.putfield 54, 3) := by decide +kernel
theorem dX1_copyFrom_99 : decode cX1_copyFrom 99 = .ok (.aload_n 0, 1) := by decide +kernel
theorem dX1_copyFrom_100 : decode cX1_copyFrom 100 = .ok (.aload_n 1, 1) := by decide +kernel
theorem dX1_copyFrom_101 : decode cX1_copyFrom 101 = .ok (.getfield 57, 3) := by decide +kernel
theorem dX1_copyFrom_104 : decode cX1_copyFrom 104 = .ok (.putfield 57, 3) := by decide +kernel
theorem dX1_copyFrom_107 : decode cX1_copyFrom 107 = .ok (.aload_n 0, 1) := by decide +kernel
theorem dX1_copyFrom_108 : decode cX1_copyFrom 108 = .ok (.aload_n 1, 1) := by decide +kernel
theorem dX1_copyFrom_109 : decode cX1_copyFrom 109 = .ok (.getfield 60, 3) := by decide +kernel
theorem dX1_copyFrom_112 : decode cX1_copyFrom 112 = .ok (.putfield 60, 3) := by decide +kernel
theorem dX1_copyFrom_115 : decode cX1_copyFrom 115 = .ok (.aload_n 0, 1) := by decide +kernel
theorem dX1_copyFrom_116 : decode cX1_copyFrom 116 = .ok (.aload_n 1, 1) := by decide +kernel
theorem dX1_copyFrom_117 : decode cX1_copyFrom 117 = .ok (.getfield 63, 3) := by decide +kernel
theorem dX1_copyFrom_120 : decode cX1_copyFrom 120 = .ok (.putfield 63, 3) := by decide +kernel
theorem dX1_copyFrom_123 : decode cX1_copyFrom 123 = .ok (.return_, 1) := by decide +kernel
theorem dX1_begin_0 : decode cX1_begin 0 = .ok (.aload_n 0, 1) := by decide +kernel
theorem dX1_begin_1 : decode cX1_begin 1 = .ok (.getfield 12, 3) := by decide +kernel
theorem dX1_begin_4 : decode cX1_begin 4 = .ok (.aload_n 0, 1) := by decide +kernel
theorem dX1_begin_5 : decode cX1_begin 5 = .ok (.getfield 18, 3) := by decide +kernel
theorem dX1_begin_8 : decode cX1_begin 8 = .ok (.iconst 2, 1) := by decide +kernel
theorem dX1_begin_9 : decode cX1_begin 9 = .ok (.idiv, 1) := by decide +kernel
theorem dX1_begin_10 : decode cX1_begin 10 = .ok (.invokevirtual 66, 3) := by decide +kernel
theorem dX1_begin_13 : decode cX1_begin 13 = .ok (.aload_n 0, 1) := by decide +kernel
theorem dX1_begin_14 : decode cX1_begin 14 = .ok (.iconst 0, 1) := by decide +kernel
theorem dX1_begin_15 : decode cX1_begin 15 = .ok (.putfield 35, 3) := by decide +kernel
theorem dX1_begin_18 : decode cX1_begin 18 = .ok (.aload_n 0, 1) := by decide +kernel
theorem dX1_begin_19 : decode cX1_begin 19 = .ok (.iconst 0, 1) := by decide +kernel
theorem dX1_begin_20 : decode cX1_begin 20 = .ok (.putfield 38, 3) := by decide +kernel
theorem dX1_begin_23 : decode cX1_begin 23 = .ok (.aload_n 0, 1) := by decide +kernel
theorem dX1_begin_24 : decode cX1_begin 24 = .ok (.iconst (-1), 1) := by decide +kernel
theorem dX1_begin_25 : decode cX1_begin 25 = .ok (.putfield 28, 3) := by decide +kernel
theorem dX1_begin_28 : decode cX1_begin 28 = .ok (.aload_n 0, 1) := by decide +kernel
theorem dX1_begin_29 : decode cX1_begin 29 = .ok (.iconst 0, 1) := by decide +kernel
theorem dX1_begin_30 : decode cX1_begin 30 = .ok (.putfield 41, 3) := by decide +kernel
theorem dX1_begin_33 : decode cX1_begin 33 = .ok (.aload_n 0, 1) := by decide +kernel
theorem dX1_begin_34 : decode cX1_begin 34 = .ok (.iconst 0, 1) := by decide +kernel
theorem dX1_begin_35 : decode cX1_begin 35 = .ok (.putfield 44, 3) := by decide +kernel
theorem dX1_begin_38 : decode cX1_begin 38 = .ok (.aload_n 0, 1) := by decide +kernel
theorem dX1_begin_39 : decode cX1_begin 39 = .ok (.aload_n 0, 1) := by decide +kernel
theorem dX1_begin_40 : decode cX1_begin 40 = .ok (.getfield 12, 3) := by decide +kernel
theorem dX1_begin_43 : decode cX1_begin 43 = .ok (.invokevirtual 70, 3) := by decide +kernel
theorem dX1_begin_46 : decode cX1_begin 46 = .ok (.putfield 48, 3) := by decide +kernel
theorem dX1_begin_49 : decode cX1_begin 49 = .ok (.aload_n 0, 1) := by decide +kernel
theorem dX1_begin_50 : decode cX1_begin 50 = .ok (.iconst 0, 1) := by decide +kernel
theorem dX1_begin_51 : decode cX1_begin 51 = .ok (.putfield 51, 3) := by decide +kernel
theorem dX1_begin_54 : decode cX1_begin 54 = .ok (.aload_n 0, 1) := by decide +kernel
theorem dX1_begin_55 : decode cX1_begin 55 = .ok (.iconst 0, 1) := by decide +kernel
theorem dX1_begin_56 : decode cX1_begin 56 = .ok (.putfield 54, 3) := by decide +kernel
theorem dX1_begin_59 : decode cX1_begin 59 = .ok (.aload_n 0, 1) := by decide +kernel
theorem dX1_begin_60 : decode cX1_begin 60 = .ok (.iconst 0, 1) := by decide +kernel
theorem dX1_begin_61 : decode cX1_begin 61 = .ok (.putfield 57, 3) := by decide +kernel
theorem dX1_begin_64 : decode cX1_begin 64 = .ok (.aload_n 0, 1) := by decide +kernel
theorem dX1_begin_65 : decode cX1_begin 65 = .ok (.iconst 0, 1) := by decide +kernel
theorem dX1_begin_66 : decode cX1_begin 66 = .ok (.putfield 60, 3) := by decide +kernel
theorem dX1_begin_69 : decode cX1_begin 69 = .ok (.aload_n 0, 1) := by decide +kernel
theorem dX1_begin_70 : decode cX1_begin 70 = .ok (.iconst 0, 1) := by decide +kernel
theorem dX1_begin_71 : decode cX1_begin 71 = .ok (.putfield 63, 3) := by decide +kernel
theorem dX1_begin_74 : decode cX1_begin 74 = .ok (.return_, 1) := by decide +kernel
theorem dX1_isOver_0 : decode cX1_isOver 0 = .ok (.aload_n 0, 1) := by decide +kernel
theorem dX1_isOver_1 : decode cX1_isOver 1 = .ok (.getfield 38, 3) := by decide +kernel
theorem dX1_isOver_4 : decode cX1_isOver 4 = .ok (.ifCond .eq 7, 3) := by decide +kernel
theorem dX1_isOver_7 : decode cX1_isOver 7 = .ok (.iconst 1, 1) := by decide +kernel
theorem dX1_isOver_8 : decode cX1_isOver 8 = .ok (.goto 4, 3) := by decide +kernel
theorem dX1_isOver_11 : decode cX1_isOver 11 = .ok (.iconst 0, 1) := by decide +kernel
theorem dX1_isOver_12 : decode cX1_isOver 12 = .ok (.ireturn, 1) := by decide +kernel
theorem dX1_setting_0 : decode cX1_setting 0 = .ok (.iload_n 1, 1) := by decide +kernel
theorem dX1_setting_1 : decode cX1_setting 1 = .ok (.lookupswitch 37 #[(0, 27), (1, 32)], 27) := by decide +kernel
theorem dX1_setting_28 : decode cX1_setting 28 = .ok (.aload_n 0, 1) := by decide +kernel
theorem dX1_setting_29 : decode cX1_setting 29 = .ok (.getfield 18, 3) := by decide +kernel
theorem dX1_setting_32 : decode cX1_setting 32 = .ok (.ireturn, 1) := by decide +kernel
theorem dX1_setting_33 : decode cX1_setting 33 = .ok (.aload_n 0, 1) := by decide +kernel
theorem dX1_setting_34 : decode cX1_setting 34 = .ok (.getfield 22, 3) := by decide +kernel
theorem dX1_setting_37 : decode cX1_setting 37 = .ok (.ireturn, 1) := by decide +kernel
theorem dX1_setting_38 : decode cX1_setting 38 = .ok (.aload_n 0, 1) := by decide +kernel
theorem dX1_setting_39 : decode cX1_setting 39 = .ok (.getfield 25, 3) := by decide +kernel
theorem dX1_setting_42 : decode cX1_setting 42 = .ok (.ireturn, 1) := by decide +kernel
theorem dX1_changeSetting_0 : decode cX1_changeSetting 0 = .ok (.iload_n 1, 1) := by decide +kernel
theorem dX1_changeSetting_1 : decode cX1_changeSetting 1 = .ok (.lookupswitch 47 #[(0, 27), (1, 39)], 27) := by decide +kernel
theorem dX1_changeSetting_28 : decode cX1_changeSetting 28 = .ok (.aload_n 0, 1) := by decide +kernel
theorem dX1_changeSetting_29 : decode cX1_changeSetting 29 = .ok (.iload_n 2, 1) := by decide +kernel
theorem dX1_changeSetting_30 : decode cX1_changeSetting 30 = .ok (.putfield 18, 3) := by decide +kernel
theorem dX1_changeSetting_33 : decode cX1_changeSetting 33 = .ok (.aload_n 0, 1) := by decide +kernel
theorem dX1_changeSetting_34 : decode cX1_changeSetting 34 = .ok (.invokevirtual 74, 3) := by decide +kernel
theorem dX1_changeSetting_37 : decode cX1_changeSetting 37 = .ok (.goto 16, 3) := by decide +kernel
theorem dX1_changeSetting_40 : decode cX1_changeSetting 40 = .ok (.aload_n 0, 1) := by decide +kernel
theorem dX1_changeSetting_41 : decode cX1_changeSetting 41 = .ok (.iload_n 2, 1) := by decide +kernel
theorem dX1_changeSetting_42 : decode cX1_changeSetting 42 = .ok (.putfield 22, 3) := by decide +kernel
theorem dX1_changeSetting_45 : decode cX1_changeSetting 45 = .ok (.goto 8, 3) := by decide +kernel
theorem dX1_changeSetting_48 : decode cX1_changeSetting 48 = .ok (.aload_n 0, 1) := by decide +kernel
theorem dX1_changeSetting_49 : decode cX1_changeSetting 49 = .ok (.iload_n 2, 1) := by decide +kernel
theorem dX1_changeSetting_50 : decode cX1_changeSetting 50 = .ok (.putfield 25, 3) := by decide +kernel
theorem dX1_changeSetting_53 : decode cX1_changeSetting 53 = .ok (.return_, 1) := by decide +kernel
theorem dX1_cutSprings_0 : decode cX1_cutSprings 0 = .ok (.iconst 0, 1) := by decide +kernel
theorem dX1_cutSprings_1 : decode cX1_cutSprings 1 = .ok (.istore_n 1, 1) := by decide +kernel
theorem dX1_cutSprings_2 : decode cX1_cutSprings 2 = .ok (.iload_n 1, 1) := by decide +kernel
theorem dX1_cutSprings_3 : decode cX1_cutSprings 3 = .ok (.bipush 36, 2) := by decide +kernel
theorem dX1_cutSprings_5 : decode cX1_cutSprings 5 = .ok (.if_icmp .ge 49, 3) := by decide +kernel
theorem dX1_cutSprings_8 : decode cX1_cutSprings 8 = .ok (.aload_n 0, 1) := by decide +kernel
theorem dX1_cutSprings_9 : decode cX1_cutSprings 9 = .ok (.getfield 12, 3) := by decide +kernel
theorem dX1_cutSprings_12 : decode cX1_cutSprings 12 = .ok (.iload_n 1, 1) := by decide +kernel
theorem dX1_cutSprings_13 : decode cX1_cutSprings 13 = .ok (.invokevirtual 77, 3) := by decide +kernel
theorem dX1_cutSprings_16 : decode cX1_cutSprings 16 = .ok (.aload_n 0, 1) := by decide +kernel
theorem dX1_cutSprings_17 : decode cX1_cutSprings 17 = .ok (.getfield 18, 3) := by decide +kernel
theorem dX1_cutSprings_20 : decode cX1_cutSprings 20 = .ok (.isub, 1) := by decide +kernel
theorem dX1_cutSprings_21 : decode cX1_cutSprings 21 = .ok (.istore_n 2, 1) := by decide +kernel
theorem dX1_cutSprings_22 : decode cX1_cutSprings 22 = .ok (.iload_n 2, 1) := by decide +kernel
theorem dX1_cutSprings_23 : decode cX1_cutSprings 23 = .ok (.ifCond .le 25, 3) := by decide +kernel
theorem dX1_cutSprings_26 : decode cX1_cutSprings 26 = .ok (.aload_n 0, 1) := by decide +kernel
theorem dX1_cutSprings_27 : decode cX1_cutSprings 27 = .ok (.getfield 12, 3) := by decide +kernel
theorem dX1_cutSprings_30 : decode cX1_cutSprings 30 = .ok (.iload_n 1, 1) := by decide +kernel
theorem dX1_cutSprings_31 : decode cX1_cutSprings 31 = .ok (.aload_n 0, 1) := by decide +kernel
theorem dX1_cutSprings_32 : decode cX1_cutSprings 32 = .ok (.getfield 18, 3) := by decide +kernel
theorem dX1_cutSprings_35 : decode cX1_cutSprings 35 = .ok (.invokevirtual 81, 3) := by decide +kernel
theorem dX1_cutSprings_38 : decode cX1_cutSprings 38 = .ok (.aload_n 0, 1) := by decide +kernel
theorem dX1_cutSprings_39 : decode cX1_cutSprings 39 = .ok (.dup, 1) := by decide +kernel
theorem dX1_cutSprings_40 : decode cX1_cutSprings 40 = .ok (.getfield 63, 3) := by decide +kernel
theorem dX1_cutSprings_43 : decode cX1_cutSprings 43 = .ok (.iload_n 2, 1) := by decide +kernel
theorem dX1_cutSprings_44 : decode cX1_cutSprings 44 = .ok (.isub, 1) := by decide +kernel
theorem dX1_cutSprings_45 : decode cX1_cutSprings 45 = .ok (.putfield 63, 3) := by decide +kernel
theorem dX1_cutSprings_48 : decode cX1_cutSprings 48 = .ok (.iinc 1 1, 3) := by decide +kernel
theorem dX1_cutSprings_51 : decode cX1_cutSprings 51 = .ok (.goto (-49), 3) := by decide +kernel
theorem dX1_cutSprings_54 : decode cX1_cutSprings 54 = .ok (.return_, 1) := by decide +kernel
theorem dX1_account_0 : decode cX1_account 0 = .ok (.iload_n 1, 1) := by decide +kernel
theorem dX1_account_1 : decode cX1_account 1 = .ok (.tableswitch 72 0 5 #[39, 44, 49, 54, 59, 64], 39) := by decide +kernel
theorem dX1_account_40 : decode cX1_account 40 = .ok (.aload_n 0, 1) := by decide +kernel
theorem dX1_account_41 : decode cX1_account 41 = .ok (.getfield 48, 3) := by decide +kernel
theorem dX1_account_44 : decode cX1_account 44 = .ok (.ireturn, 1) := by decide +kernel
theorem dX1_account_45 : decode cX1_account 45 = .ok (.aload_n 0, 1) := by decide +kernel
theorem dX1_account_46 : decode cX1_account 46 = .ok (.getfield 51, 3) := by decide +kernel
theorem dX1_account_49 : decode cX1_account 49 = .ok (.ireturn, 1) := by decide +kernel
theorem dX1_account_50 : decode cX1_account 50 = .ok (.aload_n 0, 1) := by decide +kernel
theorem dX1_account_51 : decode cX1_account 51 = .ok (.getfield 54, 3) := by decide +kernel
theorem dX1_account_54 : decode cX1_account 54 = .ok (.ireturn, 1) := by decide +kernel
theorem dX1_account_55 : decode cX1_account 55 = .ok (.aload_n 0, 1) := by decide +kernel
theorem dX1_account_56 : decode cX1_account 56 = .ok (.getfield 57, 3) := by decide +kernel
theorem dX1_account_59 : decode cX1_account 59 = .ok (.ireturn, 1) := by decide +kernel
theorem dX1_account_60 : decode cX1_account 60 = .ok (.aload_n 0, 1) := by decide +kernel
theorem dX1_account_61 : decode cX1_account 61 = .ok (.getfield 60, 3) := by decide +kernel
theorem dX1_account_64 : decode cX1_account 64 = .ok (.ireturn, 1) := by decide +kernel
theorem dX1_account_65 : decode cX1_account 65 = .ok (.aload_n 0, 1) := by decide +kernel
theorem dX1_account_66 : decode cX1_account 66 = .ok (.getfield 12, 3) := by decide +kernel
theorem dX1_account_69 : decode cX1_account 69 = .ok (.invokevirtual 70, 3) := by decide +kernel
theorem dX1_account_72 : decode cX1_account 72 = .ok (.ireturn, 1) := by decide +kernel
theorem dX1_account_73 : decode cX1_account 73 = .ok (.aload_n 0, 1) := by decide +kernel
theorem dX1_account_74 : decode cX1_account 74 = .ok (.getfield 63, 3) := by decide +kernel
theorem dX1_account_77 : decode cX1_account 77 = .ok (.ireturn, 1) := by decide +kernel
theorem dX1_putInstead_0 : decode cX1_putInstead 0 = .ok (.aload_n 0, 1) := by decide +kernel
theorem dX1_putInstead_1 : decode cX1_putInstead 1 = .ok (.dup, 1) := by decide +kernel
theorem dX1_putInstead_2 : decode cX1_putInstead 2 = .ok (.getfield 63, 3) := by decide +kernel
theorem dX1_putInstead_5 : decode cX1_putInstead 5 = .ok (.aload_n 0, 1) := by decide +kernel
theorem dX1_putInstead_6 : decode cX1_putInstead 6 = .ok (.getfield 12, 3) := by decide +kernel
theorem dX1_putInstead_9 : decode cX1_putInstead 9 = .ok (.iload_n 1, 1) := by decide +kernel
theorem dX1_putInstead_10 : decode cX1_putInstead 10 = .ok (.invokevirtual 77, 3) := by decide +kernel
theorem dX1_putInstead_13 : decode cX1_putInstead 13 = .ok (.isub, 1) := by decide +kernel
theorem dX1_putInstead_14 : decode cX1_putInstead 14 = .ok (.putfield 63, 3) := by decide +kernel
theorem dX1_putInstead_17 : decode cX1_putInstead 17 = .ok (.iload_n 2, 1) := by decide +kernel
theorem dX1_putInstead_18 : decode cX1_putInstead 18 = .ok (.iconst (-1), 1) := by decide +kernel
theorem dX1_putInstead_19 : decode cX1_putInstead 19 = .ok (.if_icmp .ne 14, 3) := by decide +kernel
theorem dX1_putInstead_22 : decode cX1_putInstead 22 = .ok (.aload_n 0, 1) := by decide +kernel
theorem dX1_putInstead_23 : decode cX1_putInstead 23 = .ok (.getfield 12, 3) := by decide +kernel
theorem dX1_putInstead_26 : decode cX1_putInstead 26 = .ok (.iload_n 1, 1) := by decide +kernel
theorem dX1_putInstead_27 : decode cX1_putInstead 27 = .ok (.invokevirtual 85, 3) := by decide +kernel
theorem dX1_putInstead_30 : decode cX1_putInstead 30 = .ok (.goto 15, 3) := by decide +kernel
theorem dX1_putInstead_33 : decode cX1_putInstead 33 = .ok (.aload_n 0, 1) := by decide +kernel
theorem dX1_putInstead_34 : decode cX1_putInstead 34 = .ok (.getfield 12, 3) := by decide +kernel
theorem dX1_putInstead_37 : decode cX1_putInstead 37 = .ok (.iload_n 1, 1) := by decide +kernel
theorem dX1_putInstead_38 : decode cX1_putInstead 38 = .ok (.iload_n 2, 1) := by decide +kernel
theorem dX1_putInstead_39 : decode cX1_putInstead 39 = .ok (.iload_n 3, 1) := by decide +kernel
theorem dX1_putInstead_40 : decode cX1_putInstead 40 = .ok (.iload 4, 2) := by decide +kernel
theorem dX1_putInstead_42 : decode cX1_putInstead 42 = .ok (.invokevirtual 88, 3) := by decide +kernel
theorem dX1_putInstead_45 : decode cX1_putInstead 45 = .ok (.aload_n 0, 1) := by decide +kernel
theorem dX1_putInstead_46 : decode cX1_putInstead 46 = .ok (.dup, 1) := by decide +kernel
theorem dX1_putInstead_47 : decode cX1_putInstead 47 = .ok (.getfield 63, 3) := by decide +kernel
theorem dX1_putInstead_50 : decode cX1_putInstead 50 = .ok (.aload_n 0, 1) := by decide +kernel
theorem dX1_putInstead_51 : decode cX1_putInstead 51 = .ok (.getfield 12, 3) := by decide +kernel
theorem dX1_putInstead_54 : decode cX1_putInstead 54 = .ok (.iload_n 1, 1) := by decide +kernel
theorem dX1_putInstead_55 : decode cX1_putInstead 55 = .ok (.invokevirtual 77, 3) := by decide +kernel
theorem dX1_putInstead_58 : decode cX1_putInstead 58 = .ok (.iadd, 1) := by decide +kernel
theorem dX1_putInstead_59 : decode cX1_putInstead 59 = .ok (.putfield 63, 3) := by decide +kernel
theorem dX1_putInstead_62 : decode cX1_putInstead 62 = .ok (.return_, 1) := by decide +kernel
theorem dX1_reasonAgainst_0 : decode cX1_reasonAgainst 0 = .ok (.aload_n 0, 1) := by decide +kernel
theorem dX1_reasonAgainst_1 : decode cX1_reasonAgainst 1 = .ok (.invokevirtual 92, 3) := by decide +kernel
theorem dX1_reasonAgainst_4 : decode cX1_reasonAgainst 4 = .ok (.ifCond .eq 5, 3) := by decide +kernel
theorem dX1_reasonAgainst_7 : decode cX1_reasonAgainst 7 = .ok (.iconst 2, 1) := by decide +kernel
theorem dX1_reasonAgainst_8 : decode cX1_reasonAgainst 8 = .ok (.ireturn, 1) := by decide +kernel
theorem dX1_reasonAgainst_9 : decode cX1_reasonAgainst 9 = .ok (.aload_n 0, 1) := by decide +kernel
theorem dX1_reasonAgainst_10 : decode cX1_reasonAgainst 10 = .ok (.getfield 12, 3) := by decide +kernel
theorem dX1_reasonAgainst_13 : decode cX1_reasonAgainst 13 = .ok (.iload_n 1, 1) := by decide +kernel
theorem dX1_reasonAgainst_14 : decode cX1_reasonAgainst 14 = .ok (.invokevirtual 96, 3) := by decide +kernel
theorem dX1_reasonAgainst_17 : decode cX1_reasonAgainst 17 = .ok (.ifCond .ne 5, 3) := by decide +kernel
theorem dX1_reasonAgainst_20 : decode cX1_reasonAgainst 20 = .ok (.iconst 3, 1) := by decide +kernel
theorem dX1_reasonAgainst_21 : decode cX1_reasonAgainst 21 = .ok (.ireturn, 1) := by decide +kernel
theorem dX1_reasonAgainst_22 : decode cX1_reasonAgainst 22 = .ok (.aload_n 0, 1) := by decide +kernel
theorem dX1_reasonAgainst_23 : decode cX1_reasonAgainst 23 = .ok (.getfield 12, 3) := by decide +kernel
theorem dX1_reasonAgainst_26 : decode cX1_reasonAgainst 26 = .ok (.iload_n 1, 1) := by decide +kernel
theorem dX1_reasonAgainst_27 : decode cX1_reasonAgainst 27 = .ok (.invokevirtual 100, 3) := by decide +kernel
theorem dX1_reasonAgainst_30 : decode cX1_reasonAgainst 30 = .ok (.aload_n 0, 1) := by decide +kernel
theorem dX1_reasonAgainst_31 : decode cX1_reasonAgainst 31 = .ok (.getfield 35, 3) := by decide +kernel
theorem dX1_reasonAgainst_34 : decode cX1_reasonAgainst 34 = .ok (.if_icmp .eq 5, 3) := by decide +kernel
theorem dX1_reasonAgainst_37 : decode cX1_reasonAgainst 37 = .ok (.iconst 4, 1) := by decide +kernel
theorem dX1_reasonAgainst_38 : decode cX1_reasonAgainst 38 = .ok (.ireturn, 1) := by decide +kernel
theorem dX1_reasonAgainst_39 : decode cX1_reasonAgainst 39 = .ok (.aload_n 0, 1) := by decide +kernel
theorem dX1_reasonAgainst_40 : decode cX1_reasonAgainst 40 = .ok (.getfield 12, 3) := by decide +kernel
theorem dX1_reasonAgainst_43 : decode cX1_reasonAgainst 43 = .ok (.iload_n 2, 1) := by decide +kernel
theorem dX1_reasonAgainst_44 : decode cX1_reasonAgainst 44 = .ok (.invokevirtual 100, 3) := by decide +kernel
theorem dX1_reasonAgainst_47 : decode cX1_reasonAgainst 47 = .ok (.aload_n 0, 1) := by decide +kernel
theorem dX1_reasonAgainst_48 : decode cX1_reasonAgainst 48 = .ok (.getfield 35, 3) := by decide +kernel
theorem dX1_reasonAgainst_51 : decode cX1_reasonAgainst 51 = .ok (.if_icmp .ne 5, 3) := by decide +kernel
theorem dX1_reasonAgainst_54 : decode cX1_reasonAgainst 54 = .ok (.iconst 5, 1) := by decide +kernel
theorem dX1_reasonAgainst_55 : decode cX1_reasonAgainst 55 = .ok (.ireturn, 1) := by decide +kernel
theorem dX1_reasonAgainst_56 : decode cX1_reasonAgainst 56 = .ok (.aload_n 0, 1) := by decide +kernel
theorem dX1_reasonAgainst_57 : decode cX1_reasonAgainst 57 = .ok (.getfield 12, 3) := by decide +kernel
theorem dX1_reasonAgainst_60 : decode cX1_reasonAgainst 60 = .ok (.iload_n 1, 1) := by decide +kernel
theorem dX1_reasonAgainst_61 : decode cX1_reasonAgainst 61 = .ok (.iload_n 2, 1) := by decide +kernel
theorem dX1_reasonAgainst_62 : decode cX1_reasonAgainst 62 = .ok (.invokevirtual 103, 3) := by decide +kernel
theorem dX1_reasonAgainst_65 : decode cX1_reasonAgainst 65 = .ok (.istore_n 3, 1) := by decide +kernel
theorem dX1_reasonAgainst_66 : decode cX1_reasonAgainst 66 = .ok (.iload_n 3, 1) := by decide +kernel
theorem dX1_reasonAgainst_67 : decode cX1_reasonAgainst 67 = .ok (.ifCond .ne 6, 3) := by decide +kernel
theorem dX1_reasonAgainst_70 : decode cX1_reasonAgainst 70 = .ok (.bipush 6, 2) := by decide +kernel
theorem dX1_reasonAgainst_72 : decode cX1_reasonAgainst 72 = .ok (.ireturn, 1) := by decide +kernel
theorem dX1_reasonAgainst_73 : decode cX1_reasonAgainst 73 = .ok (.aload_n 0, 1) := by decide +kernel
theorem dX1_reasonAgainst_74 : decode cX1_reasonAgainst 74 = .ok (.getfield 12, 3) := by decide +kernel
theorem dX1_reasonAgainst_77 : decode cX1_reasonAgainst 77 = .ok (.iload_n 1, 1) := by decide +kernel
theorem dX1_reasonAgainst_78 : decode cX1_reasonAgainst 78 = .ok (.invokevirtual 77, 3) := by decide +kernel
theorem dX1_reasonAgainst_81 : decode cX1_reasonAgainst 81 = .ok (.iload_n 3, 1) := by decide +kernel
theorem dX1_reasonAgainst_82 : decode cX1_reasonAgainst 82 = .ok (.if_icmp .ge 8, 3) := by decide +kernel
theorem dX1_reasonAgainst_85 : decode cX1_reasonAgainst 85 = .ok (.bipush 7, 2) := by decide +kernel
theorem dX1_reasonAgainst_87 : decode cX1_reasonAgainst 87 = .ok (.goto 4, 3) := by decide +kernel
theorem dX1_reasonAgainst_90 : decode cX1_reasonAgainst 90 = .ok (.iconst 0, 1) := by decide +kernel
theorem dX1_reasonAgainst_91 : decode cX1_reasonAgainst 91 = .ok (.ireturn, 1) := by decide +kernel
theorem dX1_reasonAgainstPass_0 : decode cX1_reasonAgainstPass 0 = .ok (.aload_n 0, 1) := by decide +kernel
theorem dX1_reasonAgainstPass_1 : decode cX1_reasonAgainstPass 1 = .ok (.invokevirtual 92, 3) := by decide +kernel
theorem dX1_reasonAgainstPass_4 : decode cX1_reasonAgainstPass 4 = .ok (.ifCond .eq 5, 3) := by decide +kernel
theorem dX1_reasonAgainstPass_7 : decode cX1_reasonAgainstPass 7 = .ok (.iconst 2, 1) := by decide +kernel
theorem dX1_reasonAgainstPass_8 : decode cX1_reasonAgainstPass 8 = .ok (.ireturn, 1) := by decide +kernel
theorem dX1_reasonAgainstPass_9 : decode cX1_reasonAgainstPass 9 = .ok (.aload_n 0, 1) := by decide +kernel
theorem dX1_reasonAgainstPass_10 : decode cX1_reasonAgainstPass 10 = .ok (.getfield 12, 3) := by decide +kernel
theorem dX1_reasonAgainstPass_13 : decode cX1_reasonAgainstPass 13 = .ok (.aload_n 0, 1) := by decide +kernel
theorem dX1_reasonAgainstPass_14 : decode cX1_reasonAgainstPass 14 = .ok (.getfield 35, 3) := by decide +kernel
theorem dX1_reasonAgainstPass_17 : decode cX1_reasonAgainstPass 17 = .ok (.invokevirtual 107, 3) := by decide +kernel
theorem dX1_reasonAgainstPass_20 : decode cX1_reasonAgainstPass 20 = .ok (.ifCond .le 8, 3) := by decide +kernel
theorem dX1_reasonAgainstPass_23 : decode cX1_reasonAgainstPass 23 = .ok (.bipush 8, 2) := by decide +kernel
theorem dX1_reasonAgainstPass_25 : decode cX1_reasonAgainstPass 25 = .ok (.goto 4, 3) := by decide +kernel
theorem dX1_reasonAgainstPass_28 : decode cX1_reasonAgainstPass 28 = .ok (.iconst 0, 1) := by decide +kernel
theorem dX1_reasonAgainstPass_29 : decode cX1_reasonAgainstPass 29 = .ok (.ireturn, 1) := by decide +kernel
theorem dX1_makeMove_0 : decode cX1_makeMove 0 = .ok (.aload_n 0, 1) := by decide +kernel
theorem dX1_makeMove_1 : decode cX1_makeMove 1 = .ok (.iload_n 1, 1) := by decide +kernel
theorem dX1_makeMove_2 : decode cX1_makeMove 2 = .ok (.iload_n 2, 1) := by decide +kernel
theorem dX1_makeMove_3 : decode cX1_makeMove 3 = .ok (.invokevirtual 110, 3) := by decide +kernel
theorem dX1_makeMove_6 : decode cX1_makeMove 6 = .ok (.istore_n 3, 1) := by decide +kernel
theorem dX1_makeMove_7 : decode cX1_makeMove 7 = .ok (.aload_n 0, 1) := by decide +kernel
theorem dX1_makeMove_8 : decode cX1_makeMove 8 = .ok (.invokevirtual 92, 3) := by decide +kernel
theorem dX1_makeMove_11 : decode cX1_makeMove 11 = .ok (.ifCond .ne 13, 3) := by decide +kernel
theorem dX1_makeMove_14 : decode cX1_makeMove 14 = .ok (.aload_n 0, 1) := by decide +kernel
theorem dX1_makeMove_15 : decode cX1_makeMove 15 = .ok (.iconst 1, 1) := by decide +kernel
theorem dX1_makeMove_16 : decode cX1_makeMove 16 = .ok (.aload_n 0, 1) := by decide +kernel
theorem dX1_makeMove_17 : decode cX1_makeMove 17 = .ok (.getfield 35, 3) := by decide +kernel
theorem dX1_makeMove_20 : decode cX1_makeMove 20 = .ok (.isub, 1) := by decide +kernel
theorem dX1_makeMove_21 : decode cX1_makeMove 21 = .ok (.invokevirtual 113, 3) := by decide +kernel
theorem dX1_makeMove_24 : decode cX1_makeMove 24 = .ok (.iload_n 3, 1) := by decide +kernel
theorem dX1_makeMove_25 : decode cX1_makeMove 25 = .ok (.ireturn, 1) := by decide +kernel
theorem dX1_carryOut_0 : decode cX1_carryOut 0 = .ok (.aload_n 0, 1) := by decide +kernel
theorem dX1_carryOut_1 : decode cX1_carryOut 1 = .ok (.getfield 12, 3) := by decide +kernel
theorem dX1_carryOut_4 : decode cX1_carryOut 4 = .ok (.iload_n 1, 1) := by decide +kernel
theorem dX1_carryOut_5 : decode cX1_carryOut 5 = .ok (.iload_n 2, 1) := by decide +kernel
theorem dX1_carryOut_6 : decode cX1_carryOut 6 = .ok (.invokevirtual 103, 3) := by decide +kernel
theorem dX1_carryOut_9 : decode cX1_carryOut 9 = .ok (.istore_n 3, 1) := by decide +kernel
theorem dX1_carryOut_10 : decode cX1_carryOut 10 = .ok (.aload_n 0, 1) := by decide +kernel
theorem dX1_carryOut_11 : decode cX1_carryOut 11 = .ok (.getfield 12, 3) := by decide +kernel
theorem dX1_carryOut_14 : decode cX1_carryOut 14 = .ok (.iload_n 1, 1) := by decide +kernel
theorem dX1_carryOut_15 : decode cX1_carryOut 15 = .ok (.invokevirtual 116, 3) := by decide +kernel
theorem dX1_carryOut_18 : decode cX1_carryOut 18 = .ok (.istore 4, 2) := by decide +kernel
theorem dX1_carryOut_20 : decode cX1_carryOut 20 = .ok (.aload_n 0, 1) := by decide +kernel
theorem dX1_carryOut_21 : decode cX1_carryOut 21 = .ok (.getfield 12, 3) := by decide +kernel
theorem dX1_carryOut_24 : decode cX1_carryOut 24 = .ok (.iload_n 1, 1) := by decide +kernel
theorem dX1_carryOut_25 : decode cX1_carryOut 25 = .ok (.invokevirtual 77, 3) := by decide +kernel
theorem dX1_carryOut_28 : decode cX1_carryOut 28 = .ok (.iload_n 3, 1) := by decide +kernel
theorem dX1_carryOut_29 : decode cX1_carryOut 29 = .ok (.isub, 1) := by decide +kernel
theorem dX1_carryOut_30 : decode cX1_carryOut 30 = .ok (.istore 5, 2) := by decide +kernel
theorem dX1_carryOut_32 : decode cX1_carryOut 32 = .ok (.aload_n 0, 1) := by decide +kernel
theorem dX1_carryOut_33 : decode cX1_carryOut 33 = .ok (.getfield 12, 3) := by decide +kernel
theorem dX1_carryOut_36 : decode cX1_carryOut 36 = .ok (.iload_n 2, 1) := by decide +kernel
theorem dX1_carryOut_37 : decode cX1_carryOut 37 = .ok (.invokevirtual 96, 3) := by decide +kernel
theorem dX1_carryOut_40 : decode cX1_carryOut 40 = .ok (.ifCond .eq 43, 3) := by decide +kernel
theorem dX1_carryOut_43 : decode cX1_carryOut 43 = .ok (.aload_n 0, 1) := by decide +kernel
theorem dX1_carryOut_44 : decode cX1_carryOut 44 = .ok (.iload 5, 2) := by decide +kernel
theorem dX1_carryOut_46 : decode cX1_carryOut 46 = .ok (.aload_n 0, 1) := by decide +kernel
theorem dX1_carryOut_47 : decode cX1_carryOut 47 = .ok (.getfield 12, 3) := by decide +kernel
theorem dX1_carryOut_50 : decode cX1_carryOut 50 = .ok (.iload_n 2, 1) := by decide +kernel
theorem dX1_carryOut_51 : decode cX1_carryOut 51 = .ok (.invokevirtual 77, 3) := by decide +kernel
theorem dX1_carryOut_54 : decode cX1_carryOut 54 = .ok (.invokevirtual 119, 3) := by decide +kernel
theorem dX1_carryOut_57 : decode cX1_carryOut 57 = .ok (.istore 5, 2) := by decide +kernel
theorem dX1_carryOut_59 : decode cX1_carryOut 59 = .ok (.aload_n 0, 1) := by decide +kernel
theorem dX1_carryOut_60 : decode cX1_carryOut 60 = .ok (.getfield 12, 3) := by decide +kernel
theorem dX1_carryOut_63 : decode cX1_carryOut 63 = .ok (.iload_n 2, 1) := by decide +kernel
theorem dX1_carryOut_64 : decode cX1_carryOut 64 = .ok (.invokevirtual 116, 3) := by decide +kernel
theorem dX1_carryOut_67 : decode cX1_carryOut 67 = .ok (.ifCond .ne 16, 3) := by decide +kernel
theorem dX1_carryOut_70 : decode cX1_carryOut 70 = .ok (.aload_n 0, 1) := by decide +kernel
theorem dX1_carryOut_71 : decode cX1_carryOut 71 = .ok (.iconst 1, 1) := by decide +kernel
theorem dX1_carryOut_72 : decode cX1_carryOut 72 = .ok (.putfield 38, 3) := by decide +kernel
theorem dX1_carryOut_75 : decode cX1_carryOut 75 = .ok (.aload_n 0, 1) := by decide +kernel
theorem dX1_carryOut_76 : decode cX1_carryOut 76 = .ok (.aload_n 0, 1) := by decide +kernel
theorem dX1_carryOut_77 : decode cX1_carryOut 77 = .ok (.getfield 35, 3) := by decide +kernel
theorem dX1_carryOut_80 : decode cX1_carryOut 80 = .ok (.putfield 28, 3) := by decide +kernel
theorem dX1_carryOut_83 : decode cX1_carryOut 83 = .ok (.aload_n 0, 1) := by decide +kernel
theorem dX1_carryOut_84 : decode cX1_carryOut 84 = .ok (.getfield 35, 3) := by decide +kernel
theorem dX1_carryOut_87 : decode cX1_carryOut 87 = .ok (.ifCond .ne 7, 3) := by decide +kernel
theorem dX1_carryOut_90 : decode cX1_carryOut 90 = .ok (.iconst 5, 1) := by decide +kernel
theorem dX1_carryOut_91 : decode cX1_carryOut 91 = .ok (.goto 4, 3) := by decide +kernel
theorem dX1_carryOut_94 : decode cX1_carryOut 94 = .ok (.iconst 0, 1) := by decide +kernel
theorem dX1_carryOut_95 : decode cX1_carryOut 95 = .ok (.istore 6, 2) := by decide +kernel
theorem dX1_carryOut_97 : decode cX1_carryOut 97 = .ok (.iload 4, 2) := by decide +kernel
theorem dX1_carryOut_99 : decode cX1_carryOut 99 = .ok (.iconst 4, 1) := by decide +kernel
theorem dX1_carryOut_100 : decode cX1_carryOut 100 = .ok (.if_icmp .ne 16, 3) := by decide +kernel
theorem dX1_carryOut_103 : decode cX1_carryOut 103 = .ok (.iload_n 2, 1) := by decide +kernel
theorem dX1_carryOut_104 : decode cX1_carryOut 104 = .ok (.bipush 6, 2) := by decide +kernel
theorem dX1_carryOut_106 : decode cX1_carryOut 106 = .ok (.idiv, 1) := by decide +kernel
theorem dX1_carryOut_107 : decode cX1_carryOut 107 = .ok (.iload 6, 2) := by decide +kernel
theorem dX1_carryOut_109 : decode cX1_carryOut 109 = .ok (.if_icmp .ne 7, 3) := by decide +kernel
theorem dX1_carryOut_112 : decode cX1_carryOut 112 = .ok (.iconst 1, 1) := by decide +kernel
theorem dX1_carryOut_113 : decode cX1_carryOut 113 = .ok (.goto 4, 3) := by decide +kernel
theorem dX1_carryOut_116 : decode cX1_carryOut 116 = .ok (.iconst 0, 1) := by decide +kernel
theorem dX1_carryOut_117 : decode cX1_carryOut 117 = .ok (.istore 7, 2) := by decide +kernel
theorem dX1_carryOut_119 : decode cX1_carryOut 119 = .ok (.aload_n 0, 1) := by decide +kernel
theorem dX1_carryOut_120 : decode cX1_carryOut 120 = .ok (.getfield 12, 3) := by decide +kernel
theorem dX1_carryOut_123 : decode cX1_carryOut 123 = .ok (.iload_n 2, 1) := by decide +kernel
theorem dX1_carryOut_124 : decode cX1_carryOut 124 = .ok (.aload_n 0, 1) := by decide +kernel
theorem dX1_carryOut_125 : decode cX1_carryOut 125 = .ok (.getfield 35, 3) := by decide +kernel
theorem dX1_carryOut_128 : decode cX1_carryOut 128 = .ok (.iload 7, 2) := by decide +kernel
theorem dX1_carryOut_130 : decode cX1_carryOut 130 = .ok (.ifCond .eq 7, 3) := by decide +kernel
theorem dX1_carryOut_133 : decode cX1_carryOut 133 = .ok (.iconst 1, 1) := by decide +kernel
theorem dX1_carryOut_134 : decode cX1_carryOut 134 = .ok (.goto 5, 3) := by decide +kernel
theorem dX1_carryOut_137 : decode cX1_carryOut 137 = .ok (.iload 4, 2) := by decide +kernel
theorem dX1_carryOut_139 : decode cX1_carryOut 139 = .ok (.iload 5, 2) := by decide +kernel
theorem dX1_carryOut_141 : decode cX1_carryOut 141 = .ok (.invokevirtual 88, 3) := by decide +kernel
theorem dX1_carryOut_144 : decode cX1_carryOut 144 = .ok (.aload_n 0, 1) := by decide +kernel
theorem dX1_carryOut_145 : decode cX1_carryOut 145 = .ok (.getfield 12, 3) := by decide +kernel
theorem dX1_carryOut_148 : decode cX1_carryOut 148 = .ok (.iload_n 1, 1) := by decide +kernel
theorem dX1_carryOut_149 : decode cX1_carryOut 149 = .ok (.invokevirtual 85, 3) := by decide +kernel
theorem dX1_carryOut_152 : decode cX1_carryOut 152 = .ok (.aload_n 0, 1) := by decide +kernel
theorem dX1_carryOut_153 : decode cX1_carryOut 153 = .ok (.dup, 1) := by decide +kernel
theorem dX1_carryOut_154 : decode cX1_carryOut 154 = .ok (.getfield 57, 3) := by decide +kernel
theorem dX1_carryOut_157 : decode cX1_carryOut 157 = .ok (.iload_n 3, 1) := by decide +kernel
theorem dX1_carryOut_158 : decode cX1_carryOut 158 = .ok (.iadd, 1) := by decide +kernel
theorem dX1_carryOut_159 : decode cX1_carryOut 159 = .ok (.putfield 57, 3) := by decide +kernel
theorem dX1_carryOut_162 : decode cX1_carryOut 162 = .ok (.aload_n 0, 1) := by decide +kernel
theorem dX1_carryOut_163 : decode cX1_carryOut 163 = .ok (.dup, 1) := by decide +kernel
theorem dX1_carryOut_164 : decode cX1_carryOut 164 = .ok (.getfield 41, 3) := by decide +kernel
theorem dX1_carryOut_167 : decode cX1_carryOut 167 = .ok (.iconst 1, 1) := by decide +kernel
theorem dX1_carryOut_168 : decode cX1_carryOut 168 = .ok (.iadd, 1) := by decide +kernel
theorem dX1_carryOut_169 : decode cX1_carryOut 169 = .ok (.putfield 41, 3) := by decide +kernel
theorem dX1_carryOut_172 : decode cX1_carryOut 172 = .ok (.aload_n 0, 1) := by decide +kernel
theorem dX1_carryOut_173 : decode cX1_carryOut 173 = .ok (.iconst 0, 1) := by decide +kernel
theorem dX1_carryOut_174 : decode cX1_carryOut 174 = .ok (.putfield 44, 3) := by decide +kernel
theorem dX1_carryOut_177 : decode cX1_carryOut 177 = .ok (.iload_n 3, 1) := by decide +kernel
theorem dX1_carryOut_178 : decode cX1_carryOut 178 = .ok (.ireturn, 1) := by decide +kernel
theorem dX1_springBehindTaking_0 : decode cX1_springBehindTaking 0 = .ok (.iload_n 2, 1) := by decide +kernel
theorem dX1_springBehindTaking_1 : decode cX1_springBehindTaking 1 = .ok (.iconst 2, 1) := by decide +kernel
theorem dX1_springBehindTaking_2 : decode cX1_springBehindTaking 2 = .ok (.idiv, 1) := by decide +kernel
theorem dX1_springBehindTaking_3 : decode cX1_springBehindTaking 3 = .ok (.istore_n 3, 1) := by decide +kernel
theorem dX1_springBehindTaking_4 : decode cX1_springBehindTaking 4 = .ok (.iload_n 1, 1) := by decide +kernel
theorem dX1_springBehindTaking_5 : decode cX1_springBehindTaking 5 = .ok (.iload_n 3, 1) := by decide +kernel
theorem dX1_springBehindTaking_6 : decode cX1_springBehindTaking 6 = .ok (.iadd, 1) := by decide +kernel
theorem dX1_springBehindTaking_7 : decode cX1_springBehindTaking 7 = .ok (.aload_n 0, 1) := by decide +kernel
theorem dX1_springBehindTaking_8 : decode cX1_springBehindTaking 8 = .ok (.getfield 22, 3) := by decide +kernel
theorem dX1_springBehindTaking_11 : decode cX1_springBehindTaking 11 = .ok (.iadd, 1) := by decide +kernel
theorem dX1_springBehindTaking_12 : decode cX1_springBehindTaking 12 = .ok (.istore 4, 2) := by decide +kernel
theorem dX1_springBehindTaking_14 : decode cX1_springBehindTaking 14 = .ok (.iload 4, 2) := by decide +kernel
theorem dX1_springBehindTaking_16 : decode cX1_springBehindTaking 16 = .ok (.aload_n 0, 1) := by decide +kernel
theorem dX1_springBehindTaking_17 : decode cX1_springBehindTaking 17 = .ok (.getfield 18, 3) := by decide +kernel
theorem dX1_springBehindTaking_20 : decode cX1_springBehindTaking 20 = .ok (.invokestatic 122, 3) := by decide +kernel
theorem dX1_springBehindTaking_23 : decode cX1_springBehindTaking 23 = .ok (.istore 5, 2) := by decide +kernel
theorem dX1_springBehindTaking_25 : decode cX1_springBehindTaking 25 = .ok (.aload_n 0, 1) := by decide +kernel
theorem dX1_springBehindTaking_26 : decode cX1_springBehindTaking 26 = .ok (.dup, 1) := by decide +kernel
theorem dX1_springBehindTaking_27 : decode cX1_springBehindTaking 27 = .ok (.getfield 54, 3) := by decide +kernel
theorem dX1_springBehindTaking_30 : decode cX1_springBehindTaking 30 = .ok (.aload_n 0, 1) := by decide +kernel
theorem dX1_springBehindTaking_31 : decode cX1_springBehindTaking 31 = .ok (.getfield 22, 3) := by decide +kernel
theorem dX1_springBehindTaking_34 : decode cX1_springBehindTaking 34 = .ok (.iadd, 1) := by decide +kernel
theorem dX1_springBehindTaking_35 : decode cX1_springBehindTaking 35 = .ok (.putfield 54, 3) := by decide +kernel
theorem dX1_springBehindTaking_38 : decode cX1_springBehindTaking 38 = .ok (.aload_n 0, 1) := by decide +kernel
theorem dX1_springBehindTaking_39 : decode cX1_springBehindTaking 39 = .ok (.dup, 1) := by decide +kernel
theorem dX1_springBehindTaking_40 : decode cX1_springBehindTaking 40 = .ok (.getfield 60, 3) := by decide +kernel
theorem dX1_springBehindTaking_43 : decode cX1_springBehindTaking 43 = .ok (.iload_n 2, 1) := by decide +kernel
theorem dX1_springBehindTaking_44 : decode cX1_springBehindTaking 44 = .ok (.iload_n 3, 1) := by decide +kernel
theorem dX1_springBehindTaking_45 : decode cX1_springBehindTaking 45 = .ok (.isub, 1) := by decide +kernel
theorem dX1_springBehindTaking_46 : decode cX1_springBehindTaking 46 = .ok (.iload 4, 2) := by decide +kernel
theorem dX1_springBehindTaking_48 : decode cX1_springBehindTaking 48 = .ok (.iadd, 1) := by decide +kernel
theorem dX1_springBehindTaking_49 : decode cX1_springBehindTaking 49 = .ok (.iload 5, 2) := by decide +kernel
theorem dX1_springBehindTaking_51 : decode cX1_springBehindTaking 51 = .ok (.isub, 1) := by decide +kernel
theorem dX1_springBehindTaking_52 : decode cX1_springBehindTaking 52 = .ok (.iadd, 1) := by decide +kernel
theorem dX1_springBehindTaking_53 : decode cX1_springBehindTaking 53 = .ok (.putfield 60, 3) := by decide +kernel
theorem dX1_springBehindTaking_56 : decode cX1_springBehindTaking 56 = .ok (.iload 5, 2) := by decide +kernel
theorem dX1_springBehindTaking_58 : decode cX1_springBehindTaking 58 = .ok (.ireturn, 1) := by decide +kernel
theorem dX1_makePass_0 : decode cX1_makePass 0 = .ok (.aload_n 0, 1) := by decide +kernel
theorem dX1_makePass_1 : decode cX1_makePass 1 = .ok (.dup, 1) := by decide +kernel
theorem dX1_makePass_2 : decode cX1_makePass 2 = .ok (.getfield 41, 3) := by decide +kernel
theorem dX1_makePass_5 : decode cX1_makePass 5 = .ok (.iconst 1, 1) := by decide +kernel
theorem dX1_makePass_6 : decode cX1_makePass 6 = .ok (.iadd, 1) := by decide +kernel
theorem dX1_makePass_7 : decode cX1_makePass 7 = .ok (.putfield 41, 3) := by decide +kernel
theorem dX1_makePass_10 : decode cX1_makePass 10 = .ok (.aload_n 0, 1) := by decide +kernel
theorem dX1_makePass_11 : decode cX1_makePass 11 = .ok (.getfield 44, 3) := by decide +kernel
theorem dX1_makePass_14 : decode cX1_makePass 14 = .ok (.ifCond .eq 46, 3) := by decide +kernel
theorem dX1_makePass_17 : decode cX1_makePass 17 = .ok (.aload_n 0, 1) := by decide +kernel
theorem dX1_makePass_18 : decode cX1_makePass 18 = .ok (.iconst 2, 1) := by decide +kernel
theorem dX1_makePass_19 : decode cX1_makePass 19 = .ok (.putfield 38, 3) := by decide +kernel
theorem dX1_makePass_22 : decode cX1_makePass 22 = .ok (.aload_n 0, 1) := by decide +kernel
theorem dX1_makePass_23 : decode cX1_makePass 23 = .ok (.getfield 12, 3) := by decide +kernel
theorem dX1_makePass_26 : decode cX1_makePass 26 = .ok (.iconst 0, 1) := by decide +kernel
theorem dX1_makePass_27 : decode cX1_makePass 27 = .ok (.invokevirtual 127, 3) := by decide +kernel
theorem dX1_makePass_30 : decode cX1_makePass 30 = .ok (.aload_n 0, 1) := by decide +kernel
theorem dX1_makePass_31 : decode cX1_makePass 31 = .ok (.getfield 12, 3) := by decide +kernel
theorem dX1_makePass_34 : decode cX1_makePass 34 = .ok (.iconst 1, 1) := by decide +kernel
theorem dX1_makePass_35 : decode cX1_makePass 35 = .ok (.invokevirtual 127, 3) := by decide +kernel
theorem dX1_makePass_38 : decode cX1_makePass 38 = .ok (.isub, 1) := by decide +kernel
theorem dX1_makePass_39 : decode cX1_makePass 39 = .ok (.istore_n 1, 1) := by decide +kernel
theorem dX1_makePass_40 : decode cX1_makePass 40 = .ok (.iload_n 1, 1) := by decide +kernel
theorem dX1_makePass_41 : decode cX1_makePass 41 = .ok (.ifCond .eq 16, 3) := by decide +kernel
theorem dX1_makePass_44 : decode cX1_makePass 44 = .ok (.aload_n 0, 1) := by decide +kernel
theorem dX1_makePass_45 : decode cX1_makePass 45 = .ok (.iload_n 1, 1) := by decide +kernel
theorem dX1_makePass_46 : decode cX1_makePass 46 = .ok (.ifCond .le 7, 3) := by decide +kernel
theorem dX1_makePass_49 : decode cX1_makePass 49 = .ok (.iconst 0, 1) := by decide +kernel
theorem dX1_makePass_50 : decode cX1_makePass 50 = .ok (.goto 4, 3) := by decide +kernel
theorem dX1_makePass_53 : decode cX1_makePass 53 = .ok (.iconst 1, 1) := by decide +kernel
theorem dX1_makePass_54 : decode cX1_makePass 54 = .ok (.putfield 28, 3) := by decide +kernel
theorem dX1_makePass_57 : decode cX1_makePass 57 = .ok (.goto 18, 3) := by decide +kernel
theorem dX1_makePass_60 : decode cX1_makePass 60 = .ok (.aload_n 0, 1) := by decide +kernel
theorem dX1_makePass_61 : decode cX1_makePass 61 = .ok (.iconst 1, 1) := by decide +kernel
theorem dX1_makePass_62 : decode cX1_makePass 62 = .ok (.putfield 44, 3) := by decide +kernel
theorem dX1_makePass_65 : decode cX1_makePass 65 = .ok (.aload_n 0, 1) := by decide +kernel
theorem dX1_makePass_66 : decode cX1_makePass 66 = .ok (.iconst 1, 1) := by decide +kernel
theorem dX1_makePass_67 : decode cX1_makePass 67 = .ok (.aload_n 0, 1) := by decide +kernel
theorem dX1_makePass_68 : decode cX1_makePass 68 = .ok (.getfield 35, 3) := by decide +kernel
theorem dX1_makePass_71 : decode cX1_makePass 71 = .ok (.isub, 1) := by decide +kernel
theorem dX1_makePass_72 : decode cX1_makePass 72 = .ok (.invokevirtual 113, 3) := by decide +kernel
theorem dX1_makePass_75 : decode cX1_makePass 75 = .ok (.return_, 1) := by decide +kernel
theorem dX1_beginTurn_0 : decode cX1_beginTurn 0 = .ok (.aload_n 0, 1) := by decide +kernel
theorem dX1_beginTurn_1 : decode cX1_beginTurn 1 = .ok (.iload_n 1, 1) := by decide +kernel
theorem dX1_beginTurn_2 : decode cX1_beginTurn 2 = .ok (.putfield 35, 3) := by decide +kernel
theorem dX1_beginTurn_5 : decode cX1_beginTurn 5 = .ok (.iconst 0, 1) := by decide +kernel
theorem dX1_beginTurn_6 : decode cX1_beginTurn 6 = .ok (.istore_n 2, 1) := by decide +kernel
theorem dX1_beginTurn_7 : decode cX1_beginTurn 7 = .ok (.iload_n 2, 1) := by decide +kernel
theorem dX1_beginTurn_8 : decode cX1_beginTurn 8 = .ok (.bipush 36, 2) := by decide +kernel
theorem dX1_beginTurn_10 : decode cX1_beginTurn 10 = .ok (.if_icmp .ge 81, 3) := by decide +kernel
theorem dX1_beginTurn_13 : decode cX1_beginTurn 13 = .ok (.aload_n 0, 1) := by decide +kernel
theorem dX1_beginTurn_14 : decode cX1_beginTurn 14 = .ok (.getfield 12, 3) := by decide +kernel
theorem dX1_beginTurn_17 : decode cX1_beginTurn 17 = .ok (.iload_n 2, 1) := by decide +kernel
theorem dX1_beginTurn_18 : decode cX1_beginTurn 18 = .ok (.invokevirtual 100, 3) := by decide +kernel
theorem dX1_beginTurn_21 : decode cX1_beginTurn 21 = .ok (.iload_n 1, 1) := by decide +kernel
theorem dX1_beginTurn_22 : decode cX1_beginTurn 22 = .ok (.if_icmp .ne 63, 3) := by decide +kernel
theorem dX1_beginTurn_25 : decode cX1_beginTurn 25 = .ok (.aload_n 0, 1) := by decide +kernel
theorem dX1_beginTurn_26 : decode cX1_beginTurn 26 = .ok (.getfield 12, 3) := by decide +kernel
theorem dX1_beginTurn_29 : decode cX1_beginTurn 29 = .ok (.iload_n 2, 1) := by decide +kernel
theorem dX1_beginTurn_30 : decode cX1_beginTurn 30 = .ok (.invokevirtual 130, 3) := by decide +kernel
theorem dX1_beginTurn_33 : decode cX1_beginTurn 33 = .ok (.ifCond .eq 52, 3) := by decide +kernel
theorem dX1_beginTurn_36 : decode cX1_beginTurn 36 = .ok (.aload_n 0, 1) := by decide +kernel
theorem dX1_beginTurn_37 : decode cX1_beginTurn 37 = .ok (.getfield 25, 3) := by decide +kernel
theorem dX1_beginTurn_40 : decode cX1_beginTurn 40 = .ok (.aload_n 0, 1) := by decide +kernel
theorem dX1_beginTurn_41 : decode cX1_beginTurn 41 = .ok (.getfield 18, 3) := by decide +kernel
theorem dX1_beginTurn_44 : decode cX1_beginTurn 44 = .ok (.aload_n 0, 1) := by decide +kernel
theorem dX1_beginTurn_45 : decode cX1_beginTurn 45 = .ok (.getfield 12, 3) := by decide +kernel
theorem dX1_beginTurn_48 : decode cX1_beginTurn 48 = .ok (.iload_n 2, 1) := by decide +kernel
theorem dX1_beginTurn_49 : decode cX1_beginTurn 49 = .ok (.invokevirtual 77, 3) := by decide +kernel
theorem dX1_beginTurn_52 : decode cX1_beginTurn 52 = .ok (.isub, 1) := by decide +kernel
theorem dX1_beginTurn_53 : decode cX1_beginTurn 53 = .ok (.invokestatic 122, 3) := by decide +kernel
theorem dX1_beginTurn_56 : decode cX1_beginTurn 56 = .ok (.istore_n 3, 1) := by decide +kernel
theorem dX1_beginTurn_57 : decode cX1_beginTurn 57 = .ok (.aload_n 0, 1) := by decide +kernel
theorem dX1_beginTurn_58 : decode cX1_beginTurn 58 = .ok (.getfield 12, 3) := by decide +kernel
theorem dX1_beginTurn_61 : decode cX1_beginTurn 61 = .ok (.iload_n 2, 1) := by decide +kernel
theorem dX1_beginTurn_62 : decode cX1_beginTurn 62 = .ok (.aload_n 0, 1) := by decide +kernel
theorem dX1_beginTurn_63 : decode cX1_beginTurn 63 = .ok (.getfield 12, 3) := by decide +kernel
theorem dX1_beginTurn_66 : decode cX1_beginTurn 66 = .ok (.iload_n 2, 1) := by decide +kernel
theorem dX1_beginTurn_67 : decode cX1_beginTurn 67 = .ok (.invokevirtual 77, 3) := by decide +kernel
theorem dX1_beginTurn_70 : decode cX1_beginTurn 70 = .ok (.iload_n 3, 1) := by decide +kernel
theorem dX1_beginTurn_71 : decode cX1_beginTurn 71 = .ok (.iadd, 1) := by decide +kernel
theorem dX1_beginTurn_72 : decode cX1_beginTurn 72 = .ok (.invokevirtual 81, 3) := by decide +kernel
theorem dX1_beginTurn_75 : decode cX1_beginTurn 75 = .ok (.aload_n 0, 1) := by decide +kernel
theorem dX1_beginTurn_76 : decode cX1_beginTurn 76 = .ok (.dup, 1) := by decide +kernel
theorem dX1_beginTurn_77 : decode cX1_beginTurn 77 = .ok (.getfield 51, 3) := by decide +kernel
theorem dX1_beginTurn_80 : decode cX1_beginTurn 80 = .ok (.iload_n 3, 1) := by decide +kernel
theorem dX1_beginTurn_81 : decode cX1_beginTurn 81 = .ok (.iadd, 1) := by decide +kernel
theorem dX1_beginTurn_82 : decode cX1_beginTurn 82 = .ok (.putfield 51, 3) := by decide +kernel
theorem dX1_beginTurn_85 : decode cX1_beginTurn 85 = .ok (.iinc 2 1, 3) := by decide +kernel
theorem dX1_beginTurn_88 : decode cX1_beginTurn 88 = .ok (.goto (-81), 3) := by decide +kernel
theorem dX1_beginTurn_91 : decode cX1_beginTurn 91 = .ok (.return_, 1) := by decide +kernel
theorem dX2_init_0 : decode cX2_init 0 = .ok (.aload_n 0, 1) := by decide +kernel
theorem dX2_init_1 : decode cX2_init 1 = .ok (.invokespecial 1, 3) := by decide +kernel
theorem dX2_init_4 : decode cX2_init 4 = .ok (.aload_n 0, 1) := by decide +kernel
theorem dX2_init_5 : decode cX2_init 5 = .ok (.new 7, 3) := by decide +kernel
theorem dX2_init_8 : decode cX2_init 8 = .ok (.dup, 1) := by decide +kernel
theorem dX2_init_9 : decode cX2_init 9 = .ok (.invokespecial 9, 3) := by decide +kernel
theorem dX2_init_12 : decode cX2_init 12 = .ok (.putfield 10, 3) := by decide +kernel
theorem dX2_init_15 : decode cX2_init 15 = .ok (.aload_n 0, 1) := by decide +kernel
theorem dX2_init_16 : decode cX2_init 16 = .ok (.new 7, 3) := by decide +kernel
theorem dX2_init_19 : decode cX2_init 19 = .ok (.dup, 1) := by decide +kernel
theorem dX2_init_20 : decode cX2_init 20 = .ok (.invokespecial 9, 3) := by decide +kernel
theorem dX2_init_23 : decode cX2_init 23 = .ok (.putfield 16, 3) := by decide +kernel
theorem dX2_init_26 : decode cX2_init 26 = .ok (.aload_n 0, 1) := by decide +kernel
theorem dX2_init_27 : decode cX2_init 27 = .ok (.iconst 5, 1) := by decide +kernel
theorem dX2_init_28 : decode cX2_init 28 = .ok (.anewarray 7, 3) := by decide +kernel
theorem dX2_init_31 : decode cX2_init 31 = .ok (.putfield 19, 3) := by decide +kernel
theorem dX2_init_34 : decode cX2_init 34 = .ok (.aload_n 0, 1) := by decide +kernel
theorem dX2_init_35 : decode cX2_init 35 = .ok (.bipush 80, 2) := by decide +kernel
theorem dX2_init_37 : decode cX2_init 37 = .ok (.newarray .char, 2) := by decide +kernel
theorem dX2_init_39 : decode cX2_init 39 = .ok (.putfield 23, 3) := by decide +kernel
theorem dX2_init_42 : decode cX2_init 42 = .ok (.aload_n 0, 1) := by decide +kernel
theorem dX2_init_43 : decode cX2_init 43 = .ok (.bipush 36, 2) := by decide +kernel
theorem dX2_init_45 : decode cX2_init 45 = .ok (.newarray .int, 2) := by decide +kernel
theorem dX2_init_47 : decode cX2_init 47 = .ok (.putfield 27, 3) := by decide +kernel
theorem dX2_init_50 : decode cX2_init 50 = .ok (.aload_n 0, 1) := by decide +kernel
theorem dX2_init_51 : decode cX2_init 51 = .ok (.bipush 36, 2) := by decide +kernel
theorem dX2_init_53 : decode cX2_init 53 = .ok (.newarray .int, 2) := by decide +kernel
theorem dX2_init_55 : decode cX2_init 55 = .ok (.putfield 31, 3) := by decide +kernel
theorem dX2_init_58 : decode cX2_init 58 = .ok (.iconst 0, 1) := by decide +kernel
theorem dX2_init_59 : decode cX2_init 59 = .ok (.istore_n 1, 1) := by decide +kernel
theorem dX2_init_60 : decode cX2_init 60 = .ok (.iload_n 1, 1) := by decide +kernel
theorem dX2_init_61 : decode cX2_init 61 = .ok (.aload_n 0, 1) := by decide +kernel
theorem dX2_init_62 : decode cX2_init 62 = .ok (.getfield 19, 3) := by decide +kernel
theorem dX2_init_65 : decode cX2_init 65 = .ok (.arraylength, 1) := by decide +kernel
theorem dX2_init_66 : decode cX2_init 66 = .ok (.if_icmp .ge 22, 3) := by decide +kernel
theorem dX2_init_69 : decode cX2_init 69 = .ok (.aload_n 0, 1) := by decide +kernel
theorem dX2_init_70 : decode cX2_init 70 = .ok (.getfield 19, 3) := by decide +kernel
theorem dX2_init_73 : decode cX2_init 73 = .ok (.iload_n 1, 1) := by decide +kernel
theorem dX2_init_74 : decode cX2_init 74 = .ok (.new 7, 3) := by decide +kernel
theorem dX2_init_77 : decode cX2_init 77 = .ok (.dup, 1) := by decide +kernel
theorem dX2_init_78 : decode cX2_init 78 = .ok (.invokespecial 9, 3) := by decide +kernel
theorem dX2_init_81 : decode cX2_init 81 = .ok (.aastore, 1) := by decide +kernel
theorem dX2_init_82 : decode cX2_init 82 = .ok (.iinc 1 1, 3) := by decide +kernel
theorem dX2_init_85 : decode cX2_init 85 = .ok (.goto (-25), 3) := by decide +kernel
theorem dX2_init_88 : decode cX2_init 88 = .ok (.aload_n 0, 1) := by decide +kernel
theorem dX2_init_89 : decode cX2_init 89 = .ok (.getfield 10, 3) := by decide +kernel
theorem dX2_init_92 : decode cX2_init 92 = .ok (.invokevirtual 34, 3) := by decide +kernel
theorem dX2_init_95 : decode cX2_init 95 = .ok (.return_, 1) := by decide +kernel
theorem dX2_setUp_0 : decode cX2_setUp 0 = .ok (.aload_n 0, 1) := by decide +kernel
theorem dX2_setUp_1 : decode cX2_setUp 1 = .ok (.invokevirtual 37, 3) := by decide +kernel
theorem dX2_setUp_4 : decode cX2_setUp 4 = .ok (.aload_n 0, 1) := by decide +kernel
theorem dX2_setUp_5 : decode cX2_setUp 5 = .ok (.getfield 10, 3) := by decide +kernel
theorem dX2_setUp_8 : decode cX2_setUp 8 = .ok (.invokevirtual 34, 3) := by decide +kernel
theorem dX2_setUp_11 : decode cX2_setUp 11 = .ok (.aload_n 0, 1) := by decide +kernel
theorem dX2_setUp_12 : decode cX2_setUp 12 = .ok (.getfield 10, 3) := by decide +kernel
theorem dX2_setUp_15 : decode cX2_setUp 15 = .ok (.getfield 40, 3) := by decide +kernel
theorem dX2_setUp_18 : decode cX2_setUp 18 = .ok (.invokevirtual 44, 3) := by decide +kernel
theorem dX2_setUp_21 : decode cX2_setUp 21 = .ok (.ireturn, 1) := by decide +kernel
theorem dX2_set_0 : decode cX2_set 0 = .ok (.iload_n 1, 1) := by decide +kernel
theorem dX2_set_1 : decode cX2_set 1 = .ok (.iload_n 2, 1) := by decide +kernel
theorem dX2_set_2 : decode cX2_set 2 = .ok (.invokestatic 50, 3) := by decide +kernel
theorem dX2_set_5 : decode cX2_set 5 = .ok (.ifCond .ne 5, 3) := by decide +kernel
theorem dX2_set_8 : decode cX2_set 8 = .ok (.iconst (-1), 1) := by decide +kernel
theorem dX2_set_9 : decode cX2_set 9 = .ok (.ireturn, 1) := by decide +kernel
theorem dX2_set_10 : decode cX2_set 10 = .ok (.aload_n 0, 1) := by decide +kernel
theorem dX2_set_11 : decode cX2_set 11 = .ok (.invokevirtual 37, 3) := by decide +kernel
theorem dX2_set_14 : decode cX2_set 14 = .ok (.aload_n 0, 1) := by decide +kernel
theorem dX2_set_15 : decode cX2_set 15 = .ok (.getfield 10, 3) := by decide +kernel
theorem dX2_set_18 : decode cX2_set 18 = .ok (.iload_n 1, 1) := by decide +kernel
theorem dX2_set_19 : decode cX2_set 19 = .ok (.invokevirtual 54, 3) := by decide +kernel
theorem dX2_set_22 : decode cX2_set 22 = .ok (.istore_n 3, 1) := by decide +kernel
theorem dX2_set_23 : decode cX2_set 23 = .ok (.aload_n 0, 1) := by decide +kernel
theorem dX2_set_24 : decode cX2_set 24 = .ok (.getfield 10, 3) := by decide +kernel
theorem dX2_set_27 : decode cX2_set 27 = .ok (.iload_n 1, 1) := by decide +kernel
theorem dX2_set_28 : decode cX2_set 28 = .ok (.iload_n 2, 1) := by decide +kernel
theorem dX2_set_29 : decode cX2_set 29 = .ok (.invokevirtual 58, 3) := by decide +kernel
theorem dX2_set_32 : decode cX2_set 32 = .ok (.iload_n 3, 1) := by decide +kernel
theorem dX2_set_33 : decode cX2_set 33 = .ok (.ireturn, 1) := by decide +kernel
theorem dX2_put_0 : decode cX2_put 0 = .ok (.iload_n 2, 1) := by decide +kernel
theorem dX2_put_1 : decode cX2_put 1 = .ok (.invokestatic 62, 3) := by decide +kernel
theorem dX2_put_4 : decode cX2_put 4 = .ok (.ifCond .ne 8, 3) := by decide +kernel
theorem dX2_put_7 : decode cX2_put 7 = .ok (.iload_n 2, 1) := by decide +kernel
theorem dX2_put_8 : decode cX2_put 8 = .ok (.iconst (-1), 1) := by decide +kernel
theorem dX2_put_9 : decode cX2_put 9 = .ok (.if_icmp .ne 7, 3) := by decide +kernel
theorem dX2_put_12 : decode cX2_put 12 = .ok (.iconst 1, 1) := by decide +kernel
theorem dX2_put_13 : decode cX2_put 13 = .ok (.goto 4, 3) := by decide +kernel
theorem dX2_put_16 : decode cX2_put 16 = .ok (.iconst 0, 1) := by decide +kernel
theorem dX2_put_17 : decode cX2_put 17 = .ok (.istore 5, 2) := by decide +kernel
theorem dX2_put_19 : decode cX2_put 19 = .ok (.iload_n 3, 1) := by decide +kernel
theorem dX2_put_20 : decode cX2_put 20 = .ok (.ifCond .lt 12, 3) := by decide +kernel
theorem dX2_put_23 : decode cX2_put 23 = .ok (.iload_n 3, 1) := by decide +kernel
theorem dX2_put_24 : decode cX2_put 24 = .ok (.iconst 4, 1) := by decide +kernel
theorem dX2_put_25 : decode cX2_put 25 = .ok (.if_icmp .gt 7, 3) := by decide +kernel
theorem dX2_put_28 : decode cX2_put 28 = .ok (.iconst 1, 1) := by decide +kernel
theorem dX2_put_29 : decode cX2_put 29 = .ok (.goto 4, 3) := by decide +kernel
theorem dX2_put_32 : decode cX2_put 32 = .ok (.iconst 0, 1) := by decide +kernel
theorem dX2_put_33 : decode cX2_put 33 = .ok (.istore 6, 2) := by decide +kernel
theorem dX2_put_35 : decode cX2_put 35 = .ok (.iload 4, 2) := by decide +kernel
theorem dX2_put_37 : decode cX2_put 37 = .ok (.ifCond .lt 19, 3) := by decide +kernel
theorem dX2_put_40 : decode cX2_put 40 = .ok (.iload 4, 2) := by decide +kernel
theorem dX2_put_42 : decode cX2_put 42 = .ok (.aload_n 0, 1) := by decide +kernel
theorem dX2_put_43 : decode cX2_put 43 = .ok (.getfield 10, 3) := by decide +kernel
theorem dX2_put_46 : decode cX2_put 46 = .ok (.getfield 66, 3) := by decide +kernel
theorem dX2_put_49 : decode cX2_put 49 = .ok (.if_icmp .gt 7, 3) := by decide +kernel
theorem dX2_put_52 : decode cX2_put 52 = .ok (.iconst 1, 1) := by decide +kernel
theorem dX2_put_53 : decode cX2_put 53 = .ok (.goto 4, 3) := by decide +kernel
theorem dX2_put_56 : decode cX2_put 56 = .ok (.iconst 0, 1) := by decide +kernel
theorem dX2_put_57 : decode cX2_put 57 = .ok (.istore 7, 2) := by decide +kernel
theorem dX2_put_59 : decode cX2_put 59 = .ok (.iload_n 1, 1) := by decide +kernel
theorem dX2_put_60 : decode cX2_put 60 = .ok (.invokestatic 70, 3) := by decide +kernel
theorem dX2_put_63 : decode cX2_put 63 = .ok (.ifCond .eq 18, 3) := by decide +kernel
theorem dX2_put_66 : decode cX2_put 66 = .ok (.iload 5, 2) := by decide +kernel
theorem dX2_put_68 : decode cX2_put 68 = .ok (.ifCond .eq 13, 3) := by decide +kernel
theorem dX2_put_71 : decode cX2_put 71 = .ok (.iload 6, 2) := by decide +kernel
theorem dX2_put_73 : decode cX2_put 73 = .ok (.ifCond .eq 8, 3) := by decide +kernel
theorem dX2_put_76 : decode cX2_put 76 = .ok (.iload 7, 2) := by decide +kernel
theorem dX2_put_78 : decode cX2_put 78 = .ok (.ifCond .ne 5, 3) := by decide +kernel
theorem dX2_put_81 : decode cX2_put 81 = .ok (.iconst (-1), 1) := by decide +kernel
theorem dX2_put_82 : decode cX2_put 82 = .ok (.ireturn, 1) := by decide +kernel
theorem dX2_put_83 : decode cX2_put 83 = .ok (.aload_n 0, 1) := by decide +kernel
theorem dX2_put_84 : decode cX2_put 84 = .ok (.getfield 10, 3) := by decide +kernel
theorem dX2_put_87 : decode cX2_put 87 = .ok (.invokevirtual 73, 3) := by decide +kernel
theorem dX2_put_90 : decode cX2_put 90 = .ok (.ifCond .eq 6, 3) := by decide +kernel
theorem dX2_put_93 : decode cX2_put 93 = .ok (.bipush (-2), 2) := by decide +kernel
theorem dX2_put_95 : decode cX2_put 95 = .ok (.ireturn, 1) := by decide +kernel
theorem dX2_put_96 : decode cX2_put 96 = .ok (.aload_n 0, 1) := by decide +kernel
theorem dX2_put_97 : decode cX2_put 97 = .ok (.invokevirtual 37, 3) := by decide +kernel
theorem dX2_put_100 : decode cX2_put 100 = .ok (.aload_n 0, 1) := by decide +kernel
theorem dX2_put_101 : decode cX2_put 101 = .ok (.getfield 10, 3) := by decide +kernel
theorem dX2_put_104 : decode cX2_put 104 = .ok (.getfield 40, 3) := by decide +kernel
theorem dX2_put_107 : decode cX2_put 107 = .ok (.iload_n 1, 1) := by decide +kernel
theorem dX2_put_108 : decode cX2_put 108 = .ok (.invokevirtual 77, 3) := by decide +kernel
theorem dX2_put_111 : decode cX2_put 111 = .ok (.istore 8, 2) := by decide +kernel
theorem dX2_put_113 : decode cX2_put 113 = .ok (.aload_n 0, 1) := by decide +kernel
theorem dX2_put_114 : decode cX2_put 114 = .ok (.getfield 10, 3) := by decide +kernel
theorem dX2_put_117 : decode cX2_put 117 = .ok (.iload_n 1, 1) := by decide +kernel
theorem dX2_put_118 : decode cX2_put 118 = .ok (.iload_n 2, 1) := by decide +kernel
theorem dX2_put_119 : decode cX2_put 119 = .ok (.iload_n 3, 1) := by decide +kernel
theorem dX2_put_120 : decode cX2_put 120 = .ok (.iload 4, 2) := by decide +kernel
theorem dX2_put_122 : decode cX2_put 122 = .ok (.invokevirtual 80, 3) := by decide +kernel
theorem dX2_put_125 : decode cX2_put 125 = .ok (.iload 8, 2) := by decide +kernel
theorem dX2_put_127 : decode cX2_put 127 = .ok (.ifCond .eq 7, 3) := by decide +kernel
theorem dX2_put_130 : decode cX2_put 130 = .ok (.iconst 1, 1) := by decide +kernel
theorem dX2_put_131 : decode cX2_put 131 = .ok (.goto 4, 3) := by decide +kernel
theorem dX2_put_134 : decode cX2_put 134 = .ok (.iconst 0, 1) := by decide +kernel
theorem dX2_put_135 : decode cX2_put 135 = .ok (.ireturn, 1) := by decide +kernel
theorem dX2_tower_0 : decode cX2_tower 0 = .ok (.iload_n 1, 1) := by decide +kernel
theorem dX2_tower_1 : decode cX2_tower 1 = .ok (.invokestatic 70, 3) := by decide +kernel
theorem dX2_tower_4 : decode cX2_tower 4 = .ok (.ifCond .ne 5, 3) := by decide +kernel
theorem dX2_tower_7 : decode cX2_tower 7 = .ok (.iconst (-1), 1) := by decide +kernel
theorem dX2_tower_8 : decode cX2_tower 8 = .ok (.ireturn, 1) := by decide +kernel
theorem dX2_tower_9 : decode cX2_tower 9 = .ok (.aload_n 0, 1) := by decide +kernel
theorem dX2_tower_10 : decode cX2_tower 10 = .ok (.getfield 10, 3) := by decide +kernel
theorem dX2_tower_13 : decode cX2_tower 13 = .ok (.getfield 40, 3) := by decide +kernel
theorem dX2_tower_16 : decode cX2_tower 16 = .ok (.iload_n 1, 1) := by decide +kernel
theorem dX2_tower_17 : decode cX2_tower 17 = .ok (.invokevirtual 84, 3) := by decide +kernel
theorem dX2_tower_20 : decode cX2_tower 20 = .ok (.ifCond .ne 21, 3) := by decide +kernel
theorem dX2_tower_23 : decode cX2_tower 23 = .ok (.aload_n 0, 1) := by decide +kernel
theorem dX2_tower_24 : decode cX2_tower 24 = .ok (.getfield 10, 3) := by decide +kernel
theorem dX2_tower_27 : decode cX2_tower 27 = .ok (.getfield 40, 3) := by decide +kernel
theorem dX2_tower_30 : decode cX2_tower 30 = .ok (.invokevirtual 87, 3) := by decide +kernel
theorem dX2_tower_33 : decode cX2_tower 33 = .ok (.bipush 6, 2) := by decide +kernel
theorem dX2_tower_35 : decode cX2_tower 35 = .ok (.if_icmp .lt 6, 3) := by decide +kernel
theorem dX2_tower_38 : decode cX2_tower 38 = .ok (.bipush (-3), 2) := by decide +kernel
theorem dX2_tower_40 : decode cX2_tower 40 = .ok (.ireturn, 1) := by decide +kernel
theorem dX2_tower_41 : decode cX2_tower 41 = .ok (.aload_n 0, 1) := by decide +kernel
theorem dX2_tower_42 : decode cX2_tower 42 = .ok (.invokevirtual 37, 3) := by decide +kernel
theorem dX2_tower_45 : decode cX2_tower 45 = .ok (.aload_n 0, 1) := by decide +kernel
theorem dX2_tower_46 : decode cX2_tower 46 = .ok (.getfield 10, 3) := by decide +kernel
theorem dX2_tower_49 : decode cX2_tower 49 = .ok (.getfield 40, 3) := by decide +kernel
theorem dX2_tower_52 : decode cX2_tower 52 = .ok (.iload_n 1, 1) := by decide +kernel
theorem dX2_tower_53 : decode cX2_tower 53 = .ok (.aload_n 0, 1) := by decide +kernel
theorem dX2_tower_54 : decode cX2_tower 54 = .ok (.getfield 10, 3) := by decide +kernel
theorem dX2_tower_57 : decode cX2_tower 57 = .ok (.getfield 40, 3) := by decide +kernel
theorem dX2_tower_60 : decode cX2_tower 60 = .ok (.iload_n 1, 1) := by decide +kernel
theorem dX2_tower_61 : decode cX2_tower 61 = .ok (.invokevirtual 84, 3) := by decide +kernel
theorem dX2_tower_64 : decode cX2_tower 64 = .ok (.ifCond .ne 7, 3) := by decide +kernel
theorem dX2_tower_67 : decode cX2_tower 67 = .ok (.iconst 1, 1) := by decide +kernel
theorem dX2_tower_68 : decode cX2_tower 68 = .ok (.goto 4, 3) := by decide +kernel
theorem dX2_tower_71 : decode cX2_tower 71 = .ok (.iconst 0, 1) := by decide +kernel
theorem dX2_tower_72 : decode cX2_tower 72 = .ok (.invokevirtual 90, 3) := by decide +kernel
theorem dX2_tower_75 : decode cX2_tower 75 = .ok (.aload_n 0, 1) := by decide +kernel
theorem dX2_tower_76 : decode cX2_tower 76 = .ok (.getfield 10, 3) := by decide +kernel
theorem dX2_tower_79 : decode cX2_tower 79 = .ok (.getfield 40, 3) := by decide +kernel
theorem dX2_tower_82 : decode cX2_tower 82 = .ok (.invokevirtual 87, 3) := by decide +kernel
theorem dX2_tower_85 : decode cX2_tower 85 = .ok (.ireturn, 1) := by decide +kernel
theorem dX2_cell_0 : decode cX2_cell 0 = .ok (.iload_n 1, 1) := by decide +kernel
theorem dX2_cell_1 : decode cX2_cell 1 = .ok (.invokestatic 70, 3) := by decide +kernel
theorem dX2_cell_4 : decode cX2_cell 4 = .ok (.ifCond .eq 12, 3) := by decide +kernel
theorem dX2_cell_7 : decode cX2_cell 7 = .ok (.iload_n 2, 1) := by decide +kernel
theorem dX2_cell_8 : decode cX2_cell 8 = .ok (.ifCond .lt 8, 3) := by decide +kernel
theorem dX2_cell_11 : decode cX2_cell 11 = .ok (.iload_n 2, 1) := by decide +kernel
theorem dX2_cell_12 : decode cX2_cell 12 = .ok (.iconst 4, 1) := by decide +kernel
theorem dX2_cell_13 : decode cX2_cell 13 = .ok (.if_icmp .le 5, 3) := by decide +kernel
theorem dX2_cell_16 : decode cX2_cell 16 = .ok (.iconst (-1), 1) := by decide +kernel
theorem dX2_cell_17 : decode cX2_cell 17 = .ok (.ireturn, 1) := by decide +kernel
theorem dX2_cell_18 : decode cX2_cell 18 = .ok (.aload_n 0, 1) := by decide +kernel
theorem dX2_cell_19 : decode cX2_cell 19 = .ok (.getfield 10, 3) := by decide +kernel
theorem dX2_cell_22 : decode cX2_cell 22 = .ok (.getfield 40, 3) := by decide +kernel
theorem dX2_cell_25 : decode cX2_cell 25 = .ok (.astore_n 3, 1) := by decide +kernel
theorem dX2_cell_26 : decode cX2_cell 26 = .ok (.iload_n 2, 1) := by decide +kernel
theorem dX2_cell_27 : decode cX2_cell 27 = .ok (.iconst 3, 1) := by decide +kernel
theorem dX2_cell_28 : decode cX2_cell 28 = .ok (.if_icmp .ne 17, 3) := by decide +kernel
theorem dX2_cell_31 : decode cX2_cell 31 = .ok (.aload_n 3, 1) := by decide +kernel
theorem dX2_cell_32 : decode cX2_cell 32 = .ok (.iload_n 1, 1) := by decide +kernel
theorem dX2_cell_33 : decode cX2_cell 33 = .ok (.invokevirtual 84, 3) := by decide +kernel
theorem dX2_cell_36 : decode cX2_cell 36 = .ok (.ifCond .eq 7, 3) := by decide +kernel
theorem dX2_cell_39 : decode cX2_cell 39 = .ok (.iconst 1, 1) := by decide +kernel
theorem dX2_cell_40 : decode cX2_cell 40 = .ok (.goto 4, 3) := by decide +kernel
theorem dX2_cell_43 : decode cX2_cell 43 = .ok (.iconst 0, 1) := by decide +kernel
theorem dX2_cell_44 : decode cX2_cell 44 = .ok (.ireturn, 1) := by decide +kernel
theorem dX2_cell_45 : decode cX2_cell 45 = .ok (.aload_n 3, 1) := by decide +kernel
theorem dX2_cell_46 : decode cX2_cell 46 = .ok (.iload_n 1, 1) := by decide +kernel
theorem dX2_cell_47 : decode cX2_cell 47 = .ok (.invokevirtual 77, 3) := by decide +kernel
theorem dX2_cell_50 : decode cX2_cell 50 = .ok (.ifCond .ne 6, 3) := by decide +kernel
theorem dX2_cell_53 : decode cX2_cell 53 = .ok (.bipush (-4), 2) := by decide +kernel
theorem dX2_cell_55 : decode cX2_cell 55 = .ok (.ireturn, 1) := by decide +kernel
theorem dX2_cell_56 : decode cX2_cell 56 = .ok (.iload_n 2, 1) := by decide +kernel
theorem dX2_cell_57 : decode cX2_cell 57 = .ok (.tableswitch 45 0 2 #[27, 33, 39], 27) := by decide +kernel
theorem dX2_cell_84 : decode cX2_cell 84 = .ok (.aload_n 3, 1) := by decide +kernel
theorem dX2_cell_85 : decode cX2_cell 85 = .ok (.iload_n 1, 1) := by decide +kernel
theorem dX2_cell_86 : decode cX2_cell 86 = .ok (.invokevirtual 94, 3) := by decide +kernel
theorem dX2_cell_89 : decode cX2_cell 89 = .ok (.ireturn, 1) := by decide +kernel
theorem dX2_cell_90 : decode cX2_cell 90 = .ok (.aload_n 3, 1) := by decide +kernel
theorem dX2_cell_91 : decode cX2_cell 91 = .ok (.iload_n 1, 1) := by decide +kernel
theorem dX2_cell_92 : decode cX2_cell 92 = .ok (.invokevirtual 97, 3) := by decide +kernel
theorem dX2_cell_95 : decode cX2_cell 95 = .ok (.ireturn, 1) := by decide +kernel
theorem dX2_cell_96 : decode cX2_cell 96 = .ok (.aload_n 3, 1) := by decide +kernel
theorem dX2_cell_97 : decode cX2_cell 97 = .ok (.iload_n 1, 1) := by decide +kernel
theorem dX2_cell_98 : decode cX2_cell 98 = .ok (.invokevirtual 100, 3) := by decide +kernel
theorem dX2_cell_101 : decode cX2_cell 101 = .ok (.ireturn, 1) := by decide +kernel
theorem dX2_cell_102 : decode cX2_cell 102 = .ok (.aload_n 3, 1) := by decide +kernel
theorem dX2_cell_103 : decode cX2_cell 103 = .ok (.iload_n 1, 1) := by decide +kernel
theorem dX2_cell_104 : decode cX2_cell 104 = .ok (.invokevirtual 103, 3) := by decide +kernel
theorem dX2_cell_107 : decode cX2_cell 107 = .ok (.ireturn, 1) := by decide +kernel
theorem dX2_count_0 : decode cX2_count 0 = .ok (.iload_n 1, 1) := by decide +kernel
theorem dX2_count_1 : decode cX2_count 1 = .ok (.tableswitch 183 0 12 #[67, 75, 83, 107, 115, 126, 137, 149, 161, 166, 171, 171, 171], 67) := by decide +kernel
theorem dX2_count_68 : decode cX2_count 68 = .ok (.aload_n 0, 1) := by decide +kernel
theorem dX2_count_69 : decode cX2_count 69 = .ok (.getfield 10, 3) := by decide +kernel
theorem dX2_count_72 : decode cX2_count 72 = .ok (.getfield 106, 3) := by decide +kernel
theorem dX2_count_75 : decode cX2_count 75 = .ok (.ireturn, 1) := by decide +kernel
theorem dX2_count_76 : decode cX2_count 76 = .ok (.aload_n 0, 1) := by decide +kernel
theorem dX2_count_77 : decode cX2_count 77 = .ok (.getfield 10, 3) := by decide +kernel
theorem dX2_count_80 : decode cX2_count 80 = .ok (.getfield 109, 3) := by decide +kernel
theorem dX2_count_83 : decode cX2_count 83 = .ok (.ireturn, 1) := by decide +kernel
theorem dX2_count_84 : decode cX2_count 84 = .ok (.aload_n 0, 1) := by decide +kernel
theorem dX2_count_85 : decode cX2_count 85 = .ok (.getfield 10, 3) := by decide +kernel
theorem dX2_count_88 : decode cX2_count 88 = .ok (.getfield 112, 3) := by decide +kernel
theorem dX2_count_91 : decode cX2_count 91 = .ok (.iconst (-1), 1) := by decide +kernel
theorem dX2_count_92 : decode cX2_count 92 = .ok (.if_icmp .ne 8, 3) := by decide +kernel
theorem dX2_count_95 : decode cX2_count 95 = .ok (.bipush (-4), 2) := by decide +kernel
theorem dX2_count_97 : decode cX2_count 97 = .ok (.goto 10, 3) := by decide +kernel
theorem dX2_count_100 : decode cX2_count 100 = .ok (.aload_n 0, 1) := by decide +kernel
theorem dX2_count_101 : decode cX2_count 101 = .ok (.getfield 10, 3) := by decide +kernel
theorem dX2_count_104 : decode cX2_count 104 = .ok (.getfield 112, 3) := by decide +kernel
theorem dX2_count_107 : decode cX2_count 107 = .ok (.ireturn, 1) := by decide +kernel
theorem dX2_count_108 : decode cX2_count 108 = .ok (.aload_n 0, 1) := by decide +kernel
theorem dX2_count_109 : decode cX2_count 109 = .ok (.getfield 10, 3) := by decide +kernel
theorem dX2_count_112 : decode cX2_count 112 = .ok (.getfield 115, 3) := by decide +kernel
theorem dX2_count_115 : decode cX2_count 115 = .ok (.ireturn, 1) := by decide +kernel
theorem dX2_count_116 : decode cX2_count 116 = .ok (.aload_n 0, 1) := by decide +kernel
theorem dX2_count_117 : decode cX2_count 117 = .ok (.getfield 10, 3) := by decide +kernel
theorem dX2_count_120 : decode cX2_count 120 = .ok (.getfield 40, 3) := by decide +kernel
theorem dX2_count_123 : decode cX2_count 123 = .ok (.invokevirtual 118, 3) := by decide +kernel
theorem dX2_count_126 : decode cX2_count 126 = .ok (.ireturn, 1) := by decide +kernel
theorem dX2_count_127 : decode cX2_count 127 = .ok (.aload_n 0, 1) := by decide +kernel
theorem dX2_count_128 : decode cX2_count 128 = .ok (.getfield 10, 3) := by decide +kernel
theorem dX2_count_131 : decode cX2_count 131 = .ok (.getfield 40, 3) := by decide +kernel
theorem dX2_count_134 : decode cX2_count 134 = .ok (.invokevirtual 87, 3) := by decide +kernel
theorem dX2_count_137 : decode cX2_count 137 = .ok (.ireturn, 1) := by decide +kernel
theorem dX2_count_138 : decode cX2_count 138 = .ok (.aload_n 0, 1) := by decide +kernel
theorem dX2_count_139 : decode cX2_count 139 = .ok (.getfield 10, 3) := by decide +kernel
theorem dX2_count_142 : decode cX2_count 142 = .ok (.getfield 40, 3) := by decide +kernel
theorem dX2_count_145 : decode cX2_count 145 = .ok (.iconst 0, 1) := by decide +kernel
theorem dX2_count_146 : decode cX2_count 146 = .ok (.invokevirtual 121, 3) := by decide +kernel
theorem dX2_count_149 : decode cX2_count 149 = .ok (.ireturn, 1) := by decide +kernel
theorem dX2_count_150 : decode cX2_count 150 = .ok (.aload_n 0, 1) := by decide +kernel
theorem dX2_count_151 : decode cX2_count 151 = .ok (.getfield 10, 3) := by decide +kernel
theorem dX2_count_154 : decode cX2_count 154 = .ok (.getfield 40, 3) := by decide +kernel
theorem dX2_count_157 : decode cX2_count 157 = .ok (.iconst 1, 1) := by decide +kernel
theorem dX2_count_158 : decode cX2_count 158 = .ok (.invokevirtual 121, 3) := by decide +kernel
theorem dX2_count_161 : decode cX2_count 161 = .ok (.ireturn, 1) := by decide +kernel
theorem dX2_count_162 : decode cX2_count 162 = .ok (.aload_n 0, 1) := by decide +kernel
theorem dX2_count_163 : decode cX2_count 163 = .ok (.getfield 124, 3) := by decide +kernel
theorem dX2_count_166 : decode cX2_count 166 = .ok (.ireturn, 1) := by decide +kernel
theorem dX2_count_167 : decode cX2_count 167 = .ok (.aload_n 0, 1) := by decide +kernel
theorem dX2_count_168 : decode cX2_count 168 = .ok (.getfield 127, 3) := by decide +kernel
theorem dX2_count_171 : decode cX2_count 171 = .ok (.ireturn, 1) := by decide +kernel
theorem dX2_count_172 : decode cX2_count 172 = .ok (.aload_n 0, 1) := by decide +kernel
theorem dX2_count_173 : decode cX2_count 173 = .ok (.getfield 10, 3) := by decide +kernel
theorem dX2_count_176 : decode cX2_count 176 = .ok (.iload_n 1, 1) := by decide +kernel
theorem dX2_count_177 : decode cX2_count 177 = .ok (.bipush 10, 2) := by decide +kernel
theorem dX2_count_179 : decode cX2_count 179 = .ok (.isub, 1) := by decide +kernel
theorem dX2_count_180 : decode cX2_count 180 = .ok (.invokevirtual 54, 3) := by decide +kernel
theorem dX2_count_183 : decode cX2_count 183 = .ok (.ireturn, 1) := by decide +kernel
theorem dX2_count_184 : decode cX2_count 184 = .ok (.iload_n 1, 1) := by decide +kernel
theorem dX2_count_185 : decode cX2_count 185 = .ok (.bipush 20, 2) := by decide +kernel
theorem dX2_count_187 : decode cX2_count 187 = .ok (.isub, 1) := by decide +kernel
theorem dX2_count_188 : decode cX2_count 188 = .ok (.invokestatic 130, 3) := by decide +kernel
theorem dX2_count_191 : decode cX2_count 191 = .ok (.ifCond .eq 17, 3) := by decide +kernel
theorem dX2_count_194 : decode cX2_count 194 = .ok (.aload_n 0, 1) := by decide +kernel
theorem dX2_count_195 : decode cX2_count 195 = .ok (.getfield 10, 3) := by decide +kernel
theorem dX2_count_198 : decode cX2_count 198 = .ok (.iload_n 1, 1) := by decide +kernel
theorem dX2_count_199 : decode cX2_count 199 = .ok (.bipush 20, 2) := by decide +kernel
theorem dX2_count_201 : decode cX2_count 201 = .ok (.isub, 1) := by decide +kernel
theorem dX2_count_202 : decode cX2_count 202 = .ok (.invokevirtual 133, 3) := by decide +kernel
theorem dX2_count_205 : decode cX2_count 205 = .ok (.goto 4, 3) := by decide +kernel
theorem dX2_count_208 : decode cX2_count 208 = .ok (.iconst (-1), 1) := by decide +kernel
theorem dX2_count_209 : decode cX2_count 209 = .ok (.ireturn, 1) := by decide +kernel
theorem dX2_undo_0 : decode cX2_undo 0 = .ok (.aload_n 0, 1) := by decide +kernel
theorem dX2_undo_1 : decode cX2_undo 1 = .ok (.aload_n 0, 1) := by decide +kernel
theorem dX2_undo_2 : decode cX2_undo 2 = .ok (.getfield 124, 3) := by decide +kernel
theorem dX2_undo_5 : decode cX2_undo 5 = .ok (.iconst 1, 1) := by decide +kernel
theorem dX2_undo_6 : decode cX2_undo 6 = .ok (.isub, 1) := by decide +kernel
theorem dX2_undo_7 : decode cX2_undo 7 = .ok (.invokevirtual 136, 3) := by decide +kernel
theorem dX2_undo_10 : decode cX2_undo 10 = .ok (.astore_n 1, 1) := by decide +kernel
theorem dX2_undo_11 : decode cX2_undo 11 = .ok (.aload_n 1, 1) := by decide +kernel
theorem dX2_undo_12 : decode cX2_undo 12 = .ok (.ifnonnull 6, 3) := by decide +kernel
theorem dX2_undo_15 : decode cX2_undo 15 = .ok (.bipush (-2), 2) := by decide +kernel
theorem dX2_undo_17 : decode cX2_undo 17 = .ok (.ireturn, 1) := by decide +kernel
theorem dX2_undo_18 : decode cX2_undo 18 = .ok (.aload_n 0, 1) := by decide +kernel
theorem dX2_undo_19 : decode cX2_undo 19 = .ok (.dup, 1) := by decide +kernel
theorem dX2_undo_20 : decode cX2_undo 20 = .ok (.getfield 124, 3) := by decide +kernel
theorem dX2_undo_23 : decode cX2_undo 23 = .ok (.iconst 1, 1) := by decide +kernel
theorem dX2_undo_24 : decode cX2_undo 24 = .ok (.isub, 1) := by decide +kernel
theorem dX2_undo_25 : decode cX2_undo 25 = .ok (.putfield 124, 3) := by decide +kernel
theorem dX2_undo_28 : decode cX2_undo 28 = .ok (.aload_n 0, 1) := by decide +kernel
theorem dX2_undo_29 : decode cX2_undo 29 = .ok (.getfield 10, 3) := by decide +kernel
theorem dX2_undo_32 : decode cX2_undo 32 = .ok (.aload_n 1, 1) := by decide +kernel
theorem dX2_undo_33 : decode cX2_undo 33 = .ok (.invokevirtual 140, 3) := by decide +kernel
theorem dX2_undo_36 : decode cX2_undo 36 = .ok (.aload_n 0, 1) := by decide +kernel
theorem dX2_undo_37 : decode cX2_undo 37 = .ok (.getfield 124, 3) := by decide +kernel
theorem dX2_undo_40 : decode cX2_undo 40 = .ok (.ireturn, 1) := by decide +kernel
theorem dX2_move_0 : decode cX2_move 0 = .ok (.iload_n 1, 1) := by decide +kernel
theorem dX2_move_1 : decode cX2_move 1 = .ok (.invokestatic 70, 3) := by decide +kernel
theorem dX2_move_4 : decode cX2_move 4 = .ok (.ifCond .eq 10, 3) := by decide +kernel
theorem dX2_move_7 : decode cX2_move 7 = .ok (.iload_n 2, 1) := by decide +kernel
theorem dX2_move_8 : decode cX2_move 8 = .ok (.invokestatic 70, 3) := by decide +kernel
theorem dX2_move_11 : decode cX2_move 11 = .ok (.ifCond .ne 5, 3) := by decide +kernel
theorem dX2_move_14 : decode cX2_move 14 = .ok (.iconst (-1), 1) := by decide +kernel
theorem dX2_move_15 : decode cX2_move 15 = .ok (.ireturn, 1) := by decide +kernel
theorem dX2_move_16 : decode cX2_move 16 = .ok (.aload_n 0, 1) := by decide +kernel
theorem dX2_move_17 : decode cX2_move 17 = .ok (.getfield 10, 3) := by decide +kernel
theorem dX2_move_20 : decode cX2_move 20 = .ok (.iload_n 1, 1) := by decide +kernel
theorem dX2_move_21 : decode cX2_move 21 = .ok (.iload_n 2, 1) := by decide +kernel
theorem dX2_move_22 : decode cX2_move 22 = .ok (.invokevirtual 144, 3) := by decide +kernel
theorem dX2_move_25 : decode cX2_move 25 = .ok (.ifCond .eq 6, 3) := by decide +kernel
theorem dX2_move_28 : decode cX2_move 28 = .ok (.bipush (-2), 2) := by decide +kernel
theorem dX2_move_30 : decode cX2_move 30 = .ok (.ireturn, 1) := by decide +kernel
theorem dX2_move_31 : decode cX2_move 31 = .ok (.aload_n 0, 1) := by decide +kernel
theorem dX2_move_32 : decode cX2_move 32 = .ok (.invokevirtual 37, 3) := by decide +kernel
theorem dX2_move_35 : decode cX2_move 35 = .ok (.aload_n 0, 1) := by decide +kernel
theorem dX2_move_36 : decode cX2_move 36 = .ok (.getfield 10, 3) := by decide +kernel
theorem dX2_move_39 : decode cX2_move 39 = .ok (.iload_n 1, 1) := by decide +kernel
theorem dX2_move_40 : decode cX2_move 40 = .ok (.iload_n 2, 1) := by decide +kernel
theorem dX2_move_41 : decode cX2_move 41 = .ok (.invokevirtual 148, 3) := by decide +kernel
theorem dX2_move_44 : decode cX2_move 44 = .ok (.ireturn, 1) := by decide +kernel
theorem dX2_pass_0 : decode cX2_pass 0 = .ok (.aload_n 0, 1) := by decide +kernel
theorem dX2_pass_1 : decode cX2_pass 1 = .ok (.getfield 10, 3) := by decide +kernel
theorem dX2_pass_4 : decode cX2_pass 4 = .ok (.invokevirtual 151, 3) := by decide +kernel
theorem dX2_pass_7 : decode cX2_pass 7 = .ok (.ifCond .eq 6, 3) := by decide +kernel
theorem dX2_pass_10 : decode cX2_pass 10 = .ok (.bipush (-2), 2) := by decide +kernel
theorem dX2_pass_12 : decode cX2_pass 12 = .ok (.ireturn, 1) := by decide +kernel
theorem dX2_pass_13 : decode cX2_pass 13 = .ok (.aload_n 0, 1) := by decide +kernel
theorem dX2_pass_14 : decode cX2_pass 14 = .ok (.invokevirtual 37, 3) := by decide +kernel
theorem dX2_pass_17 : decode cX2_pass 17 = .ok (.aload_n 0, 1) := by decide +kernel
theorem dX2_pass_18 : decode cX2_pass 18 = .ok (.getfield 10, 3) := by decide +kernel
theorem dX2_pass_21 : decode cX2_pass 21 = .ok (.invokevirtual 154, 3) := by decide +kernel
theorem dX2_pass_24 : decode cX2_pass 24 = .ok (.aload_n 0, 1) := by decide +kernel
theorem dX2_pass_25 : decode cX2_pass 25 = .ok (.getfield 10, 3) := by decide +kernel
theorem dX2_pass_28 : decode cX2_pass 28 = .ok (.invokevirtual 73, 3) := by decide +kernel
theorem dX2_pass_31 : decode cX2_pass 31 = .ok (.ifCond .eq 7, 3) := by decide +kernel
theorem dX2_pass_34 : decode cX2_pass 34 = .ok (.iconst 1, 1) := by decide +kernel
theorem dX2_pass_35 : decode cX2_pass 35 = .ok (.goto 4, 3) := by decide +kernel
theorem dX2_pass_38 : decode cX2_pass 38 = .ok (.iconst 0, 1) := by decide +kernel
theorem dX2_pass_39 : decode cX2_pass 39 = .ok (.ireturn, 1) := by decide +kernel
theorem dX2_refusal_0 : decode cX2_refusal 0 = .ok (.iload_n 1, 1) := by decide +kernel
theorem dX2_refusal_1 : decode cX2_refusal 1 = .ok (.invokestatic 70, 3) := by decide +kernel
theorem dX2_refusal_4 : decode cX2_refusal 4 = .ok (.ifCond .eq 10, 3) := by decide +kernel
theorem dX2_refusal_7 : decode cX2_refusal 7 = .ok (.iload_n 2, 1) := by decide +kernel
theorem dX2_refusal_8 : decode cX2_refusal 8 = .ok (.invokestatic 70, 3) := by decide +kernel
theorem dX2_refusal_11 : decode cX2_refusal 11 = .ok (.ifCond .ne 5, 3) := by decide +kernel
theorem dX2_refusal_14 : decode cX2_refusal 14 = .ok (.iconst (-1), 1) := by decide +kernel
theorem dX2_refusal_15 : decode cX2_refusal 15 = .ok (.ireturn, 1) := by decide +kernel
theorem dX2_refusal_16 : decode cX2_refusal 16 = .ok (.aload_n 0, 1) := by decide +kernel
theorem dX2_refusal_17 : decode cX2_refusal 17 = .ok (.getfield 10, 3) := by decide +kernel
theorem dX2_refusal_20 : decode cX2_refusal 20 = .ok (.iload_n 1, 1) := by decide +kernel
theorem dX2_refusal_21 : decode cX2_refusal 21 = .ok (.iload_n 2, 1) := by decide +kernel
theorem dX2_refusal_22 : decode cX2_refusal 22 = .ok (.invokevirtual 144, 3) := by decide +kernel
theorem dX2_refusal_25 : decode cX2_refusal 25 = .ok (.ireturn, 1) := by decide +kernel
theorem dX2_cost_0 : decode cX2_cost 0 = .ok (.iload_n 1, 1) := by decide +kernel
theorem dX2_cost_1 : decode cX2_cost 1 = .ok (.invokestatic 70, 3) := by decide +kernel
theorem dX2_cost_4 : decode cX2_cost 4 = .ok (.ifCond .eq 10, 3) := by decide +kernel
theorem dX2_cost_7 : decode cX2_cost 7 = .ok (.iload_n 2, 1) := by decide +kernel
theorem dX2_cost_8 : decode cX2_cost 8 = .ok (.invokestatic 70, 3) := by decide +kernel
theorem dX2_cost_11 : decode cX2_cost 11 = .ok (.ifCond .ne 5, 3) := by decide +kernel
theorem dX2_cost_14 : decode cX2_cost 14 = .ok (.iconst (-1), 1) := by decide +kernel
theorem dX2_cost_15 : decode cX2_cost 15 = .ok (.ireturn, 1) := by decide +kernel
theorem dX2_cost_16 : decode cX2_cost 16 = .ok (.aload_n 0, 1) := by decide +kernel
theorem dX2_cost_17 : decode cX2_cost 17 = .ok (.getfield 10, 3) := by decide +kernel
theorem dX2_cost_20 : decode cX2_cost 20 = .ok (.getfield 40, 3) := by decide +kernel
theorem dX2_cost_23 : decode cX2_cost 23 = .ok (.iload_n 1, 1) := by decide +kernel
theorem dX2_cost_24 : decode cX2_cost 24 = .ok (.iload_n 2, 1) := by decide +kernel
theorem dX2_cost_25 : decode cX2_cost 25 = .ok (.invokevirtual 157, 3) := by decide +kernel
theorem dX2_cost_28 : decode cX2_cost 28 = .ok (.istore_n 3, 1) := by decide +kernel
theorem dX2_cost_29 : decode cX2_cost 29 = .ok (.iload_n 3, 1) := by decide +kernel
theorem dX2_cost_30 : decode cX2_cost 30 = .ok (.ifCond .ne 8, 3) := by decide +kernel
theorem dX2_cost_33 : decode cX2_cost 33 = .ok (.bipush (-4), 2) := by decide +kernel
theorem dX2_cost_35 : decode cX2_cost 35 = .ok (.goto 4, 3) := by decide +kernel
theorem dX2_cost_38 : decode cX2_cost 38 = .ok (.iload_n 3, 1) := by decide +kernel
theorem dX2_cost_39 : decode cX2_cost 39 = .ok (.ireturn, 1) := by decide +kernel
theorem dX2_moves_0 : decode cX2_moves 0 = .ok (.iload_n 1, 1) := by decide +kernel
theorem dX2_moves_1 : decode cX2_moves 1 = .ok (.invokestatic 62, 3) := by decide +kernel
theorem dX2_moves_4 : decode cX2_moves 4 = .ok (.ifCond .eq 17, 3) := by decide +kernel
theorem dX2_moves_7 : decode cX2_moves 7 = .ok (.aload_n 0, 1) := by decide +kernel
theorem dX2_moves_8 : decode cX2_moves 8 = .ok (.getfield 10, 3) := by decide +kernel
theorem dX2_moves_11 : decode cX2_moves 11 = .ok (.getfield 40, 3) := by decide +kernel
theorem dX2_moves_14 : decode cX2_moves 14 = .ok (.iload_n 1, 1) := by decide +kernel
theorem dX2_moves_15 : decode cX2_moves 15 = .ok (.invokevirtual 160, 3) := by decide +kernel
theorem dX2_moves_18 : decode cX2_moves 18 = .ok (.goto 4, 3) := by decide +kernel
theorem dX2_moves_21 : decode cX2_moves 21 = .ok (.iconst (-1), 1) := by decide +kernel
theorem dX2_moves_22 : decode cX2_moves 22 = .ok (.ireturn, 1) := by decide +kernel
theorem dX2_listed_0 : decode cX2_listed 0 = .ok (.iload_n 1, 1) := by decide +kernel
theorem dX2_listed_1 : decode cX2_listed 1 = .ok (.invokestatic 62, 3) := by decide +kernel
theorem dX2_listed_4 : decode cX2_listed 4 = .ok (.ifCond .eq 7, 3) := by decide +kernel
theorem dX2_listed_7 : decode cX2_listed 7 = .ok (.iload_n 2, 1) := by decide +kernel
theorem dX2_listed_8 : decode cX2_listed 8 = .ok (.ifCond .ge 5, 3) := by decide +kernel
theorem dX2_listed_11 : decode cX2_listed 11 = .ok (.iconst (-1), 1) := by decide +kernel
theorem dX2_listed_12 : decode cX2_listed 12 = .ok (.ireturn, 1) := by decide +kernel
theorem dX2_listed_13 : decode cX2_listed 13 = .ok (.aload_n 0, 1) := by decide +kernel
theorem dX2_listed_14 : decode cX2_listed 14 = .ok (.getfield 10, 3) := by decide +kernel
theorem dX2_listed_17 : decode cX2_listed 17 = .ok (.getfield 40, 3) := by decide +kernel
theorem dX2_listed_20 : decode cX2_listed 20 = .ok (.astore_n 3, 1) := by decide +kernel
theorem dX2_listed_21 : decode cX2_listed 21 = .ok (.iconst 0, 1) := by decide +kernel
theorem dX2_listed_22 : decode cX2_listed 22 = .ok (.istore 4, 2) := by decide +kernel
theorem dX2_listed_24 : decode cX2_listed 24 = .ok (.iconst 0, 1) := by decide +kernel
theorem dX2_listed_25 : decode cX2_listed 25 = .ok (.istore 5, 2) := by decide +kernel
theorem dX2_listed_27 : decode cX2_listed 27 = .ok (.iload 5, 2) := by decide +kernel
theorem dX2_listed_29 : decode cX2_listed 29 = .ok (.bipush 36, 2) := by decide +kernel
theorem dX2_listed_31 : decode cX2_listed 31 = .ok (.if_icmp .ge 64, 3) := by decide +kernel
theorem dX2_listed_34 : decode cX2_listed 34 = .ok (.iconst 0, 1) := by decide +kernel
theorem dX2_listed_35 : decode cX2_listed 35 = .ok (.istore 6, 2) := by decide +kernel
theorem dX2_listed_37 : decode cX2_listed 37 = .ok (.aload_n 3, 1) := by decide +kernel
theorem dX2_listed_38 : decode cX2_listed 38 = .ok (.iload 5, 2) := by decide +kernel
theorem dX2_listed_40 : decode cX2_listed 40 = .ok (.invokevirtual 94, 3) := by decide +kernel
theorem dX2_listed_43 : decode cX2_listed 43 = .ok (.iload_n 1, 1) := by decide +kernel
theorem dX2_listed_44 : decode cX2_listed 44 = .ok (.if_icmp .ne 45, 3) := by decide +kernel
theorem dX2_listed_47 : decode cX2_listed 47 = .ok (.iload 6, 2) := by decide +kernel
theorem dX2_listed_49 : decode cX2_listed 49 = .ok (.bipush 36, 2) := by decide +kernel
theorem dX2_listed_51 : decode cX2_listed 51 = .ok (.if_icmp .ge 38, 3) := by decide +kernel
theorem dX2_listed_54 : decode cX2_listed 54 = .ok (.aload_n 3, 1) := by decide +kernel
theorem dX2_listed_55 : decode cX2_listed 55 = .ok (.iload 5, 2) := by decide +kernel
theorem dX2_listed_57 : decode cX2_listed 57 = .ok (.iload 6, 2) := by decide +kernel
theorem dX2_listed_59 : decode cX2_listed 59 = .ok (.invokevirtual 163, 3) := by decide +kernel
theorem dX2_listed_62 : decode cX2_listed 62 = .ok (.ifCond .eq 21, 3) := by decide +kernel
theorem dX2_listed_65 : decode cX2_listed 65 = .ok (.iload 4, 2) := by decide +kernel
theorem dX2_listed_67 : decode cX2_listed 67 = .ok (.iload_n 2, 1) := by decide +kernel
theorem dX2_listed_68 : decode cX2_listed 68 = .ok (.if_icmp .ne 12, 3) := by decide +kernel
theorem dX2_listed_71 : decode cX2_listed 71 = .ok (.bipush 36, 2) := by decide +kernel
theorem dX2_listed_73 : decode cX2_listed 73 = .ok (.iload 5, 2) := by decide +kernel
theorem dX2_listed_75 : decode cX2_listed 75 = .ok (.imul, 1) := by decide +kernel
theorem dX2_listed_76 : decode cX2_listed 76 = .ok (.iload 6, 2) := by decide +kernel
theorem dX2_listed_78 : decode cX2_listed 78 = .ok (.iadd, 1) := by decide +kernel
theorem dX2_listed_79 : decode cX2_listed 79 = .ok (.ireturn, 1) := by decide +kernel
theorem dX2_listed_80 : decode cX2_listed 80 = .ok (.iinc 4 1, 3) := by decide +kernel
theorem dX2_listed_83 : decode cX2_listed 83 = .ok (.iinc 6 1, 3) := by decide +kernel
theorem dX2_listed_86 : decode cX2_listed 86 = .ok (.goto (-49), 3) := by decide +kernel
theorem dX2_listed_89 : decode cX2_listed 89 = .ok (.iinc 5 1, 3) := by decide +kernel
theorem dX2_listed_92 : decode cX2_listed 92 = .ok (.goto (-65), 3) := by decide +kernel
theorem dX2_listed_95 : decode cX2_listed 95 = .ok (.bipush (-4), 2) := by decide +kernel
theorem dX2_listed_97 : decode cX2_listed 97 = .ok (.ireturn, 1) := by decide +kernel
theorem dX2_struck_0 : decode cX2_struck 0 = .ok (.iload_n 1, 1) := by decide +kernel
theorem dX2_struck_1 : decode cX2_struck 1 = .ok (.invokestatic 70, 3) := by decide +kernel
theorem dX2_struck_4 : decode cX2_struck 4 = .ok (.ifCond .eq 10, 3) := by decide +kernel
theorem dX2_struck_7 : decode cX2_struck 7 = .ok (.iload_n 2, 1) := by decide +kernel
theorem dX2_struck_8 : decode cX2_struck 8 = .ok (.invokestatic 62, 3) := by decide +kernel
theorem dX2_struck_11 : decode cX2_struck 11 = .ok (.ifCond .ne 5, 3) := by decide +kernel
theorem dX2_struck_14 : decode cX2_struck 14 = .ok (.iconst (-1), 1) := by decide +kernel
theorem dX2_struck_15 : decode cX2_struck 15 = .ok (.ireturn, 1) := by decide +kernel
theorem dX2_struck_16 : decode cX2_struck 16 = .ok (.aload_n 0, 1) := by decide +kernel
theorem dX2_struck_17 : decode cX2_struck 17 = .ok (.getfield 16, 3) := by decide +kernel
theorem dX2_struck_20 : decode cX2_struck 20 = .ok (.getfield 40, 3) := by decide +kernel
theorem dX2_struck_23 : decode cX2_struck 23 = .ok (.astore_n 3, 1) := by decide +kernel
theorem dX2_struck_24 : decode cX2_struck 24 = .ok (.aload_n 3, 1) := by decide +kernel
theorem dX2_struck_25 : decode cX2_struck 25 = .ok (.aload_n 0, 1) := by decide +kernel
theorem dX2_struck_26 : decode cX2_struck 26 = .ok (.getfield 10, 3) := by decide +kernel
theorem dX2_struck_29 : decode cX2_struck 29 = .ok (.getfield 40, 3) := by decide +kernel
theorem dX2_struck_32 : decode cX2_struck 32 = .ok (.invokevirtual 166, 3) := by decide +kernel
theorem dX2_struck_35 : decode cX2_struck 35 = .ok (.aload_n 3, 1) := by decide +kernel
theorem dX2_struck_36 : decode cX2_struck 36 = .ok (.iload_n 1, 1) := by decide +kernel
theorem dX2_struck_37 : decode cX2_struck 37 = .ok (.iconst 1, 1) := by decide +kernel
theorem dX2_struck_38 : decode cX2_struck 38 = .ok (.iload_n 2, 1) := by decide +kernel
theorem dX2_struck_39 : decode cX2_struck 39 = .ok (.isub, 1) := by decide +kernel
theorem dX2_struck_40 : decode cX2_struck 40 = .ok (.iconst 4, 1) := by decide +kernel
theorem dX2_struck_41 : decode cX2_struck 41 = .ok (.iconst 0, 1) := by decide +kernel
theorem dX2_struck_42 : decode cX2_struck 42 = .ok (.invokevirtual 169, 3) := by decide +kernel
theorem dX2_struck_45 : decode cX2_struck 45 = .ok (.iconst 0, 1) := by decide +kernel
theorem dX2_struck_46 : decode cX2_struck 46 = .ok (.istore 4, 2) := by decide +kernel
theorem dX2_struck_48 : decode cX2_struck 48 = .ok (.iconst 0, 1) := by decide +kernel
theorem dX2_struck_49 : decode cX2_struck 49 = .ok (.istore 5, 2) := by decide +kernel
theorem dX2_struck_51 : decode cX2_struck 51 = .ok (.iload 5, 2) := by decide +kernel
theorem dX2_struck_53 : decode cX2_struck 53 = .ok (.bipush 36, 2) := by decide +kernel
theorem dX2_struck_55 : decode cX2_struck 55 = .ok (.if_icmp .ge 32, 3) := by decide +kernel
theorem dX2_struck_58 : decode cX2_struck 58 = .ok (.aload_n 3, 1) := by decide +kernel
theorem dX2_struck_59 : decode cX2_struck 59 = .ok (.iload 5, 2) := by decide +kernel
theorem dX2_struck_61 : decode cX2_struck 61 = .ok (.invokevirtual 94, 3) := by decide +kernel
theorem dX2_struck_64 : decode cX2_struck 64 = .ok (.iload_n 2, 1) := by decide +kernel
theorem dX2_struck_65 : decode cX2_struck 65 = .ok (.if_icmp .ne 16, 3) := by decide +kernel
theorem dX2_struck_68 : decode cX2_struck 68 = .ok (.aload_n 3, 1) := by decide +kernel
theorem dX2_struck_69 : decode cX2_struck 69 = .ok (.iload 5, 2) := by decide +kernel
theorem dX2_struck_71 : decode cX2_struck 71 = .ok (.iload_n 1, 1) := by decide +kernel
theorem dX2_struck_72 : decode cX2_struck 72 = .ok (.invokevirtual 163, 3) := by decide +kernel
theorem dX2_struck_75 : decode cX2_struck 75 = .ok (.ifCond .eq 6, 3) := by decide +kernel
theorem dX2_struck_78 : decode cX2_struck 78 = .ok (.iinc 4 1, 3) := by decide +kernel
theorem dX2_struck_81 : decode cX2_struck 81 = .ok (.iinc 5 1, 3) := by decide +kernel
theorem dX2_struck_84 : decode cX2_struck 84 = .ok (.goto (-33), 3) := by decide +kernel
theorem dX2_struck_87 : decode cX2_struck 87 = .ok (.iload 4, 2) := by decide +kernel
theorem dX2_struck_89 : decode cX2_struck 89 = .ok (.ireturn, 1) := by decide +kernel
theorem dX2_reach_0 : decode cX2_reach 0 = .ok (.iload_n 1, 1) := by decide +kernel
theorem dX2_reach_1 : decode cX2_reach 1 = .ok (.invokestatic 70, 3) := by decide +kernel
theorem dX2_reach_4 : decode cX2_reach 4 = .ok (.ifCond .eq 13, 3) := by decide +kernel
theorem dX2_reach_7 : decode cX2_reach 7 = .ok (.iload_n 2, 1) := by decide +kernel
theorem dX2_reach_8 : decode cX2_reach 8 = .ok (.ifCond .lt 9, 3) := by decide +kernel
theorem dX2_reach_11 : decode cX2_reach 11 = .ok (.iload_n 2, 1) := by decide +kernel
theorem dX2_reach_12 : decode cX2_reach 12 = .ok (.bipush 12, 2) := by decide +kernel
theorem dX2_reach_14 : decode cX2_reach 14 = .ok (.if_icmp .le 5, 3) := by decide +kernel
theorem dX2_reach_17 : decode cX2_reach 17 = .ok (.iconst (-1), 1) := by decide +kernel
theorem dX2_reach_18 : decode cX2_reach 18 = .ok (.ireturn, 1) := by decide +kernel
theorem dX2_reach_19 : decode cX2_reach 19 = .ok (.aload_n 0, 1) := by decide +kernel
theorem dX2_reach_20 : decode cX2_reach 20 = .ok (.getfield 10, 3) := by decide +kernel
theorem dX2_reach_23 : decode cX2_reach 23 = .ok (.getfield 40, 3) := by decide +kernel
theorem dX2_reach_26 : decode cX2_reach 26 = .ok (.iload_n 1, 1) := by decide +kernel
theorem dX2_reach_27 : decode cX2_reach 27 = .ok (.invokevirtual 77, 3) := by decide +kernel
theorem dX2_reach_30 : decode cX2_reach 30 = .ok (.ifCond .ne 6, 3) := by decide +kernel
theorem dX2_reach_33 : decode cX2_reach 33 = .ok (.bipush (-4), 2) := by decide +kernel
theorem dX2_reach_35 : decode cX2_reach 35 = .ok (.ireturn, 1) := by decide +kernel
theorem dX2_reach_36 : decode cX2_reach 36 = .ok (.aload_n 0, 1) := by decide +kernel
theorem dX2_reach_37 : decode cX2_reach 37 = .ok (.getfield 10, 3) := by decide +kernel
theorem dX2_reach_40 : decode cX2_reach 40 = .ok (.getfield 40, 3) := by decide +kernel
theorem dX2_reach_43 : decode cX2_reach 43 = .ok (.iload_n 1, 1) := by decide +kernel
theorem dX2_reach_44 : decode cX2_reach 44 = .ok (.invokevirtual 94, 3) := by decide +kernel
theorem dX2_reach_47 : decode cX2_reach 47 = .ok (.istore_n 3, 1) := by decide +kernel
theorem dX2_reach_48 : decode cX2_reach 48 = .ok (.aload_n 0, 1) := by decide +kernel
theorem dX2_reach_49 : decode cX2_reach 49 = .ok (.getfield 10, 3) := by decide +kernel
theorem dX2_reach_52 : decode cX2_reach 52 = .ok (.getfield 40, 3) := by decide +kernel
theorem dX2_reach_55 : decode cX2_reach 55 = .ok (.iload_n 1, 1) := by decide +kernel
theorem dX2_reach_56 : decode cX2_reach 56 = .ok (.invokevirtual 97, 3) := by decide +kernel
theorem dX2_reach_59 : decode cX2_reach 59 = .ok (.istore 4, 2) := by decide +kernel
theorem dX2_reach_61 : decode cX2_reach 61 = .ok (.aload_n 0, 1) := by decide +kernel
theorem dX2_reach_62 : decode cX2_reach 62 = .ok (.getfield 16, 3) := by decide +kernel
theorem dX2_reach_65 : decode cX2_reach 65 = .ok (.getfield 40, 3) := by decide +kernel
theorem dX2_reach_68 : decode cX2_reach 68 = .ok (.aload_n 0, 1) := by decide +kernel
theorem dX2_reach_69 : decode cX2_reach 69 = .ok (.getfield 10, 3) := by decide +kernel
theorem dX2_reach_72 : decode cX2_reach 72 = .ok (.getfield 40, 3) := by decide +kernel
theorem dX2_reach_75 : decode cX2_reach 75 = .ok (.invokevirtual 166, 3) := by decide +kernel
theorem dX2_reach_78 : decode cX2_reach 78 = .ok (.aload_n 0, 1) := by decide +kernel
theorem dX2_reach_79 : decode cX2_reach 79 = .ok (.getfield 16, 3) := by decide +kernel
theorem dX2_reach_82 : decode cX2_reach 82 = .ok (.getfield 40, 3) := by decide +kernel
theorem dX2_reach_85 : decode cX2_reach 85 = .ok (.iload_n 1, 1) := by decide +kernel
theorem dX2_reach_86 : decode cX2_reach 86 = .ok (.invokevirtual 172, 3) := by decide +kernel
theorem dX2_reach_89 : decode cX2_reach 89 = .ok (.iconst 0, 1) := by decide +kernel
theorem dX2_reach_90 : decode cX2_reach 90 = .ok (.istore 5, 2) := by decide +kernel
theorem dX2_reach_92 : decode cX2_reach 92 = .ok (.iload 5, 2) := by decide +kernel
theorem dX2_reach_94 : decode cX2_reach 94 = .ok (.bipush 36, 2) := by decide +kernel
theorem dX2_reach_96 : decode cX2_reach 96 = .ok (.if_icmp .ge 37, 3) := by decide +kernel
theorem dX2_reach_99 : decode cX2_reach 99 = .ok (.aload_n 0, 1) := by decide +kernel
theorem dX2_reach_100 : decode cX2_reach 100 = .ok (.getfield 27, 3) := by decide +kernel
theorem dX2_reach_103 : decode cX2_reach 103 = .ok (.iload 5, 2) := by decide +kernel
theorem dX2_reach_105 : decode cX2_reach 105 = .ok (.iload 5, 2) := by decide +kernel
theorem dX2_reach_107 : decode cX2_reach 107 = .ok (.iload_n 1, 1) := by decide +kernel
theorem dX2_reach_108 : decode cX2_reach 108 = .ok (.if_icmp .ne 17, 3) := by decide +kernel
theorem dX2_reach_111 : decode cX2_reach 111 = .ok (.aload_n 0, 1) := by decide +kernel
theorem dX2_reach_112 : decode cX2_reach 112 = .ok (.getfield 10, 3) := by decide +kernel
theorem dX2_reach_115 : decode cX2_reach 115 = .ok (.getfield 40, 3) := by decide +kernel
theorem dX2_reach_118 : decode cX2_reach 118 = .ok (.iload_n 1, 1) := by decide +kernel
theorem dX2_reach_119 : decode cX2_reach 119 = .ok (.invokevirtual 100, 3) := by decide +kernel
theorem dX2_reach_122 : decode cX2_reach 122 = .ok (.goto 4, 3) := by decide +kernel
theorem dX2_reach_125 : decode cX2_reach 125 = .ok (.iconst (-1), 1) := by decide +kernel
theorem dX2_reach_126 : decode cX2_reach 126 = .ok (.iastore, 1) := by decide +kernel
theorem dX2_reach_127 : decode cX2_reach 127 = .ok (.iinc 5 1, 3) := by decide +kernel
theorem dX2_reach_130 : decode cX2_reach 130 = .ok (.goto (-38), 3) := by decide +kernel
theorem dX2_reach_133 : decode cX2_reach 133 = .ok (.iconst 0, 1) := by decide +kernel
theorem dX2_reach_134 : decode cX2_reach 134 = .ok (.istore 5, 2) := by decide +kernel
theorem dX2_reach_136 : decode cX2_reach 136 = .ok (.iload 5, 2) := by decide +kernel
theorem dX2_reach_138 : decode cX2_reach 138 = .ok (.iload_n 2, 1) := by decide +kernel
theorem dX2_reach_139 : decode cX2_reach 139 = .ok (.if_icmp .ge 16, 3) := by decide +kernel
theorem dX2_reach_142 : decode cX2_reach 142 = .ok (.aload_n 0, 1) := by decide +kernel
theorem dX2_reach_143 : decode cX2_reach 143 = .ok (.iload_n 3, 1) := by decide +kernel
theorem dX2_reach_144 : decode cX2_reach 144 = .ok (.iload 4, 2) := by decide +kernel
theorem dX2_reach_146 : decode cX2_reach 146 = .ok (.invokevirtual 176, 3) := by decide +kernel
theorem dX2_reach_149 : decode cX2_reach 149 = .ok (.iinc 5 1, 3) := by decide +kernel
theorem dX2_reach_152 : decode cX2_reach 152 = .ok (.goto (-16), 3) := by decide +kernel
theorem dX2_reach_155 : decode cX2_reach 155 = .ok (.aload_n 0, 1) := by decide +kernel
theorem dX2_reach_156 : decode cX2_reach 156 = .ok (.invokevirtual 179, 3) := by decide +kernel
theorem dX2_reach_159 : decode cX2_reach 159 = .ok (.ireturn, 1) := by decide +kernel
theorem dX2_replies_0 : decode cX2_replies 0 = .ok (.iconst 0, 1) := by decide +kernel
theorem dX2_replies_1 : decode cX2_replies 1 = .ok (.istore_n 1, 1) := by decide +kernel
theorem dX2_replies_2 : decode cX2_replies 2 = .ok (.iconst 0, 1) := by decide +kernel
theorem dX2_replies_3 : decode cX2_replies 3 = .ok (.istore_n 2, 1) := by decide +kernel
theorem dX2_replies_4 : decode cX2_replies 4 = .ok (.iload_n 2, 1) := by decide +kernel
theorem dX2_replies_5 : decode cX2_replies 5 = .ok (.bipush 36, 2) := by decide +kernel
theorem dX2_replies_7 : decode cX2_replies 7 = .ok (.if_icmp .ge 44, 3) := by decide +kernel
theorem dX2_replies_10 : decode cX2_replies 10 = .ok (.iconst 0, 1) := by decide +kernel
theorem dX2_replies_11 : decode cX2_replies 11 = .ok (.istore_n 3, 1) := by decide +kernel
theorem dX2_replies_12 : decode cX2_replies 12 = .ok (.iload_n 3, 1) := by decide +kernel
theorem dX2_replies_13 : decode cX2_replies 13 = .ok (.bipush 36, 2) := by decide +kernel
theorem dX2_replies_15 : decode cX2_replies 15 = .ok (.if_icmp .ge 30, 3) := by decide +kernel
theorem dX2_replies_18 : decode cX2_replies 18 = .ok (.aload_n 0, 1) := by decide +kernel
theorem dX2_replies_19 : decode cX2_replies 19 = .ok (.getfield 10, 3) := by decide +kernel
theorem dX2_replies_22 : decode cX2_replies 22 = .ok (.iload_n 2, 1) := by decide +kernel
theorem dX2_replies_23 : decode cX2_replies 23 = .ok (.iload_n 3, 1) := by decide +kernel
theorem dX2_replies_24 : decode cX2_replies 24 = .ok (.invokevirtual 144, 3) := by decide +kernel
theorem dX2_replies_27 : decode cX2_replies 27 = .ok (.ifCond .ne 12, 3) := by decide +kernel
theorem dX2_replies_30 : decode cX2_replies 30 = .ok (.iload_n 1, 1) := by decide +kernel
theorem dX2_replies_31 : decode cX2_replies 31 = .ok (.aload_n 0, 1) := by decide +kernel
theorem dX2_replies_32 : decode cX2_replies 32 = .ok (.iload_n 2, 1) := by decide +kernel
theorem dX2_replies_33 : decode cX2_replies 33 = .ok (.iload_n 3, 1) := by decide +kernel
theorem dX2_replies_34 : decode cX2_replies 34 = .ok (.invokevirtual 182, 3) := by decide +kernel
theorem dX2_replies_37 : decode cX2_replies 37 = .ok (.iadd, 1) := by decide +kernel
theorem dX2_replies_38 : decode cX2_replies 38 = .ok (.istore_n 1, 1) := by decide +kernel
theorem dX2_replies_39 : decode cX2_replies 39 = .ok (.iinc 3 1, 3) := by decide +kernel
theorem dX2_replies_42 : decode cX2_replies 42 = .ok (.goto (-30), 3) := by decide +kernel
theorem dX2_replies_45 : decode cX2_replies 45 = .ok (.iinc 2 1, 3) := by decide +kernel
theorem dX2_replies_48 : decode cX2_replies 48 = .ok (.goto (-44), 3) := by decide +kernel
theorem dX2_replies_51 : decode cX2_replies 51 = .ok (.iload_n 1, 1) := by decide +kernel
theorem dX2_replies_52 : decode cX2_replies 52 = .ok (.ireturn, 1) := by decide +kernel
theorem dX2_best_0 : decode cX2_best 0 = .ok (.bipush (-4), 2) := by decide +kernel
theorem dX2_best_2 : decode cX2_best 2 = .ok (.istore_n 1, 1) := by decide +kernel
theorem dX2_best_3 : decode cX2_best 3 = .ok (.iconst 0, 1) := by decide +kernel
theorem dX2_best_4 : decode cX2_best 4 = .ok (.istore_n 2, 1) := by decide +kernel
theorem dX2_best_5 : decode cX2_best 5 = .ok (.iconst 0, 1) := by decide +kernel
theorem dX2_best_6 : decode cX2_best 6 = .ok (.istore_n 3, 1) := by decide +kernel
theorem dX2_best_7 : decode cX2_best 7 = .ok (.iload_n 3, 1) := by decide +kernel
theorem dX2_best_8 : decode cX2_best 8 = .ok (.bipush 36, 2) := by decide +kernel
theorem dX2_best_10 : decode cX2_best 10 = .ok (.if_icmp .ge 70, 3) := by decide +kernel
theorem dX2_best_13 : decode cX2_best 13 = .ok (.iconst 0, 1) := by decide +kernel
theorem dX2_best_14 : decode cX2_best 14 = .ok (.istore 4, 2) := by decide +kernel
theorem dX2_best_16 : decode cX2_best 16 = .ok (.iload 4, 2) := by decide +kernel
theorem dX2_best_18 : decode cX2_best 18 = .ok (.bipush 36, 2) := by decide +kernel
theorem dX2_best_20 : decode cX2_best 20 = .ok (.if_icmp .ge 54, 3) := by decide +kernel
theorem dX2_best_23 : decode cX2_best 23 = .ok (.aload_n 0, 1) := by decide +kernel
theorem dX2_best_24 : decode cX2_best 24 = .ok (.getfield 10, 3) := by decide +kernel
theorem dX2_best_27 : decode cX2_best 27 = .ok (.iload_n 3, 1) := by decide +kernel
theorem dX2_best_28 : decode cX2_best 28 = .ok (.iload 4, 2) := by decide +kernel
theorem dX2_best_30 : decode cX2_best 30 = .ok (.invokevirtual 144, 3) := by decide +kernel
theorem dX2_best_33 : decode cX2_best 33 = .ok (.ifCond .ne 35, 3) := by decide +kernel
theorem dX2_best_36 : decode cX2_best 36 = .ok (.aload_n 0, 1) := by decide +kernel
theorem dX2_best_37 : decode cX2_best 37 = .ok (.iload_n 3, 1) := by decide +kernel
theorem dX2_best_38 : decode cX2_best 38 = .ok (.iload 4, 2) := by decide +kernel
theorem dX2_best_40 : decode cX2_best 40 = .ok (.invokevirtual 185, 3) := by decide +kernel
theorem dX2_best_43 : decode cX2_best 43 = .ok (.istore 5, 2) := by decide +kernel
theorem dX2_best_45 : decode cX2_best 45 = .ok (.iload_n 1, 1) := by decide +kernel
theorem dX2_best_46 : decode cX2_best 46 = .ok (.bipush (-4), 2) := by decide +kernel
theorem dX2_best_48 : decode cX2_best 48 = .ok (.if_icmp .eq 9, 3) := by decide +kernel
theorem dX2_best_51 : decode cX2_best 51 = .ok (.iload 5, 2) := by decide +kernel
theorem dX2_best_53 : decode cX2_best 53 = .ok (.iload_n 2, 1) := by decide +kernel
theorem dX2_best_54 : decode cX2_best 54 = .ok (.if_icmp .le 14, 3) := by decide +kernel
theorem dX2_best_57 : decode cX2_best 57 = .ok (.bipush 36, 2) := by decide +kernel
theorem dX2_best_59 : decode cX2_best 59 = .ok (.iload_n 3, 1) := by decide +kernel
theorem dX2_best_60 : decode cX2_best 60 = .ok (.imul, 1) := by decide +kernel
theorem dX2_best_61 : decode cX2_best 61 = .ok (.iload 4, 2) := by decide +kernel
theorem dX2_best_63 : decode cX2_best 63 = .ok (.iadd, 1) := by decide +kernel
theorem dX2_best_64 : decode cX2_best 64 = .ok (.istore_n 1, 1) := by decide +kernel
theorem dX2_best_65 : decode cX2_best 65 = .ok (.iload 5, 2) := by decide +kernel
theorem dX2_best_67 : decode cX2_best 67 = .ok (.istore_n 2, 1) := by decide +kernel
theorem dX2_best_68 : decode cX2_best 68 = .ok (.iinc 4 1, 3) := by decide +kernel
theorem dX2_best_71 : decode cX2_best 71 = .ok (.goto (-55), 3) := by decide +kernel
theorem dX2_best_74 : decode cX2_best 74 = .ok (.iinc 3 1, 3) := by decide +kernel
theorem dX2_best_77 : decode cX2_best 77 = .ok (.goto (-70), 3) := by decide +kernel
theorem dX2_best_80 : decode cX2_best 80 = .ok (.iload_n 1, 1) := by decide +kernel
theorem dX2_best_81 : decode cX2_best 81 = .ok (.ireturn, 1) := by decide +kernel
theorem dX2_type_0 : decode cX2_type 0 = .ok (.iload_n 1, 1) := by decide +kernel
theorem dX2_type_1 : decode cX2_type 1 = .ok (.bipush 32, 2) := by decide +kernel
theorem dX2_type_3 : decode cX2_type 3 = .ok (.if_icmp .lt 9, 3) := by decide +kernel
theorem dX2_type_6 : decode cX2_type 6 = .ok (.iload_n 1, 1) := by decide +kernel
theorem dX2_type_7 : decode cX2_type 7 = .ok (.bipush 126, 2) := by decide +kernel
theorem dX2_type_9 : decode cX2_type 9 = .ok (.if_icmp .le 5, 3) := by decide +kernel
theorem dX2_type_12 : decode cX2_type 12 = .ok (.iconst (-1), 1) := by decide +kernel
theorem dX2_type_13 : decode cX2_type 13 = .ok (.ireturn, 1) := by decide +kernel
theorem dX2_type_14 : decode cX2_type 14 = .ok (.aload_n 0, 1) := by decide +kernel
theorem dX2_type_15 : decode cX2_type 15 = .ok (.getfield 127, 3) := by decide +kernel
theorem dX2_type_18 : decode cX2_type 18 = .ok (.ifCond .lt 15, 3) := by decide +kernel
theorem dX2_type_21 : decode cX2_type 21 = .ok (.aload_n 0, 1) := by decide +kernel
theorem dX2_type_22 : decode cX2_type 22 = .ok (.getfield 127, 3) := by decide +kernel
theorem dX2_type_25 : decode cX2_type 25 = .ok (.aload_n 0, 1) := by decide +kernel
theorem dX2_type_26 : decode cX2_type 26 = .ok (.getfield 23, 3) := by decide +kernel
theorem dX2_type_29 : decode cX2_type 29 = .ok (.arraylength, 1) := by decide +kernel
theorem dX2_type_30 : decode cX2_type 30 = .ok (.if_icmp .lt 6, 3) := by decide +kernel
theorem dX2_type_33 : decode cX2_type 33 = .ok (.bipush (-3), 2) := by decide +kernel
theorem dX2_type_35 : decode cX2_type 35 = .ok (.ireturn, 1) := by decide +kernel
theorem dX2_type_36 : decode cX2_type 36 = .ok (.aload_n 0, 1) := by decide +kernel
theorem dX2_type_37 : decode cX2_type 37 = .ok (.getfield 23, 3) := by decide +kernel
theorem dX2_type_40 : decode cX2_type 40 = .ok (.aload_n 0, 1) := by decide +kernel
theorem dX2_type_41 : decode cX2_type 41 = .ok (.getfield 127, 3) := by decide +kernel
theorem dX2_type_44 : decode cX2_type 44 = .ok (.iload_n 1, 1) := by decide +kernel
theorem dX2_type_45 : decode cX2_type 45 = .ok (.i2c, 1) := by decide +kernel
theorem dX2_type_46 : decode cX2_type 46 = .ok (.castore, 1) := by decide +kernel
theorem dX2_type_47 : decode cX2_type 47 = .ok (.aload_n 0, 1) := by decide +kernel
theorem dX2_type_48 : decode cX2_type 48 = .ok (.dup, 1) := by decide +kernel
theorem dX2_type_49 : decode cX2_type 49 = .ok (.getfield 127, 3) := by decide +kernel
theorem dX2_type_52 : decode cX2_type 52 = .ok (.iconst 1, 1) := by decide +kernel
theorem dX2_type_53 : decode cX2_type 53 = .ok (.iadd, 1) := by decide +kernel
theorem dX2_type_54 : decode cX2_type 54 = .ok (.putfield 127, 3) := by decide +kernel
theorem dX2_type_57 : decode cX2_type 57 = .ok (.aload_n 0, 1) := by decide +kernel
theorem dX2_type_58 : decode cX2_type 58 = .ok (.getfield 127, 3) := by decide +kernel
theorem dX2_type_61 : decode cX2_type 61 = .ok (.ireturn, 1) := by decide +kernel
theorem dX2_clearText_0 : decode cX2_clearText 0 = .ok (.aload_n 0, 1) := by decide +kernel
theorem dX2_clearText_1 : decode cX2_clearText 1 = .ok (.getfield 127, 3) := by decide +kernel
theorem dX2_clearText_4 : decode cX2_clearText 4 = .ok (.istore_n 1, 1) := by decide +kernel
theorem dX2_clearText_5 : decode cX2_clearText 5 = .ok (.aload_n 0, 1) := by decide +kernel
theorem dX2_clearText_6 : decode cX2_clearText 6 = .ok (.iconst 0, 1) := by decide +kernel
theorem dX2_clearText_7 : decode cX2_clearText 7 = .ok (.putfield 127, 3) := by decide +kernel
theorem dX2_clearText_10 : decode cX2_clearText 10 = .ok (.iload_n 1, 1) := by decide +kernel
theorem dX2_clearText_11 : decode cX2_clearText 11 = .ok (.ireturn, 1) := by decide +kernel
theorem dX2_fault_0 : decode cX2_fault 0 = .ok (.iload_n 1, 1) := by decide +kernel
theorem dX2_fault_1 : decode cX2_fault 1 = .ok (.ifCond .eq 10, 3) := by decide +kernel
theorem dX2_fault_4 : decode cX2_fault 4 = .ok (.iload_n 1, 1) := by decide +kernel
theorem dX2_fault_5 : decode cX2_fault 5 = .ok (.iconst 1, 1) := by decide +kernel
theorem dX2_fault_6 : decode cX2_fault 6 = .ok (.if_icmp .eq 5, 3) := by decide +kernel
theorem dX2_fault_9 : decode cX2_fault 9 = .ok (.iconst (-1), 1) := by decide +kernel
theorem dX2_fault_10 : decode cX2_fault 10 = .ok (.ireturn, 1) := by decide +kernel
theorem dX2_fault_11 : decode cX2_fault 11 = .ok (.aload_n 0, 1) := by decide +kernel
theorem dX2_fault_12 : decode cX2_fault 12 = .ok (.invokevirtual 188, 3) := by decide +kernel
theorem dX2_fault_15 : decode cX2_fault 15 = .ok (.istore_n 2, 1) := by decide +kernel
theorem dX2_fault_16 : decode cX2_fault 16 = .ok (.iload_n 2, 1) := by decide +kernel
theorem dX2_fault_17 : decode cX2_fault 17 = .ok (.iconst (-1), 1) := by decide +kernel
theorem dX2_fault_18 : decode cX2_fault 18 = .ok (.if_icmp .ne 6, 3) := by decide +kernel
theorem dX2_fault_21 : decode cX2_fault 21 = .ok (.bipush (-4), 2) := by decide +kernel
theorem dX2_fault_23 : decode cX2_fault 23 = .ok (.ireturn, 1) := by decide +kernel
theorem dX2_fault_24 : decode cX2_fault 24 = .ok (.iload_n 1, 1) := by decide +kernel
theorem dX2_fault_25 : decode cX2_fault 25 = .ok (.ifCond .ne 10, 3) := by decide +kernel
theorem dX2_fault_28 : decode cX2_fault 28 = .ok (.iload_n 2, 1) := by decide +kernel
theorem dX2_fault_29 : decode cX2_fault 29 = .ok (.bipush 16, 2) := by decide +kernel
theorem dX2_fault_31 : decode cX2_fault 31 = .ok (.idiv, 1) := by decide +kernel
theorem dX2_fault_32 : decode cX2_fault 32 = .ok (.goto 7, 3) := by decide +kernel
theorem dX2_fault_35 : decode cX2_fault 35 = .ok (.iload_n 2, 1) := by decide +kernel
theorem dX2_fault_36 : decode cX2_fault 36 = .ok (.bipush 16, 2) := by decide +kernel
theorem dX2_fault_38 : decode cX2_fault 38 = .ok (.irem, 1) := by decide +kernel
theorem dX2_fault_39 : decode cX2_fault 39 = .ok (.ireturn, 1) := by decide +kernel
theorem dX2_play_0 : decode cX2_play 0 = .ok (.aload_n 0, 1) := by decide +kernel
theorem dX2_play_1 : decode cX2_play 1 = .ok (.invokevirtual 188, 3) := by decide +kernel
theorem dX2_play_4 : decode cX2_play 4 = .ok (.iconst (-1), 1) := by decide +kernel
theorem dX2_play_5 : decode cX2_play 5 = .ok (.if_icmp .eq 6, 3) := by decide +kernel
theorem dX2_play_8 : decode cX2_play 8 = .ok (.bipush (-2), 2) := by decide +kernel
theorem dX2_play_10 : decode cX2_play 10 = .ok (.ireturn, 1) := by decide +kernel
theorem dX2_play_11 : decode cX2_play 11 = .ok (.aload_n 0, 1) := by decide +kernel
theorem dX2_play_12 : decode cX2_play 12 = .ok (.invokevirtual 37, 3) := by decide +kernel
theorem dX2_play_15 : decode cX2_play 15 = .ok (.aload_n 0, 1) := by decide +kernel
theorem dX2_play_16 : decode cX2_play 16 = .ok (.getfield 10, 3) := by decide +kernel
theorem dX2_play_19 : decode cX2_play 19 = .ok (.aload_n 0, 1) := by decide +kernel
theorem dX2_play_20 : decode cX2_play 20 = .ok (.getfield 16, 3) := by decide +kernel
theorem dX2_play_23 : decode cX2_play 23 = .ok (.invokevirtual 140, 3) := by decide +kernel
theorem dX2_play_26 : decode cX2_play 26 = .ok (.aload_n 0, 1) := by decide +kernel
theorem dX2_play_27 : decode cX2_play 27 = .ok (.invokevirtual 191, 3) := by decide +kernel
theorem dX2_play_30 : decode cX2_play 30 = .ok (.ireturn, 1) := by decide +kernel
theorem dX2_isCell_0 : decode cX2_isCell 0 = .ok (.iload_n 0, 1) := by decide +kernel
theorem dX2_isCell_1 : decode cX2_isCell 1 = .ok (.ifCond .lt 13, 3) := by decide +kernel
theorem dX2_isCell_4 : decode cX2_isCell 4 = .ok (.iload_n 0, 1) := by decide +kernel
theorem dX2_isCell_5 : decode cX2_isCell 5 = .ok (.bipush 36, 2) := by decide +kernel
theorem dX2_isCell_7 : decode cX2_isCell 7 = .ok (.if_icmp .ge 7, 3) := by decide +kernel
theorem dX2_isCell_10 : decode cX2_isCell 10 = .ok (.iconst 1, 1) := by decide +kernel
theorem dX2_isCell_11 : decode cX2_isCell 11 = .ok (.goto 4, 3) := by decide +kernel
theorem dX2_isCell_14 : decode cX2_isCell 14 = .ok (.iconst 0, 1) := by decide +kernel
theorem dX2_isCell_15 : decode cX2_isCell 15 = .ok (.ireturn, 1) := by decide +kernel
theorem dX2_isSide_0 : decode cX2_isSide 0 = .ok (.iload_n 0, 1) := by decide +kernel
theorem dX2_isSide_1 : decode cX2_isSide 1 = .ok (.ifCond .eq 8, 3) := by decide +kernel
theorem dX2_isSide_4 : decode cX2_isSide 4 = .ok (.iload_n 0, 1) := by decide +kernel
theorem dX2_isSide_5 : decode cX2_isSide 5 = .ok (.iconst 1, 1) := by decide +kernel
theorem dX2_isSide_6 : decode cX2_isSide 6 = .ok (.if_icmp .ne 7, 3) := by decide +kernel
theorem dX2_isSide_9 : decode cX2_isSide 9 = .ok (.iconst 1, 1) := by decide +kernel
theorem dX2_isSide_10 : decode cX2_isSide 10 = .ok (.goto 4, 3) := by decide +kernel
theorem dX2_isSide_13 : decode cX2_isSide 13 = .ok (.iconst 0, 1) := by decide +kernel
theorem dX2_isSide_14 : decode cX2_isSide 14 = .ok (.ireturn, 1) := by decide +kernel
theorem dX2_isAccount_0 : decode cX2_isAccount 0 = .ok (.iload_n 0, 1) := by decide +kernel
theorem dX2_isAccount_1 : decode cX2_isAccount 1 = .ok (.ifCond .lt 13, 3) := by decide +kernel
theorem dX2_isAccount_4 : decode cX2_isAccount 4 = .ok (.iload_n 0, 1) := by decide +kernel
theorem dX2_isAccount_5 : decode cX2_isAccount 5 = .ok (.bipush 6, 2) := by decide +kernel
theorem dX2_isAccount_7 : decode cX2_isAccount 7 = .ok (.if_icmp .gt 7, 3) := by decide +kernel
theorem dX2_isAccount_10 : decode cX2_isAccount 10 = .ok (.iconst 1, 1) := by decide +kernel
theorem dX2_isAccount_11 : decode cX2_isAccount 11 = .ok (.goto 4, 3) := by decide +kernel
theorem dX2_isAccount_14 : decode cX2_isAccount 14 = .ok (.iconst 0, 1) := by decide +kernel
theorem dX2_isAccount_15 : decode cX2_isAccount 15 = .ok (.ireturn, 1) := by decide +kernel
theorem dX2_isSetting_0 : decode cX2_isSetting 0 = .ok (.iload_n 0, 1) := by decide +kernel
theorem dX2_isSetting_1 : decode cX2_isSetting 1 = .ok (.ifCond .ne 20, 3) := by decide +kernel
theorem dX2_isSetting_4 : decode cX2_isSetting 4 = .ok (.iload_n 1, 1) := by decide +kernel
theorem dX2_isSetting_5 : decode cX2_isSetting 5 = .ok (.iconst 1, 1) := by decide +kernel
theorem dX2_isSetting_6 : decode cX2_isSetting 6 = .ok (.if_icmp .lt 13, 3) := by decide +kernel
theorem dX2_isSetting_9 : decode cX2_isSetting 9 = .ok (.iload_n 1, 1) := by decide +kernel
theorem dX2_isSetting_10 : decode cX2_isSetting 10 = .ok (.bipush 12, 2) := by decide +kernel
theorem dX2_isSetting_12 : decode cX2_isSetting 12 = .ok (.if_icmp .gt 7, 3) := by decide +kernel
theorem dX2_isSetting_15 : decode cX2_isSetting 15 = .ok (.iconst 1, 1) := by decide +kernel
theorem dX2_isSetting_16 : decode cX2_isSetting 16 = .ok (.goto 4, 3) := by decide +kernel
theorem dX2_isSetting_19 : decode cX2_isSetting 19 = .ok (.iconst 0, 1) := by decide +kernel
theorem dX2_isSetting_20 : decode cX2_isSetting 20 = .ok (.ireturn, 1) := by decide +kernel
theorem dX2_isSetting_21 : decode cX2_isSetting 21 = .ok (.iload_n 0, 1) := by decide +kernel
theorem dX2_isSetting_22 : decode cX2_isSetting 22 = .ok (.iconst 1, 1) := by decide +kernel
theorem dX2_isSetting_23 : decode cX2_isSetting 23 = .ok (.if_icmp .eq 8, 3) := by decide +kernel
theorem dX2_isSetting_26 : decode cX2_isSetting 26 = .ok (.iload_n 0, 1) := by decide +kernel
theorem dX2_isSetting_27 : decode cX2_isSetting 27 = .ok (.iconst 2, 1) := by decide +kernel
theorem dX2_isSetting_28 : decode cX2_isSetting 28 = .ok (.if_icmp .ne 16, 3) := by decide +kernel
theorem dX2_isSetting_31 : decode cX2_isSetting 31 = .ok (.iload_n 1, 1) := by decide +kernel
theorem dX2_isSetting_32 : decode cX2_isSetting 32 = .ok (.ifCond .lt 12, 3) := by decide +kernel
theorem dX2_isSetting_35 : decode cX2_isSetting 35 = .ok (.iload_n 1, 1) := by decide +kernel
theorem dX2_isSetting_36 : decode cX2_isSetting 36 = .ok (.iconst 5, 1) := by decide +kernel
theorem dX2_isSetting_37 : decode cX2_isSetting 37 = .ok (.if_icmp .gt 7, 3) := by decide +kernel
theorem dX2_isSetting_40 : decode cX2_isSetting 40 = .ok (.iconst 1, 1) := by decide +kernel
theorem dX2_isSetting_41 : decode cX2_isSetting 41 = .ok (.goto 4, 3) := by decide +kernel
theorem dX2_isSetting_44 : decode cX2_isSetting 44 = .ok (.iconst 0, 1) := by decide +kernel
theorem dX2_isSetting_45 : decode cX2_isSetting 45 = .ok (.ireturn, 1) := by decide +kernel
theorem dX2_record_0 : decode cX2_record 0 = .ok (.aload_n 0, 1) := by decide +kernel
theorem dX2_record_1 : decode cX2_record 1 = .ok (.getfield 124, 3) := by decide +kernel
theorem dX2_record_4 : decode cX2_record 4 = .ok (.aload_n 0, 1) := by decide +kernel
theorem dX2_record_5 : decode cX2_record 5 = .ok (.getfield 19, 3) := by decide +kernel
theorem dX2_record_8 : decode cX2_record 8 = .ok (.arraylength, 1) := by decide +kernel
theorem dX2_record_9 : decode cX2_record 9 = .ok (.if_icmp .lt 65, 3) := by decide +kernel
theorem dX2_record_12 : decode cX2_record 12 = .ok (.aload_n 0, 1) := by decide +kernel
theorem dX2_record_13 : decode cX2_record 13 = .ok (.getfield 19, 3) := by decide +kernel
theorem dX2_record_16 : decode cX2_record 16 = .ok (.iconst 0, 1) := by decide +kernel
theorem dX2_record_17 : decode cX2_record 17 = .ok (.aaload, 1) := by decide +kernel
theorem dX2_record_18 : decode cX2_record 18 = .ok (.astore_n 1, 1) := by decide +kernel
theorem dX2_record_19 : decode cX2_record 19 = .ok (.iconst 1, 1) := by decide +kernel
theorem dX2_record_20 : decode cX2_record 20 = .ok (.istore_n 2, 1) := by decide +kernel
theorem dX2_record_21 : decode cX2_record 21 = .ok (.iload_n 2, 1) := by decide +kernel
theorem dX2_record_22 : decode cX2_record 22 = .ok (.aload_n 0, 1) := by decide +kernel
theorem dX2_record_23 : decode cX2_record 23 = .ok (.getfield 19, 3) := by decide +kernel
theorem dX2_record_26 : decode cX2_record 26 = .ok (.arraylength, 1) := by decide +kernel
theorem dX2_record_27 : decode cX2_record 27 = .ok (.if_icmp .ge 23, 3) := by decide +kernel
theorem dX2_record_30 : decode cX2_record 30 = .ok (.aload_n 0, 1) := by decide +kernel
theorem dX2_record_31 : decode cX2_record 31 = .ok (.getfield 19, 3) := by decide +kernel
theorem dX2_record_34 : decode cX2_record 34 = .ok (.iload_n 2, 1) := by decide +kernel
theorem dX2_record_35 : decode cX2_record 35 = .ok (.iconst 1, 1) := by decide +kernel
theorem dX2_record_36 : decode cX2_record 36 = .ok (.isub, 1) := by decide +kernel
theorem dX2_record_37 : decode cX2_record 37 = .ok (.aload_n 0, 1) := by decide +kernel
theorem dX2_record_38 : decode cX2_record 38 = .ok (.getfield 19, 3) := by decide +kernel
theorem dX2_record_41 : decode cX2_record 41 = .ok (.iload_n 2, 1) := by decide +kernel
theorem dX2_record_42 : decode cX2_record 42 = .ok (.aaload, 1) := by decide +kernel
theorem dX2_record_43 : decode cX2_record 43 = .ok (.aastore, 1) := by decide +kernel
theorem dX2_record_44 : decode cX2_record 44 = .ok (.iinc 2 1, 3) := by decide +kernel
theorem dX2_record_47 : decode cX2_record 47 = .ok (.goto (-26), 3) := by decide +kernel
theorem dX2_record_50 : decode cX2_record 50 = .ok (.aload_n 0, 1) := by decide +kernel
theorem dX2_record_51 : decode cX2_record 51 = .ok (.getfield 19, 3) := by decide +kernel
theorem dX2_record_54 : decode cX2_record 54 = .ok (.aload_n 0, 1) := by decide +kernel
theorem dX2_record_55 : decode cX2_record 55 = .ok (.getfield 19, 3) := by decide +kernel
theorem dX2_record_58 : decode cX2_record 58 = .ok (.arraylength, 1) := by decide +kernel
theorem dX2_record_59 : decode cX2_record 59 = .ok (.iconst 1, 1) := by decide +kernel
theorem dX2_record_60 : decode cX2_record 60 = .ok (.isub, 1) := by decide +kernel
theorem dX2_record_61 : decode cX2_record 61 = .ok (.aload_n 1, 1) := by decide +kernel
theorem dX2_record_62 : decode cX2_record 62 = .ok (.aastore, 1) := by decide +kernel
theorem dX2_record_63 : decode cX2_record 63 = .ok (.aload_n 0, 1) := by decide +kernel
theorem dX2_record_64 : decode cX2_record 64 = .ok (.aload_n 0, 1) := by decide +kernel
theorem dX2_record_65 : decode cX2_record 65 = .ok (.getfield 19, 3) := by decide +kernel
theorem dX2_record_68 : decode cX2_record 68 = .ok (.arraylength, 1) := by decide +kernel
theorem dX2_record_69 : decode cX2_record 69 = .ok (.iconst 1, 1) := by decide +kernel
theorem dX2_record_70 : decode cX2_record 70 = .ok (.isub, 1) := by decide +kernel
theorem dX2_record_71 : decode cX2_record 71 = .ok (.putfield 124, 3) := by decide +kernel
theorem dX2_record_74 : decode cX2_record 74 = .ok (.aload_n 0, 1) := by decide +kernel
theorem dX2_record_75 : decode cX2_record 75 = .ok (.aload_n 0, 1) := by decide +kernel
theorem dX2_record_76 : decode cX2_record 76 = .ok (.getfield 124, 3) := by decide +kernel
theorem dX2_record_79 : decode cX2_record 79 = .ok (.invokevirtual 136, 3) := by decide +kernel
theorem dX2_record_82 : decode cX2_record 82 = .ok (.astore_n 1, 1) := by decide +kernel
theorem dX2_record_83 : decode cX2_record 83 = .ok (.aload_n 1, 1) := by decide +kernel
theorem dX2_record_84 : decode cX2_record 84 = .ok (.ifnull 21, 3) := by decide +kernel
theorem dX2_record_87 : decode cX2_record 87 = .ok (.aload_n 1, 1) := by decide +kernel
theorem dX2_record_88 : decode cX2_record 88 = .ok (.aload_n 0, 1) := by decide +kernel
theorem dX2_record_89 : decode cX2_record 89 = .ok (.getfield 10, 3) := by decide +kernel
theorem dX2_record_92 : decode cX2_record 92 = .ok (.invokevirtual 140, 3) := by decide +kernel
theorem dX2_record_95 : decode cX2_record 95 = .ok (.aload_n 0, 1) := by decide +kernel
theorem dX2_record_96 : decode cX2_record 96 = .ok (.dup, 1) := by decide +kernel
theorem dX2_record_97 : decode cX2_record 97 = .ok (.getfield 124, 3) := by decide +kernel
theorem dX2_record_100 : decode cX2_record 100 = .ok (.iconst 1, 1) := by decide +kernel
theorem dX2_record_101 : decode cX2_record 101 = .ok (.iadd, 1) := by decide +kernel
theorem dX2_record_102 : decode cX2_record 102 = .ok (.putfield 124, 3) := by decide +kernel
theorem dX2_record_105 : decode cX2_record 105 = .ok (.return_, 1) := by decide +kernel
theorem dX2_stateAt_0 : decode cX2_stateAt 0 = .ok (.iload_n 1, 1) := by decide +kernel
theorem dX2_stateAt_1 : decode cX2_stateAt 1 = .ok (.ifCond .lt 21, 3) := by decide +kernel
theorem dX2_stateAt_4 : decode cX2_stateAt 4 = .ok (.iload_n 1, 1) := by decide +kernel
theorem dX2_stateAt_5 : decode cX2_stateAt 5 = .ok (.aload_n 0, 1) := by decide +kernel
theorem dX2_stateAt_6 : decode cX2_stateAt 6 = .ok (.getfield 19, 3) := by decide +kernel
theorem dX2_stateAt_9 : decode cX2_stateAt 9 = .ok (.arraylength, 1) := by decide +kernel
theorem dX2_stateAt_10 : decode cX2_stateAt 10 = .ok (.if_icmp .ge 12, 3) := by decide +kernel
theorem dX2_stateAt_13 : decode cX2_stateAt 13 = .ok (.aload_n 0, 1) := by decide +kernel
theorem dX2_stateAt_14 : decode cX2_stateAt 14 = .ok (.getfield 19, 3) := by decide +kernel
theorem dX2_stateAt_17 : decode cX2_stateAt 17 = .ok (.iload_n 1, 1) := by decide +kernel
theorem dX2_stateAt_18 : decode cX2_stateAt 18 = .ok (.aaload, 1) := by decide +kernel
theorem dX2_stateAt_19 : decode cX2_stateAt 19 = .ok (.goto 4, 3) := by decide +kernel
theorem dX2_stateAt_22 : decode cX2_stateAt 22 = .ok (.aconst_null, 1) := by decide +kernel
theorem dX2_stateAt_23 : decode cX2_stateAt 23 = .ok (.areturn, 1) := by decide +kernel
theorem dX2_makeReachWider_0 : decode cX2_makeReachWider 0 = .ok (.aload_n 0, 1) := by decide +kernel
theorem dX2_makeReachWider_1 : decode cX2_makeReachWider 1 = .ok (.getfield 16, 3) := by decide +kernel
theorem dX2_makeReachWider_4 : decode cX2_makeReachWider 4 = .ok (.getfield 40, 3) := by decide +kernel
theorem dX2_makeReachWider_7 : decode cX2_makeReachWider 7 = .ok (.astore_n 3, 1) := by decide +kernel
theorem dX2_makeReachWider_8 : decode cX2_makeReachWider 8 = .ok (.aload_n 0, 1) := by decide +kernel
theorem dX2_makeReachWider_9 : decode cX2_makeReachWider 9 = .ok (.getfield 27, 3) := by decide +kernel
theorem dX2_makeReachWider_12 : decode cX2_makeReachWider 12 = .ok (.iconst 0, 1) := by decide +kernel
theorem dX2_makeReachWider_13 : decode cX2_makeReachWider 13 = .ok (.aload_n 0, 1) := by decide +kernel
theorem dX2_makeReachWider_14 : decode cX2_makeReachWider 14 = .ok (.getfield 31, 3) := by decide +kernel
theorem dX2_makeReachWider_17 : decode cX2_makeReachWider 17 = .ok (.iconst 0, 1) := by decide +kernel
theorem dX2_makeReachWider_18 : decode cX2_makeReachWider 18 = .ok (.bipush 36, 2) := by decide +kernel
theorem dX2_makeReachWider_20 : decode cX2_makeReachWider 20 = .ok (.invokestatic 194, 3) := by decide +kernel
theorem dX2_makeReachWider_23 : decode cX2_makeReachWider 23 = .ok (.iconst 0, 1) := by decide +kernel
theorem dX2_makeReachWider_24 : decode cX2_makeReachWider 24 = .ok (.istore 4, 2) := by decide +kernel
theorem dX2_makeReachWider_26 : decode cX2_makeReachWider 26 = .ok (.iload 4, 2) := by decide +kernel
theorem dX2_makeReachWider_28 : decode cX2_makeReachWider 28 = .ok (.bipush 36, 2) := by decide +kernel
theorem dX2_makeReachWider_30 : decode cX2_makeReachWider 30 = .ok (.if_icmp .ge 46, 3) := by decide +kernel
theorem dX2_makeReachWider_33 : decode cX2_makeReachWider 33 = .ok (.aload_n 0, 1) := by decide +kernel
theorem dX2_makeReachWider_34 : decode cX2_makeReachWider 34 = .ok (.getfield 27, 3) := by decide +kernel
theorem dX2_makeReachWider_37 : decode cX2_makeReachWider 37 = .ok (.iload 4, 2) := by decide +kernel
theorem dX2_makeReachWider_39 : decode cX2_makeReachWider 39 = .ok (.iaload, 1) := by decide +kernel
theorem dX2_makeReachWider_40 : decode cX2_makeReachWider 40 = .ok (.ifCond .le 30, 3) := by decide +kernel
theorem dX2_makeReachWider_43 : decode cX2_makeReachWider 43 = .ok (.aload_n 3, 1) := by decide +kernel
theorem dX2_makeReachWider_44 : decode cX2_makeReachWider 44 = .ok (.iload 4, 2) := by decide +kernel
theorem dX2_makeReachWider_46 : decode cX2_makeReachWider 46 = .ok (.iload_n 1, 1) := by decide +kernel
theorem dX2_makeReachWider_47 : decode cX2_makeReachWider 47 = .ok (.iload_n 2, 1) := by decide +kernel
theorem dX2_makeReachWider_48 : decode cX2_makeReachWider 48 = .ok (.aload_n 0, 1) := by decide +kernel
theorem dX2_makeReachWider_49 : decode cX2_makeReachWider 49 = .ok (.getfield 27, 3) := by decide +kernel
theorem dX2_makeReachWider_52 : decode cX2_makeReachWider 52 = .ok (.iload 4, 2) := by decide +kernel
theorem dX2_makeReachWider_54 : decode cX2_makeReachWider 54 = .ok (.iaload, 1) := by decide +kernel
theorem dX2_makeReachWider_55 : decode cX2_makeReachWider 55 = .ok (.invokevirtual 169, 3) := by decide +kernel
theorem dX2_makeReachWider_58 : decode cX2_makeReachWider 58 = .ok (.aload_n 0, 1) := by decide +kernel
theorem dX2_makeReachWider_59 : decode cX2_makeReachWider 59 = .ok (.iload 4, 2) := by decide +kernel
theorem dX2_makeReachWider_61 : decode cX2_makeReachWider 61 = .ok (.invokevirtual 200, 3) := by decide +kernel
theorem dX2_makeReachWider_64 : decode cX2_makeReachWider 64 = .ok (.aload_n 3, 1) := by decide +kernel
theorem dX2_makeReachWider_65 : decode cX2_makeReachWider 65 = .ok (.iload 4, 2) := by decide +kernel
theorem dX2_makeReachWider_67 : decode cX2_makeReachWider 67 = .ok (.invokevirtual 172, 3) := by decide +kernel
theorem dX2_makeReachWider_70 : decode cX2_makeReachWider 70 = .ok (.iinc 4 1, 3) := by decide +kernel
theorem dX2_makeReachWider_73 : decode cX2_makeReachWider 73 = .ok (.goto (-47), 3) := by decide +kernel
theorem dX2_makeReachWider_76 : decode cX2_makeReachWider 76 = .ok (.aload_n 0, 1) := by decide +kernel
theorem dX2_makeReachWider_77 : decode cX2_makeReachWider 77 = .ok (.getfield 27, 3) := by decide +kernel
theorem dX2_makeReachWider_80 : decode cX2_makeReachWider 80 = .ok (.astore 4, 2) := by decide +kernel
theorem dX2_makeReachWider_82 : decode cX2_makeReachWider 82 = .ok (.aload_n 0, 1) := by decide +kernel
theorem dX2_makeReachWider_83 : decode cX2_makeReachWider 83 = .ok (.aload_n 0, 1) := by decide +kernel
theorem dX2_makeReachWider_84 : decode cX2_makeReachWider 84 = .ok (.getfield 31, 3) := by decide +kernel
theorem dX2_makeReachWider_87 : decode cX2_makeReachWider 87 = .ok (.putfield 27, 3) := by decide +kernel
theorem dX2_makeReachWider_90 : decode cX2_makeReachWider 90 = .ok (.aload_n 0, 1) := by decide +kernel
theorem dX2_makeReachWider_91 : decode cX2_makeReachWider 91 = .ok (.aload 4, 2) := by decide +kernel
theorem dX2_makeReachWider_93 : decode cX2_makeReachWider 93 = .ok (.putfield 31, 3) := by decide +kernel
theorem dX2_makeReachWider_96 : decode cX2_makeReachWider 96 = .ok (.return_, 1) := by decide +kernel
theorem dX2_leaveFrom_0 : decode cX2_leaveFrom 0 = .ok (.aload_n 0, 1) := by decide +kernel
theorem dX2_leaveFrom_1 : decode cX2_leaveFrom 1 = .ok (.getfield 16, 3) := by decide +kernel
theorem dX2_leaveFrom_4 : decode cX2_leaveFrom 4 = .ok (.getfield 40, 3) := by decide +kernel
theorem dX2_leaveFrom_7 : decode cX2_leaveFrom 7 = .ok (.astore_n 2, 1) := by decide +kernel
theorem dX2_leaveFrom_8 : decode cX2_leaveFrom 8 = .ok (.iconst 0, 1) := by decide +kernel
theorem dX2_leaveFrom_9 : decode cX2_leaveFrom 9 = .ok (.istore_n 3, 1) := by decide +kernel
theorem dX2_leaveFrom_10 : decode cX2_leaveFrom 10 = .ok (.iload_n 3, 1) := by decide +kernel
theorem dX2_leaveFrom_11 : decode cX2_leaveFrom 11 = .ok (.bipush 36, 2) := by decide +kernel
theorem dX2_leaveFrom_13 : decode cX2_leaveFrom 13 = .ok (.if_icmp .ge 57, 3) := by decide +kernel
theorem dX2_leaveFrom_16 : decode cX2_leaveFrom 16 = .ok (.aload_n 2, 1) := by decide +kernel
theorem dX2_leaveFrom_17 : decode cX2_leaveFrom 17 = .ok (.iload_n 3, 1) := by decide +kernel
theorem dX2_leaveFrom_18 : decode cX2_leaveFrom 18 = .ok (.invokevirtual 77, 3) := by decide +kernel
theorem dX2_leaveFrom_21 : decode cX2_leaveFrom 21 = .ok (.ifCond .ne 43, 3) := by decide +kernel
theorem dX2_leaveFrom_24 : decode cX2_leaveFrom 24 = .ok (.aload_n 2, 1) := by decide +kernel
theorem dX2_leaveFrom_25 : decode cX2_leaveFrom 25 = .ok (.iload_n 1, 1) := by decide +kernel
theorem dX2_leaveFrom_26 : decode cX2_leaveFrom 26 = .ok (.iload_n 3, 1) := by decide +kernel
theorem dX2_leaveFrom_27 : decode cX2_leaveFrom 27 = .ok (.invokevirtual 163, 3) := by decide +kernel
theorem dX2_leaveFrom_30 : decode cX2_leaveFrom 30 = .ok (.ifCond .eq 34, 3) := by decide +kernel
theorem dX2_leaveFrom_33 : decode cX2_leaveFrom 33 = .ok (.aload_n 2, 1) := by decide +kernel
theorem dX2_leaveFrom_34 : decode cX2_leaveFrom 34 = .ok (.iload_n 1, 1) := by decide +kernel
theorem dX2_leaveFrom_35 : decode cX2_leaveFrom 35 = .ok (.invokevirtual 100, 3) := by decide +kernel
theorem dX2_leaveFrom_38 : decode cX2_leaveFrom 38 = .ok (.aload_n 2, 1) := by decide +kernel
theorem dX2_leaveFrom_39 : decode cX2_leaveFrom 39 = .ok (.iload_n 1, 1) := by decide +kernel
theorem dX2_leaveFrom_40 : decode cX2_leaveFrom 40 = .ok (.iload_n 3, 1) := by decide +kernel
theorem dX2_leaveFrom_41 : decode cX2_leaveFrom 41 = .ok (.invokevirtual 157, 3) := by decide +kernel
theorem dX2_leaveFrom_44 : decode cX2_leaveFrom 44 = .ok (.isub, 1) := by decide +kernel
theorem dX2_leaveFrom_45 : decode cX2_leaveFrom 45 = .ok (.istore 4, 2) := by decide +kernel
theorem dX2_leaveFrom_47 : decode cX2_leaveFrom 47 = .ok (.aload_n 0, 1) := by decide +kernel
theorem dX2_leaveFrom_48 : decode cX2_leaveFrom 48 = .ok (.getfield 31, 3) := by decide +kernel
theorem dX2_leaveFrom_51 : decode cX2_leaveFrom 51 = .ok (.iload_n 3, 1) := by decide +kernel
theorem dX2_leaveFrom_52 : decode cX2_leaveFrom 52 = .ok (.aload_n 0, 1) := by decide +kernel
theorem dX2_leaveFrom_53 : decode cX2_leaveFrom 53 = .ok (.getfield 31, 3) := by decide +kernel
theorem dX2_leaveFrom_56 : decode cX2_leaveFrom 56 = .ok (.iload_n 3, 1) := by decide +kernel
theorem dX2_leaveFrom_57 : decode cX2_leaveFrom 57 = .ok (.iaload, 1) := by decide +kernel
theorem dX2_leaveFrom_58 : decode cX2_leaveFrom 58 = .ok (.iload 4, 2) := by decide +kernel
theorem dX2_leaveFrom_60 : decode cX2_leaveFrom 60 = .ok (.invokestatic 203, 3) := by decide +kernel
theorem dX2_leaveFrom_63 : decode cX2_leaveFrom 63 = .ok (.iastore, 1) := by decide +kernel
theorem dX2_leaveFrom_64 : decode cX2_leaveFrom 64 = .ok (.iinc 3 1, 3) := by decide +kernel
theorem dX2_leaveFrom_67 : decode cX2_leaveFrom 67 = .ok (.goto (-57), 3) := by decide +kernel
theorem dX2_leaveFrom_70 : decode cX2_leaveFrom 70 = .ok (.return_, 1) := by decide +kernel
theorem dX2_cellsReached_0 : decode cX2_cellsReached 0 = .ok (.iconst 0, 1) := by decide +kernel
theorem dX2_cellsReached_1 : decode cX2_cellsReached 1 = .ok (.istore_n 1, 1) := by decide +kernel
theorem dX2_cellsReached_2 : decode cX2_cellsReached 2 = .ok (.iconst 0, 1) := by decide +kernel
theorem dX2_cellsReached_3 : decode cX2_cellsReached 3 = .ok (.istore_n 2, 1) := by decide +kernel
theorem dX2_cellsReached_4 : decode cX2_cellsReached 4 = .ok (.iload_n 2, 1) := by decide +kernel
theorem dX2_cellsReached_5 : decode cX2_cellsReached 5 = .ok (.bipush 36, 2) := by decide +kernel
theorem dX2_cellsReached_7 : decode cX2_cellsReached 7 = .ok (.if_icmp .ge 22, 3) := by decide +kernel
theorem dX2_cellsReached_10 : decode cX2_cellsReached 10 = .ok (.aload_n 0, 1) := by decide +kernel
theorem dX2_cellsReached_11 : decode cX2_cellsReached 11 = .ok (.getfield 27, 3) := by decide +kernel
theorem dX2_cellsReached_14 : decode cX2_cellsReached 14 = .ok (.iload_n 2, 1) := by decide +kernel
theorem dX2_cellsReached_15 : decode cX2_cellsReached 15 = .ok (.iaload, 1) := by decide +kernel
theorem dX2_cellsReached_16 : decode cX2_cellsReached 16 = .ok (.iconst (-1), 1) := by decide +kernel
theorem dX2_cellsReached_17 : decode cX2_cellsReached 17 = .ok (.if_icmp .eq 6, 3) := by decide +kernel
theorem dX2_cellsReached_20 : decode cX2_cellsReached 20 = .ok (.iinc 1 1, 3) := by decide +kernel
theorem dX2_cellsReached_23 : decode cX2_cellsReached 23 = .ok (.iinc 2 1, 3) := by decide +kernel
theorem dX2_cellsReached_26 : decode cX2_cellsReached 26 = .ok (.goto (-22), 3) := by decide +kernel
theorem dX2_cellsReached_29 : decode cX2_cellsReached 29 = .ok (.iload_n 1, 1) := by decide +kernel
theorem dX2_cellsReached_30 : decode cX2_cellsReached 30 = .ok (.ireturn, 1) := by decide +kernel
theorem dX2_gamesBehind_0 : decode cX2_gamesBehind 0 = .ok (.aload_n 0, 1) := by decide +kernel
theorem dX2_gamesBehind_1 : decode cX2_gamesBehind 1 = .ok (.getfield 16, 3) := by decide +kernel
theorem dX2_gamesBehind_4 : decode cX2_gamesBehind 4 = .ok (.aload_n 0, 1) := by decide +kernel
theorem dX2_gamesBehind_5 : decode cX2_gamesBehind 5 = .ok (.getfield 10, 3) := by decide +kernel
theorem dX2_gamesBehind_8 : decode cX2_gamesBehind 8 = .ok (.invokevirtual 140, 3) := by decide +kernel
theorem dX2_gamesBehind_11 : decode cX2_gamesBehind 11 = .ok (.aload_n 0, 1) := by decide +kernel
theorem dX2_gamesBehind_12 : decode cX2_gamesBehind 12 = .ok (.getfield 16, 3) := by decide +kernel
theorem dX2_gamesBehind_15 : decode cX2_gamesBehind 15 = .ok (.iload_n 1, 1) := by decide +kernel
theorem dX2_gamesBehind_16 : decode cX2_gamesBehind 16 = .ok (.iload_n 2, 1) := by decide +kernel
theorem dX2_gamesBehind_17 : decode cX2_gamesBehind 17 = .ok (.invokevirtual 148, 3) := by decide +kernel
theorem dX2_gamesBehind_20 : decode cX2_gamesBehind 20 = .ok (.pop, 1) := by decide +kernel
theorem dX2_gamesBehind_21 : decode cX2_gamesBehind 21 = .ok (.aload_n 0, 1) := by decide +kernel
theorem dX2_gamesBehind_22 : decode cX2_gamesBehind 22 = .ok (.getfield 16, 3) := by decide +kernel
theorem dX2_gamesBehind_25 : decode cX2_gamesBehind 25 = .ok (.invokevirtual 73, 3) := by decide +kernel
theorem dX2_gamesBehind_28 : decode cX2_gamesBehind 28 = .ok (.ifCond .eq 7, 3) := by decide +kernel
theorem dX2_gamesBehind_31 : decode cX2_gamesBehind 31 = .ok (.iconst 1, 1) := by decide +kernel
theorem dX2_gamesBehind_32 : decode cX2_gamesBehind 32 = .ok (.goto 24, 3) := by decide +kernel
theorem dX2_gamesBehind_35 : decode cX2_gamesBehind 35 = .ok (.iconst 1, 1) := by decide +kernel
theorem dX2_gamesBehind_36 : decode cX2_gamesBehind 36 = .ok (.aload_n 0, 1) := by decide +kernel
theorem dX2_gamesBehind_37 : decode cX2_gamesBehind 37 = .ok (.getfield 16, 3) := by decide +kernel
theorem dX2_gamesBehind_40 : decode cX2_gamesBehind 40 = .ok (.getfield 40, 3) := by decide +kernel
theorem dX2_gamesBehind_43 : decode cX2_gamesBehind 43 = .ok (.aload_n 0, 1) := by decide +kernel
theorem dX2_gamesBehind_44 : decode cX2_gamesBehind 44 = .ok (.getfield 16, 3) := by decide +kernel
theorem dX2_gamesBehind_47 : decode cX2_gamesBehind 47 = .ok (.getfield 106, 3) := by decide +kernel
theorem dX2_gamesBehind_50 : decode cX2_gamesBehind 50 = .ok (.invokevirtual 160, 3) := by decide +kernel
theorem dX2_gamesBehind_53 : decode cX2_gamesBehind 53 = .ok (.invokestatic 203, 3) := by decide +kernel
theorem dX2_gamesBehind_56 : decode cX2_gamesBehind 56 = .ok (.ireturn, 1) := by decide +kernel
theorem dX2_worthOf_0 : decode cX2_worthOf 0 = .ok (.aload_n 0, 1) := by decide +kernel
theorem dX2_worthOf_1 : decode cX2_worthOf 1 = .ok (.getfield 16, 3) := by decide +kernel
theorem dX2_worthOf_4 : decode cX2_worthOf 4 = .ok (.aload_n 0, 1) := by decide +kernel
theorem dX2_worthOf_5 : decode cX2_worthOf 5 = .ok (.getfield 10, 3) := by decide +kernel
theorem dX2_worthOf_8 : decode cX2_worthOf 8 = .ok (.invokevirtual 140, 3) := by decide +kernel
theorem dX2_worthOf_11 : decode cX2_worthOf 11 = .ok (.aload_n 0, 1) := by decide +kernel
theorem dX2_worthOf_12 : decode cX2_worthOf 12 = .ok (.getfield 16, 3) := by decide +kernel
theorem dX2_worthOf_15 : decode cX2_worthOf 15 = .ok (.iload_n 1, 1) := by decide +kernel
theorem dX2_worthOf_16 : decode cX2_worthOf 16 = .ok (.iload_n 2, 1) := by decide +kernel
theorem dX2_worthOf_17 : decode cX2_worthOf 17 = .ok (.invokevirtual 208, 3) := by decide +kernel
theorem dX2_worthOf_20 : decode cX2_worthOf 20 = .ok (.pop, 1) := by decide +kernel
theorem dX2_worthOf_21 : decode cX2_worthOf 21 = .ok (.aload_n 0, 1) := by decide +kernel
theorem dX2_worthOf_22 : decode cX2_worthOf 22 = .ok (.getfield 10, 3) := by decide +kernel
theorem dX2_worthOf_25 : decode cX2_worthOf 25 = .ok (.getfield 106, 3) := by decide +kernel
theorem dX2_worthOf_28 : decode cX2_worthOf 28 = .ok (.istore_n 3, 1) := by decide +kernel
theorem dX2_worthOf_29 : decode cX2_worthOf 29 = .ok (.aload_n 0, 1) := by decide +kernel
theorem dX2_worthOf_30 : decode cX2_worthOf 30 = .ok (.getfield 16, 3) := by decide +kernel
theorem dX2_worthOf_33 : decode cX2_worthOf 33 = .ok (.getfield 40, 3) := by decide +kernel
theorem dX2_worthOf_36 : decode cX2_worthOf 36 = .ok (.iload_n 3, 1) := by decide +kernel
theorem dX2_worthOf_37 : decode cX2_worthOf 37 = .ok (.invokevirtual 121, 3) := by decide +kernel
theorem dX2_worthOf_40 : decode cX2_worthOf 40 = .ok (.aload_n 0, 1) := by decide +kernel
theorem dX2_worthOf_41 : decode cX2_worthOf 41 = .ok (.getfield 16, 3) := by decide +kernel
theorem dX2_worthOf_44 : decode cX2_worthOf 44 = .ok (.getfield 40, 3) := by decide +kernel
theorem dX2_worthOf_47 : decode cX2_worthOf 47 = .ok (.iconst 1, 1) := by decide +kernel
theorem dX2_worthOf_48 : decode cX2_worthOf 48 = .ok (.iload_n 3, 1) := by decide +kernel
theorem dX2_worthOf_49 : decode cX2_worthOf 49 = .ok (.isub, 1) := by decide +kernel
theorem dX2_worthOf_50 : decode cX2_worthOf 50 = .ok (.invokevirtual 121, 3) := by decide +kernel
theorem dX2_worthOf_53 : decode cX2_worthOf 53 = .ok (.isub, 1) := by decide +kernel
theorem dX2_worthOf_54 : decode cX2_worthOf 54 = .ok (.istore 4, 2) := by decide +kernel
theorem dX2_worthOf_56 : decode cX2_worthOf 56 = .ok (.aload_n 0, 1) := by decide +kernel
theorem dX2_worthOf_57 : decode cX2_worthOf 57 = .ok (.getfield 16, 3) := by decide +kernel
theorem dX2_worthOf_60 : decode cX2_worthOf 60 = .ok (.invokevirtual 73, 3) := by decide +kernel
theorem dX2_worthOf_63 : decode cX2_worthOf 63 = .ok (.ifCond .eq 12, 3) := by decide +kernel
theorem dX2_worthOf_66 : decode cX2_worthOf 66 = .ok (.iload 4, 2) := by decide +kernel
theorem dX2_worthOf_68 : decode cX2_worthOf 68 = .ok (.sipush 10000, 3) := by decide +kernel
theorem dX2_worthOf_71 : decode cX2_worthOf 71 = .ok (.iadd, 1) := by decide +kernel
theorem dX2_worthOf_72 : decode cX2_worthOf 72 = .ok (.goto 5, 3) := by decide +kernel
theorem dX2_worthOf_75 : decode cX2_worthOf 75 = .ok (.iload 4, 2) := by decide +kernel
theorem dX2_worthOf_77 : decode cX2_worthOf 77 = .ok (.ireturn, 1) := by decide +kernel
theorem dX2_tryText_0 : decode cX2_tryText 0 = .ok (.aload_n 0, 1) := by decide +kernel
theorem dX2_tryText_1 : decode cX2_tryText 1 = .ok (.getfield 16, 3) := by decide +kernel
theorem dX2_tryText_4 : decode cX2_tryText 4 = .ok (.aload_n 0, 1) := by decide +kernel
theorem dX2_tryText_5 : decode cX2_tryText 5 = .ok (.getfield 10, 3) := by decide +kernel
theorem dX2_tryText_8 : decode cX2_tryText 8 = .ok (.invokevirtual 140, 3) := by decide +kernel
theorem dX2_tryText_11 : decode cX2_tryText 11 = .ok (.iconst 0, 1) := by decide +kernel
theorem dX2_tryText_12 : decode cX2_tryText 12 = .ok (.istore_n 1, 1) := by decide +kernel
theorem dX2_tryText_13 : decode cX2_tryText 13 = .ok (.iconst 0, 1) := by decide +kernel
theorem dX2_tryText_14 : decode cX2_tryText 14 = .ok (.istore_n 2, 1) := by decide +kernel
theorem dX2_tryText_15 : decode cX2_tryText 15 = .ok (.iload_n 2, 1) := by decide +kernel
theorem dX2_tryText_16 : decode cX2_tryText 16 = .ok (.bipush 80, 2) := by decide +kernel
theorem dX2_tryText_18 : decode cX2_tryText 18 = .ok (.if_icmp .ge 121, 3) := by decide +kernel
theorem dX2_tryText_21 : decode cX2_tryText 21 = .ok (.iload_n 1, 1) := by decide +kernel
theorem dX2_tryText_22 : decode cX2_tryText 22 = .ok (.aload_n 0, 1) := by decide +kernel
theorem dX2_tryText_23 : decode cX2_tryText 23 = .ok (.getfield 127, 3) := by decide +kernel
theorem dX2_tryText_26 : decode cX2_tryText 26 = .ok (.if_icmp .ge 113, 3) := by decide +kernel
theorem dX2_tryText_29 : decode cX2_tryText 29 = .ok (.aload_n 0, 1) := by decide +kernel
theorem dX2_tryText_30 : decode cX2_tryText 30 = .ok (.iload_n 1, 1) := by decide +kernel
theorem dX2_tryText_31 : decode cX2_tryText 31 = .ok (.invokevirtual 211, 3) := by decide +kernel
theorem dX2_tryText_34 : decode cX2_tryText 34 = .ok (.istore_n 3, 1) := by decide +kernel
theorem dX2_tryText_35 : decode cX2_tryText 35 = .ok (.aload_n 0, 1) := by decide +kernel
theorem dX2_tryText_36 : decode cX2_tryText 36 = .ok (.iload_n 1, 1) := by decide +kernel
theorem dX2_tryText_37 : decode cX2_tryText 37 = .ok (.invokevirtual 214, 3) := by decide +kernel
theorem dX2_tryText_40 : decode cX2_tryText 40 = .ok (.istore 4, 2) := by decide +kernel
theorem dX2_tryText_42 : decode cX2_tryText 42 = .ok (.aload_n 0, 1) := by decide +kernel
theorem dX2_tryText_43 : decode cX2_tryText 43 = .ok (.iload_n 1, 1) := by decide +kernel
theorem dX2_tryText_44 : decode cX2_tryText 44 = .ok (.iconst 2, 1) := by decide +kernel
theorem dX2_tryText_45 : decode cX2_tryText 45 = .ok (.iadd, 1) := by decide +kernel
theorem dX2_tryText_46 : decode cX2_tryText 46 = .ok (.invokevirtual 214, 3) := by decide +kernel
theorem dX2_tryText_49 : decode cX2_tryText 49 = .ok (.istore 5, 2) := by decide +kernel
theorem dX2_tryText_51 : decode cX2_tryText 51 = .ok (.iconst 1, 1) := by decide +kernel
theorem dX2_tryText_52 : decode cX2_tryText 52 = .ok (.istore 6, 2) := by decide +kernel
theorem dX2_tryText_54 : decode cX2_tryText 54 = .ok (.iload_n 3, 1) := by decide +kernel
theorem dX2_tryText_55 : decode cX2_tryText 55 = .ok (.iconst 5, 1) := by decide +kernel
theorem dX2_tryText_56 : decode cX2_tryText 56 = .ok (.if_icmp .ne 19, 3) := by decide +kernel
theorem dX2_tryText_59 : decode cX2_tryText 59 = .ok (.aload_n 0, 1) := by decide +kernel
theorem dX2_tryText_60 : decode cX2_tryText 60 = .ok (.getfield 16, 3) := by decide +kernel
theorem dX2_tryText_63 : decode cX2_tryText 63 = .ok (.iload 4, 2) := by decide +kernel
theorem dX2_tryText_65 : decode cX2_tryText 65 = .ok (.iload 5, 2) := by decide +kernel
theorem dX2_tryText_67 : decode cX2_tryText 67 = .ok (.invokevirtual 144, 3) := by decide +kernel
theorem dX2_tryText_70 : decode cX2_tryText 70 = .ok (.istore 6, 2) := by decide +kernel
theorem dX2_tryText_72 : decode cX2_tryText 72 = .ok (.goto 17, 3) := by decide +kernel
theorem dX2_tryText_75 : decode cX2_tryText 75 = .ok (.iload_n 3, 1) := by decide +kernel
theorem dX2_tryText_76 : decode cX2_tryText 76 = .ok (.iconst 2, 1) := by decide +kernel
theorem dX2_tryText_77 : decode cX2_tryText 77 = .ok (.if_icmp .ne 12, 3) := by decide +kernel
theorem dX2_tryText_80 : decode cX2_tryText 80 = .ok (.aload_n 0, 1) := by decide +kernel
theorem dX2_tryText_81 : decode cX2_tryText 81 = .ok (.getfield 16, 3) := by decide +kernel
theorem dX2_tryText_84 : decode cX2_tryText 84 = .ok (.invokevirtual 151, 3) := by decide +kernel
theorem dX2_tryText_87 : decode cX2_tryText 87 = .ok (.istore 6, 2) := by decide +kernel
theorem dX2_tryText_89 : decode cX2_tryText 89 = .ok (.iload 6, 2) := by decide +kernel
theorem dX2_tryText_91 : decode cX2_tryText 91 = .ok (.ifCond .eq 11, 3) := by decide +kernel
theorem dX2_tryText_94 : decode cX2_tryText 94 = .ok (.bipush 16, 2) := by decide +kernel
theorem dX2_tryText_96 : decode cX2_tryText 96 = .ok (.iload_n 1, 1) := by decide +kernel
theorem dX2_tryText_97 : decode cX2_tryText 97 = .ok (.imul, 1) := by decide +kernel
theorem dX2_tryText_98 : decode cX2_tryText 98 = .ok (.iload 6, 2) := by decide +kernel
theorem dX2_tryText_100 : decode cX2_tryText 100 = .ok (.iadd, 1) := by decide +kernel
theorem dX2_tryText_101 : decode cX2_tryText 101 = .ok (.ireturn, 1) := by decide +kernel
theorem dX2_tryText_102 : decode cX2_tryText 102 = .ok (.iload_n 3, 1) := by decide +kernel
theorem dX2_tryText_103 : decode cX2_tryText 103 = .ok (.iconst 5, 1) := by decide +kernel
theorem dX2_tryText_104 : decode cX2_tryText 104 = .ok (.if_icmp .ne 18, 3) := by decide +kernel
theorem dX2_tryText_107 : decode cX2_tryText 107 = .ok (.aload_n 0, 1) := by decide +kernel
theorem dX2_tryText_108 : decode cX2_tryText 108 = .ok (.getfield 16, 3) := by decide +kernel
theorem dX2_tryText_111 : decode cX2_tryText 111 = .ok (.iload 4, 2) := by decide +kernel
theorem dX2_tryText_113 : decode cX2_tryText 113 = .ok (.iload 5, 2) := by decide +kernel
theorem dX2_tryText_115 : decode cX2_tryText 115 = .ok (.invokevirtual 148, 3) := by decide +kernel
theorem dX2_tryText_118 : decode cX2_tryText 118 = .ok (.pop, 1) := by decide +kernel
theorem dX2_tryText_119 : decode cX2_tryText 119 = .ok (.goto 10, 3) := by decide +kernel
theorem dX2_tryText_122 : decode cX2_tryText 122 = .ok (.aload_n 0, 1) := by decide +kernel
theorem dX2_tryText_123 : decode cX2_tryText 123 = .ok (.getfield 16, 3) := by decide +kernel
theorem dX2_tryText_126 : decode cX2_tryText 126 = .ok (.invokevirtual 154, 3) := by decide +kernel
theorem dX2_tryText_129 : decode cX2_tryText 129 = .ok (.iload_n 1, 1) := by decide +kernel
theorem dX2_tryText_130 : decode cX2_tryText 130 = .ok (.iload_n 3, 1) := by decide +kernel
theorem dX2_tryText_131 : decode cX2_tryText 131 = .ok (.iadd, 1) := by decide +kernel
theorem dX2_tryText_132 : decode cX2_tryText 132 = .ok (.istore_n 1, 1) := by decide +kernel
theorem dX2_tryText_133 : decode cX2_tryText 133 = .ok (.iinc 2 1, 3) := by decide +kernel
theorem dX2_tryText_136 : decode cX2_tryText 136 = .ok (.goto (-121), 3) := by decide +kernel
theorem dX2_tryText_139 : decode cX2_tryText 139 = .ok (.iconst (-1), 1) := by decide +kernel
theorem dX2_tryText_140 : decode cX2_tryText 140 = .ok (.ireturn, 1) := by decide +kernel
theorem dX2_signsOfForm_0 : decode cX2_signsOfForm 0 = .ok (.aload_n 0, 1) := by decide +kernel
theorem dX2_signsOfForm_1 : decode cX2_signsOfForm 1 = .ok (.iload_n 1, 1) := by decide +kernel
theorem dX2_signsOfForm_2 : decode cX2_signsOfForm 2 = .ok (.invokevirtual 217, 3) := by decide +kernel
theorem dX2_signsOfForm_5 : decode cX2_signsOfForm 5 = .ok (.bipush 45, 2) := by decide +kernel
theorem dX2_signsOfForm_7 : decode cX2_signsOfForm 7 = .ok (.if_icmp .ne 17, 3) := by decide +kernel
theorem dX2_signsOfForm_10 : decode cX2_signsOfForm 10 = .ok (.aload_n 0, 1) := by decide +kernel
theorem dX2_signsOfForm_11 : decode cX2_signsOfForm 11 = .ok (.iload_n 1, 1) := by decide +kernel
theorem dX2_signsOfForm_12 : decode cX2_signsOfForm 12 = .ok (.iconst 1, 1) := by decide +kernel
theorem dX2_signsOfForm_13 : decode cX2_signsOfForm 13 = .ok (.iadd, 1) := by decide +kernel
theorem dX2_signsOfForm_14 : decode cX2_signsOfForm 14 = .ok (.invokevirtual 217, 3) := by decide +kernel
theorem dX2_signsOfForm_17 : decode cX2_signsOfForm 17 = .ok (.bipush 59, 2) := by decide +kernel
theorem dX2_signsOfForm_19 : decode cX2_signsOfForm 19 = .ok (.if_icmp .ne 5, 3) := by decide +kernel
theorem dX2_signsOfForm_22 : decode cX2_signsOfForm 22 = .ok (.iconst 2, 1) := by decide +kernel
theorem dX2_signsOfForm_23 : decode cX2_signsOfForm 23 = .ok (.ireturn, 1) := by decide +kernel
theorem dX2_signsOfForm_24 : decode cX2_signsOfForm 24 = .ok (.aload_n 0, 1) := by decide +kernel
theorem dX2_signsOfForm_25 : decode cX2_signsOfForm 25 = .ok (.iload_n 1, 1) := by decide +kernel
theorem dX2_signsOfForm_26 : decode cX2_signsOfForm 26 = .ok (.invokevirtual 214, 3) := by decide +kernel
theorem dX2_signsOfForm_29 : decode cX2_signsOfForm 29 = .ok (.iconst (-1), 1) := by decide +kernel
theorem dX2_signsOfForm_30 : decode cX2_signsOfForm 30 = .ok (.if_icmp .eq 30, 3) := by decide +kernel
theorem dX2_signsOfForm_33 : decode cX2_signsOfForm 33 = .ok (.aload_n 0, 1) := by decide +kernel
theorem dX2_signsOfForm_34 : decode cX2_signsOfForm 34 = .ok (.iload_n 1, 1) := by decide +kernel
theorem dX2_signsOfForm_35 : decode cX2_signsOfForm 35 = .ok (.iconst 2, 1) := by decide +kernel
theorem dX2_signsOfForm_36 : decode cX2_signsOfForm 36 = .ok (.iadd, 1) := by decide +kernel
theorem dX2_signsOfForm_37 : decode cX2_signsOfForm 37 = .ok (.invokevirtual 214, 3) := by decide +kernel
theorem dX2_signsOfForm_40 : decode cX2_signsOfForm 40 = .ok (.iconst (-1), 1) := by decide +kernel
theorem dX2_signsOfForm_41 : decode cX2_signsOfForm 41 = .ok (.if_icmp .eq 19, 3) := by decide +kernel
theorem dX2_signsOfForm_44 : decode cX2_signsOfForm 44 = .ok (.aload_n 0, 1) := by decide +kernel
theorem dX2_signsOfForm_45 : decode cX2_signsOfForm 45 = .ok (.iload_n 1, 1) := by decide +kernel
theorem dX2_signsOfForm_46 : decode cX2_signsOfForm 46 = .ok (.iconst 4, 1) := by decide +kernel
theorem dX2_signsOfForm_47 : decode cX2_signsOfForm 47 = .ok (.iadd, 1) := by decide +kernel
theorem dX2_signsOfForm_48 : decode cX2_signsOfForm 48 = .ok (.invokevirtual 217, 3) := by decide +kernel
theorem dX2_signsOfForm_51 : decode cX2_signsOfForm 51 = .ok (.bipush 59, 2) := by decide +kernel
theorem dX2_signsOfForm_53 : decode cX2_signsOfForm 53 = .ok (.if_icmp .ne 7, 3) := by decide +kernel
theorem dX2_signsOfForm_56 : decode cX2_signsOfForm 56 = .ok (.iconst 1, 1) := by decide +kernel
theorem dX2_signsOfForm_57 : decode cX2_signsOfForm 57 = .ok (.goto 4, 3) := by decide +kernel
theorem dX2_signsOfForm_60 : decode cX2_signsOfForm 60 = .ok (.iconst 0, 1) := by decide +kernel
theorem dX2_signsOfForm_61 : decode cX2_signsOfForm 61 = .ok (.istore_n 2, 1) := by decide +kernel
theorem dX2_signsOfForm_62 : decode cX2_signsOfForm 62 = .ok (.iload_n 2, 1) := by decide +kernel
theorem dX2_signsOfForm_63 : decode cX2_signsOfForm 63 = .ok (.ifCond .eq 7, 3) := by decide +kernel
theorem dX2_signsOfForm_66 : decode cX2_signsOfForm 66 = .ok (.iconst 5, 1) := by decide +kernel
theorem dX2_signsOfForm_67 : decode cX2_signsOfForm 67 = .ok (.goto 4, 3) := by decide +kernel
theorem dX2_signsOfForm_70 : decode cX2_signsOfForm 70 = .ok (.iconst 0, 1) := by decide +kernel
theorem dX2_signsOfForm_71 : decode cX2_signsOfForm 71 = .ok (.ireturn, 1) := by decide +kernel
theorem dX2_cellAt_0 : decode cX2_cellAt 0 = .ok (.aload_n 0, 1) := by decide +kernel
theorem dX2_cellAt_1 : decode cX2_cellAt 1 = .ok (.iload_n 1, 1) := by decide +kernel
theorem dX2_cellAt_2 : decode cX2_cellAt 2 = .ok (.invokevirtual 217, 3) := by decide +kernel
theorem dX2_cellAt_5 : decode cX2_cellAt 5 = .ok (.bipush 97, 2) := by decide +kernel
theorem dX2_cellAt_7 : decode cX2_cellAt 7 = .ok (.isub, 1) := by decide +kernel
theorem dX2_cellAt_8 : decode cX2_cellAt 8 = .ok (.istore_n 2, 1) := by decide +kernel
theorem dX2_cellAt_9 : decode cX2_cellAt 9 = .ok (.aload_n 0, 1) := by decide +kernel
theorem dX2_cellAt_10 : decode cX2_cellAt 10 = .ok (.iload_n 1, 1) := by decide +kernel
theorem dX2_cellAt_11 : decode cX2_cellAt 11 = .ok (.iconst 1, 1) := by decide +kernel
theorem dX2_cellAt_12 : decode cX2_cellAt 12 = .ok (.iadd, 1) := by decide +kernel
theorem dX2_cellAt_13 : decode cX2_cellAt 13 = .ok (.invokevirtual 217, 3) := by decide +kernel
theorem dX2_cellAt_16 : decode cX2_cellAt 16 = .ok (.bipush 49, 2) := by decide +kernel
theorem dX2_cellAt_18 : decode cX2_cellAt 18 = .ok (.isub, 1) := by decide +kernel
theorem dX2_cellAt_19 : decode cX2_cellAt 19 = .ok (.istore_n 3, 1) := by decide +kernel
theorem dX2_cellAt_20 : decode cX2_cellAt 20 = .ok (.iload_n 2, 1) := by decide +kernel
theorem dX2_cellAt_21 : decode cX2_cellAt 21 = .ok (.ifCond .lt 23, 3) := by decide +kernel
theorem dX2_cellAt_24 : decode cX2_cellAt 24 = .ok (.iload_n 2, 1) := by decide +kernel
theorem dX2_cellAt_25 : decode cX2_cellAt 25 = .ok (.bipush 6, 2) := by decide +kernel
theorem dX2_cellAt_27 : decode cX2_cellAt 27 = .ok (.if_icmp .ge 17, 3) := by decide +kernel
theorem dX2_cellAt_30 : decode cX2_cellAt 30 = .ok (.iload_n 3, 1) := by decide +kernel
theorem dX2_cellAt_31 : decode cX2_cellAt 31 = .ok (.ifCond .lt 13, 3) := by decide +kernel
theorem dX2_cellAt_34 : decode cX2_cellAt 34 = .ok (.iload_n 3, 1) := by decide +kernel
theorem dX2_cellAt_35 : decode cX2_cellAt 35 = .ok (.bipush 6, 2) := by decide +kernel
theorem dX2_cellAt_37 : decode cX2_cellAt 37 = .ok (.if_icmp .ge 7, 3) := by decide +kernel
theorem dX2_cellAt_40 : decode cX2_cellAt 40 = .ok (.iconst 1, 1) := by decide +kernel
theorem dX2_cellAt_41 : decode cX2_cellAt 41 = .ok (.goto 4, 3) := by decide +kernel
theorem dX2_cellAt_44 : decode cX2_cellAt 44 = .ok (.iconst 0, 1) := by decide +kernel
theorem dX2_cellAt_45 : decode cX2_cellAt 45 = .ok (.istore 4, 2) := by decide +kernel
theorem dX2_cellAt_47 : decode cX2_cellAt 47 = .ok (.iload 4, 2) := by decide +kernel
theorem dX2_cellAt_49 : decode cX2_cellAt 49 = .ok (.ifCond .eq 12, 3) := by decide +kernel
theorem dX2_cellAt_52 : decode cX2_cellAt 52 = .ok (.bipush 6, 2) := by decide +kernel
theorem dX2_cellAt_54 : decode cX2_cellAt 54 = .ok (.iload_n 3, 1) := by decide +kernel
theorem dX2_cellAt_55 : decode cX2_cellAt 55 = .ok (.imul, 1) := by decide +kernel
theorem dX2_cellAt_56 : decode cX2_cellAt 56 = .ok (.iload_n 2, 1) := by decide +kernel
theorem dX2_cellAt_57 : decode cX2_cellAt 57 = .ok (.iadd, 1) := by decide +kernel
theorem dX2_cellAt_58 : decode cX2_cellAt 58 = .ok (.goto 4, 3) := by decide +kernel
theorem dX2_cellAt_61 : decode cX2_cellAt 61 = .ok (.iconst (-1), 1) := by decide +kernel
theorem dX2_cellAt_62 : decode cX2_cellAt 62 = .ok (.ireturn, 1) := by decide +kernel
theorem dX2_signAt_0 : decode cX2_signAt 0 = .ok (.iload_n 1, 1) := by decide +kernel
theorem dX2_signAt_1 : decode cX2_signAt 1 = .ok (.ifCond .lt 29, 3) := by decide +kernel
theorem dX2_signAt_4 : decode cX2_signAt 4 = .ok (.iload_n 1, 1) := by decide +kernel
theorem dX2_signAt_5 : decode cX2_signAt 5 = .ok (.aload_n 0, 1) := by decide +kernel
theorem dX2_signAt_6 : decode cX2_signAt 6 = .ok (.getfield 127, 3) := by decide +kernel
theorem dX2_signAt_9 : decode cX2_signAt 9 = .ok (.if_icmp .ge 21, 3) := by decide +kernel
theorem dX2_signAt_12 : decode cX2_signAt 12 = .ok (.iload_n 1, 1) := by decide +kernel
theorem dX2_signAt_13 : decode cX2_signAt 13 = .ok (.aload_n 0, 1) := by decide +kernel
theorem dX2_signAt_14 : decode cX2_signAt 14 = .ok (.getfield 23, 3) := by decide +kernel
theorem dX2_signAt_17 : decode cX2_signAt 17 = .ok (.arraylength, 1) := by decide +kernel
theorem dX2_signAt_18 : decode cX2_signAt 18 = .ok (.if_icmp .ge 12, 3) := by decide +kernel
theorem dX2_signAt_21 : decode cX2_signAt 21 = .ok (.aload_n 0, 1) := by decide +kernel
theorem dX2_signAt_22 : decode cX2_signAt 22 = .ok (.getfield 23, 3) := by decide +kernel
theorem dX2_signAt_25 : decode cX2_signAt 25 = .ok (.iload_n 1, 1) := by decide +kernel
theorem dX2_signAt_26 : decode cX2_signAt 26 = .ok (.caload, 1) := by decide +kernel
theorem dX2_signAt_27 : decode cX2_signAt 27 = .ok (.goto 4, 3) := by decide +kernel
theorem dX2_signAt_30 : decode cX2_signAt 30 = .ok (.iconst 0, 1) := by decide +kernel
theorem dX2_signAt_31 : decode cX2_signAt 31 = .ok (.ireturn, 1) := by decide +kernel
theorem dX2_movesInText_0 : decode cX2_movesInText 0 = .ok (.iconst 0, 1) := by decide +kernel
theorem dX2_movesInText_1 : decode cX2_movesInText 1 = .ok (.istore_n 1, 1) := by decide +kernel
theorem dX2_movesInText_2 : decode cX2_movesInText 2 = .ok (.iconst 0, 1) := by decide +kernel
theorem dX2_movesInText_3 : decode cX2_movesInText 3 = .ok (.istore_n 2, 1) := by decide +kernel
theorem dX2_movesInText_4 : decode cX2_movesInText 4 = .ok (.iload_n 2, 1) := by decide +kernel
theorem dX2_movesInText_5 : decode cX2_movesInText 5 = .ok (.aload_n 0, 1) := by decide +kernel
theorem dX2_movesInText_6 : decode cX2_movesInText 6 = .ok (.getfield 127, 3) := by decide +kernel
theorem dX2_movesInText_9 : decode cX2_movesInText 9 = .ok (.if_icmp .ge 22, 3) := by decide +kernel
theorem dX2_movesInText_12 : decode cX2_movesInText 12 = .ok (.aload_n 0, 1) := by decide +kernel
theorem dX2_movesInText_13 : decode cX2_movesInText 13 = .ok (.iload_n 2, 1) := by decide +kernel
theorem dX2_movesInText_14 : decode cX2_movesInText 14 = .ok (.invokevirtual 217, 3) := by decide +kernel
theorem dX2_movesInText_17 : decode cX2_movesInText 17 = .ok (.bipush 59, 2) := by decide +kernel
theorem dX2_movesInText_19 : decode cX2_movesInText 19 = .ok (.if_icmp .ne 6, 3) := by decide +kernel
theorem dX2_movesInText_22 : decode cX2_movesInText 22 = .ok (.iinc 1 1, 3) := by decide +kernel
theorem dX2_movesInText_25 : decode cX2_movesInText 25 = .ok (.iinc 2 1, 3) := by decide +kernel
theorem dX2_movesInText_28 : decode cX2_movesInText 28 = .ok (.goto (-24), 3) := by decide +kernel
theorem dX2_movesInText_31 : decode cX2_movesInText 31 = .ok (.iload_n 1, 1) := by decide +kernel
theorem dX2_movesInText_32 : decode cX2_movesInText 32 = .ok (.ireturn, 1) := by decide +kernel
theorem dJ6_compare_7cf53_0 : decode cJ6_compare_7cf53 0 = .ok (.iload_n 0, 1) := by decide +kernel
theorem dJ6_compare_7cf53_1 : decode cJ6_compare_7cf53 1 = .ok (.iload_n 1, 1) := by decide +kernel
theorem dJ6_compare_7cf53_2 : decode cJ6_compare_7cf53 2 = .ok (.if_icmp .ge 7, 3) := by decide +kernel
theorem dJ6_compare_7cf53_5 : decode cJ6_compare_7cf53 5 = .ok (.iconst (-1), 1) := by decide +kernel
theorem dJ6_compare_7cf53_6 : decode cJ6_compare_7cf53 6 = .ok (.goto 13, 3) := by decide +kernel
theorem dJ6_compare_7cf53_9 : decode cJ6_compare_7cf53 9 = .ok (.iload_n 0, 1) := by decide +kernel
theorem dJ6_compare_7cf53_10 : decode cJ6_compare_7cf53 10 = .ok (.iload_n 1, 1) := by decide +kernel
theorem dJ6_compare_7cf53_11 : decode cJ6_compare_7cf53 11 = .ok (.if_icmp .ne 7, 3) := by decide +kernel
theorem dJ6_compare_7cf53_14 : decode cJ6_compare_7cf53 14 = .ok (.iconst 0, 1) := by decide +kernel
theorem dJ6_compare_7cf53_15 : decode cJ6_compare_7cf53 15 = .ok (.goto 4, 3) := by decide +kernel
theorem dJ6_compare_7cf53_18 : decode cJ6_compare_7cf53 18 = .ok (.iconst 1, 1) := by decide +kernel
theorem dJ6_compare_7cf53_19 : decode cJ6_compare_7cf53 19 = .ok (.ireturn, 1) := by decide +kernel
theorem dJ9_abs_0f7a4_0 : decode cJ9_abs_0f7a4 0 = .ok (.iload_n 0, 1) := by decide +kernel
theorem dJ9_abs_0f7a4_1 : decode cJ9_abs_0f7a4 1 = .ok (.ifCond .ge 8, 3) := by decide +kernel
theorem dJ9_abs_0f7a4_4 : decode cJ9_abs_0f7a4 4 = .ok (.iload_n 0, 1) := by decide +kernel
theorem dJ9_abs_0f7a4_5 : decode cJ9_abs_0f7a4 5 = .ok (.ineg, 1) := by decide +kernel
theorem dJ9_abs_0f7a4_6 : decode cJ9_abs_0f7a4 6 = .ok (.goto 4, 3) := by decide +kernel
theorem dJ9_abs_0f7a4_9 : decode cJ9_abs_0f7a4 9 = .ok (.iload_n 0, 1) := by decide +kernel
theorem dJ9_abs_0f7a4_10 : decode cJ9_abs_0f7a4 10 = .ok (.ireturn, 1) := by decide +kernel
theorem dJ9_max_7cf53_0 : decode cJ9_max_7cf53 0 = .ok (.iload_n 0, 1) := by decide +kernel
theorem dJ9_max_7cf53_1 : decode cJ9_max_7cf53 1 = .ok (.iload_n 1, 1) := by decide +kernel
theorem dJ9_max_7cf53_2 : decode cJ9_max_7cf53 2 = .ok (.if_icmp .lt 7, 3) := by decide +kernel
theorem dJ9_max_7cf53_5 : decode cJ9_max_7cf53 5 = .ok (.iload_n 0, 1) := by decide +kernel
theorem dJ9_max_7cf53_6 : decode cJ9_max_7cf53 6 = .ok (.goto 4, 3) := by decide +kernel
theorem dJ9_max_7cf53_9 : decode cJ9_max_7cf53 9 = .ok (.iload_n 1, 1) := by decide +kernel
theorem dJ9_max_7cf53_10 : decode cJ9_max_7cf53 10 = .ok (.ireturn, 1) := by decide +kernel
theorem dJ9_min_7cf53_0 : decode cJ9_min_7cf53 0 = .ok (.iload_n 0, 1) := by decide +kernel
theorem dJ9_min_7cf53_1 : decode cJ9_min_7cf53 1 = .ok (.iload_n 1, 1) := by decide +kernel
theorem dJ9_min_7cf53_2 : decode cJ9_min_7cf53 2 = .ok (.if_icmp .gt 7, 3) := by decide +kernel
theorem dJ9_min_7cf53_5 : decode cJ9_min_7cf53 5 = .ok (.iload_n 0, 1) := by decide +kernel
theorem dJ9_min_7cf53_6 : decode cJ9_min_7cf53 6 = .ok (.goto 4, 3) := by decide +kernel
theorem dJ9_min_7cf53_9 : decode cJ9_min_7cf53 9 = .ok (.iload_n 1, 1) := by decide +kernel
theorem dJ9_min_7cf53_10 : decode cJ9_min_7cf53 10 = .ok (.ireturn, 1) := by decide +kernel
theorem dL_part_0 : decode cL_part 0 = .ok (.iload_n 0, 1) := by decide +kernel
theorem dL_part_1 : decode cL_part 1 = .ok (.ldc 7, 2) := by decide +kernel
theorem dL_part_3 : decode cL_part 3 = .ok (.iand, 1) := by decide +kernel
theorem dL_part_4 : decode cL_part 4 = .ok (.iload_n 1, 1) := by decide +kernel
theorem dL_part_5 : decode cL_part 5 = .ok (.irem, 1) := by decide +kernel
theorem dL_part_6 : decode cL_part 6 = .ok (.ireturn, 1) := by decide +kernel
theorem dL_take_0 : decode cL_take 0 = .ok (.aload_n 0, 1) := by decide +kernel
theorem dL_take_1 : decode cL_take 1 = .ok (.arraylength, 1) := by decide +kernel
theorem dL_take_2 : decode cL_take 2 = .ok (.ifCond .ne 13, 3) := by decide +kernel
theorem dL_take_5 : decode cL_take 5 = .ok (.sipush 7919, 3) := by decide +kernel
theorem dL_take_8 : decode cL_take 8 = .ok (.iload_n 1, 1) := by decide +kernel
theorem dL_take_9 : decode cL_take 9 = .ok (.imul, 1) := by decide +kernel
theorem dL_take_10 : decode cL_take 10 = .ok (.iconst 3, 1) := by decide +kernel
theorem dL_take_11 : decode cL_take 11 = .ok (.iadd, 1) := by decide +kernel
theorem dL_take_12 : decode cL_take 12 = .ok (.goto 27, 3) := by decide +kernel
theorem dL_take_15 : decode cL_take 15 = .ok (.aload_n 0, 1) := by decide +kernel
theorem dL_take_16 : decode cL_take 16 = .ok (.iload_n 1, 1) := by decide +kernel
theorem dL_take_17 : decode cL_take 17 = .ok (.aload_n 0, 1) := by decide +kernel
theorem dL_take_18 : decode cL_take 18 = .ok (.arraylength, 1) := by decide +kernel
theorem dL_take_19 : decode cL_take 19 = .ok (.irem, 1) := by decide +kernel
theorem dL_take_20 : decode cL_take 20 = .ok (.iaload, 1) := by decide +kernel
theorem dL_take_21 : decode cL_take 21 = .ok (.iload_n 1, 1) := by decide +kernel
theorem dL_take_22 : decode cL_take 22 = .ok (.bipush 7, 2) := by decide +kernel
theorem dL_take_24 : decode cL_take 24 = .ok (.irem, 1) := by decide +kernel
theorem dL_take_25 : decode cL_take 25 = .ok (.ishr, 1) := by decide +kernel
theorem dL_take_26 : decode cL_take 26 = .ok (.iload_n 1, 1) := by decide +kernel
theorem dL_take_27 : decode cL_take 27 = .ok (.aload_n 0, 1) := by decide +kernel
theorem dL_take_28 : decode cL_take 28 = .ok (.arraylength, 1) := by decide +kernel
theorem dL_take_29 : decode cL_take 29 = .ok (.idiv, 1) := by decide +kernel
theorem dL_take_30 : decode cL_take 30 = .ok (.bipush 31, 2) := by decide +kernel
theorem dL_take_32 : decode cL_take 32 = .ok (.imul, 1) := by decide +kernel
theorem dL_take_33 : decode cL_take 33 = .ok (.ixor, 1) := by decide +kernel
theorem dL_take_34 : decode cL_take 34 = .ok (.iload_n 1, 1) := by decide +kernel
theorem dL_take_35 : decode cL_take 35 = .ok (.ldc 8, 2) := by decide +kernel
theorem dL_take_37 : decode cL_take 37 = .ok (.imul, 1) := by decide +kernel
theorem dL_take_38 : decode cL_take 38 = .ok (.ixor, 1) := by decide +kernel
theorem dL_take_39 : decode cL_take 39 = .ok (.ireturn, 1) := by decide +kernel
theorem dL_mixed_0 : decode cL_mixed 0 = .ok (.ldc2_w 9, 3) := by decide +kernel
theorem dL_mixed_3 : decode cL_mixed 3 = .ok (.lload_n 0, 1) := by decide +kernel
theorem dL_mixed_4 : decode cL_mixed 4 = .ok (.lmul, 1) := by decide +kernel
theorem dL_mixed_5 : decode cL_mixed 5 = .ok (.lload_n 2, 1) := by decide +kernel
theorem dL_mixed_6 : decode cL_mixed 6 = .ok (.ladd, 1) := by decide +kernel
theorem dL_mixed_7 : decode cL_mixed 7 = .ok (.lreturn, 1) := by decide +kernel
theorem dL_state_0 : decode cL_state 0 = .ok (.ldc2_w 11, 3) := by decide +kernel
theorem dL_state_3 : decode cL_state 3 = .ok (.lstore_n 1, 1) := by decide +kernel
theorem dL_state_4 : decode cL_state 4 = .ok (.iconst 0, 1) := by decide +kernel
theorem dL_state_5 : decode cL_state 5 = .ok (.istore_n 3, 1) := by decide +kernel
theorem dL_state_6 : decode cL_state 6 = .ok (.iload_n 3, 1) := by decide +kernel
theorem dL_state_7 : decode cL_state 7 = .ok (.bipush 27, 2) := by decide +kernel
theorem dL_state_9 : decode cL_state 9 = .ok (.if_icmp .ge 32, 3) := by decide +kernel
theorem dL_state_12 : decode cL_state 12 = .ok (.iload_n 3, 1) := by decide +kernel
theorem dL_state_13 : decode cL_state 13 = .ok (.bipush 8, 2) := by decide +kernel
theorem dL_state_15 : decode cL_state 15 = .ok (.if_icmp .eq 20, 3) := by decide +kernel
theorem dL_state_18 : decode cL_state 18 = .ok (.iload_n 3, 1) := by decide +kernel
theorem dL_state_19 : decode cL_state 19 = .ok (.bipush 9, 2) := by decide +kernel
theorem dL_state_21 : decode cL_state 21 = .ok (.if_icmp .eq 14, 3) := by decide +kernel
theorem dL_state_24 : decode cL_state 24 = .ok (.lload_n 1, 1) := by decide +kernel
theorem dL_state_25 : decode cL_state 25 = .ok (.aload_n 0, 1) := by decide +kernel
theorem dL_state_26 : decode cL_state 26 = .ok (.iload_n 3, 1) := by decide +kernel
theorem dL_state_27 : decode cL_state 27 = .ok (.invokevirtual 13, 3) := by decide +kernel
theorem dL_state_30 : decode cL_state 30 = .ok (.i2l, 1) := by decide +kernel
theorem dL_state_31 : decode cL_state 31 = .ok (.invokestatic 19, 3) := by decide +kernel
theorem dL_state_34 : decode cL_state 34 = .ok (.lstore_n 1, 1) := by decide +kernel
theorem dL_state_35 : decode cL_state 35 = .ok (.iinc 3 1, 3) := by decide +kernel
theorem dL_state_38 : decode cL_state 38 = .ok (.goto (-32), 3) := by decide +kernel
theorem dL_state_41 : decode cL_state 41 = .ok (.iconst 0, 1) := by decide +kernel
theorem dL_state_42 : decode cL_state 42 = .ok (.istore_n 3, 1) := by decide +kernel
theorem dL_state_43 : decode cL_state 43 = .ok (.iload_n 3, 1) := by decide +kernel
theorem dL_state_44 : decode cL_state 44 = .ok (.sipush 144, 3) := by decide +kernel
theorem dL_state_47 : decode cL_state 47 = .ok (.if_icmp .ge 25, 3) := by decide +kernel
theorem dL_state_50 : decode cL_state 50 = .ok (.lload_n 1, 1) := by decide +kernel
theorem dL_state_51 : decode cL_state 51 = .ok (.aload_n 0, 1) := by decide +kernel
theorem dL_state_52 : decode cL_state 52 = .ok (.iload_n 3, 1) := by decide +kernel
theorem dL_state_53 : decode cL_state 53 = .ok (.iconst 4, 1) := by decide +kernel
theorem dL_state_54 : decode cL_state 54 = .ok (.idiv, 1) := by decide +kernel
theorem dL_state_55 : decode cL_state 55 = .ok (.iload_n 3, 1) := by decide +kernel
theorem dL_state_56 : decode cL_state 56 = .ok (.iconst 4, 1) := by decide +kernel
theorem dL_state_57 : decode cL_state 57 = .ok (.irem, 1) := by decide +kernel
theorem dL_state_58 : decode cL_state 58 = .ok (.invokevirtual 25, 3) := by decide +kernel
theorem dL_state_61 : decode cL_state 61 = .ok (.i2l, 1) := by decide +kernel
theorem dL_state_62 : decode cL_state 62 = .ok (.invokestatic 19, 3) := by decide +kernel
theorem dL_state_65 : decode cL_state 65 = .ok (.lstore_n 1, 1) := by decide +kernel
theorem dL_state_66 : decode cL_state 66 = .ok (.iinc 3 1, 3) := by decide +kernel
theorem dL_state_69 : decode cL_state 69 = .ok (.goto (-26), 3) := by decide +kernel
theorem dL_state_72 : decode cL_state 72 = .ok (.lload_n 1, 1) := by decide +kernel
theorem dL_state_73 : decode cL_state 73 = .ok (.lreturn, 1) := by decide +kernel
theorem dL_refused_0 : decode cL_refused 0 = .ok (.aload_n 0, 1) := by decide +kernel
theorem dL_refused_1 : decode cL_refused 1 = .ok (.invokestatic 29, 3) := by decide +kernel
theorem dL_refused_4 : decode cL_refused 4 = .ok (.aload_n 0, 1) := by decide +kernel
theorem dL_refused_5 : decode cL_refused 5 = .ok (.bipush 8, 2) := by decide +kernel
theorem dL_refused_7 : decode cL_refused 7 = .ok (.invokevirtual 13, 3) := by decide +kernel
theorem dL_refused_10 : decode cL_refused 10 = .ok (.i2l, 1) := by decide +kernel
theorem dL_refused_11 : decode cL_refused 11 = .ok (.invokestatic 19, 3) := by decide +kernel
theorem dL_refused_14 : decode cL_refused 14 = .ok (.aload_n 0, 1) := by decide +kernel
theorem dL_refused_15 : decode cL_refused 15 = .ok (.bipush 9, 2) := by decide +kernel
theorem dL_refused_17 : decode cL_refused 17 = .ok (.invokevirtual 13, 3) := by decide +kernel
theorem dL_refused_20 : decode cL_refused 20 = .ok (.i2l, 1) := by decide +kernel
theorem dL_refused_21 : decode cL_refused 21 = .ok (.invokestatic 19, 3) := by decide +kernel
theorem dL_refused_24 : decode cL_refused 24 = .ok (.lstore_n 1, 1) := by decide +kernel
theorem dL_refused_25 : decode cL_refused 25 = .ok (.iconst 0, 1) := by decide +kernel
theorem dL_refused_26 : decode cL_refused 26 = .ok (.istore_n 3, 1) := by decide +kernel
theorem dL_refused_27 : decode cL_refused 27 = .ok (.iload_n 3, 1) := by decide +kernel
theorem dL_refused_28 : decode cL_refused 28 = .ok (.iconst 2, 1) := by decide +kernel
theorem dL_refused_29 : decode cL_refused 29 = .ok (.if_icmp .ge 200, 3) := by decide +kernel
theorem dL_refused_32 : decode cL_refused 32 = .ok (.iload_n 3, 1) := by decide +kernel
theorem dL_refused_33 : decode cL_refused 33 = .ok (.ifCond .ne 8, 3) := by decide +kernel
theorem dL_refused_36 : decode cL_refused 36 = .ok (.bipush 36, 2) := by decide +kernel
theorem dL_refused_38 : decode cL_refused 38 = .ok (.goto 4, 3) := by decide +kernel
theorem dL_refused_41 : decode cL_refused 41 = .ok (.iconst (-1), 1) := by decide +kernel
theorem dL_refused_42 : decode cL_refused 42 = .ok (.istore 4, 2) := by decide +kernel
theorem dL_refused_44 : decode cL_refused 44 = .ok (.aload_n 0, 1) := by decide +kernel
theorem dL_refused_45 : decode cL_refused 45 = .ok (.iload 4, 2) := by decide +kernel
theorem dL_refused_47 : decode cL_refused 47 = .ok (.iconst 0, 1) := by decide +kernel
theorem dL_refused_48 : decode cL_refused 48 = .ok (.iconst 0, 1) := by decide +kernel
theorem dL_refused_49 : decode cL_refused 49 = .ok (.iconst 0, 1) := by decide +kernel
theorem dL_refused_50 : decode cL_refused 50 = .ok (.invokevirtual 33, 3) := by decide +kernel
theorem dL_refused_53 : decode cL_refused 53 = .ok (.iconst (-1), 1) := by decide +kernel
theorem dL_refused_54 : decode cL_refused 54 = .ok (.if_icmp .ne 112, 3) := by decide +kernel
theorem dL_refused_57 : decode cL_refused 57 = .ok (.aload_n 0, 1) := by decide +kernel
theorem dL_refused_58 : decode cL_refused 58 = .ok (.iload 4, 2) := by decide +kernel
theorem dL_refused_60 : decode cL_refused 60 = .ok (.invokevirtual 37, 3) := by decide +kernel
theorem dL_refused_63 : decode cL_refused 63 = .ok (.iconst (-1), 1) := by decide +kernel
theorem dL_refused_64 : decode cL_refused 64 = .ok (.if_icmp .ne 102, 3) := by decide +kernel
theorem dL_refused_67 : decode cL_refused 67 = .ok (.aload_n 0, 1) := by decide +kernel
theorem dL_refused_68 : decode cL_refused 68 = .ok (.iload 4, 2) := by decide +kernel
theorem dL_refused_70 : decode cL_refused 70 = .ok (.iconst 0, 1) := by decide +kernel
theorem dL_refused_71 : decode cL_refused 71 = .ok (.invokevirtual 25, 3) := by decide +kernel
theorem dL_refused_74 : decode cL_refused 74 = .ok (.iconst (-1), 1) := by decide +kernel
theorem dL_refused_75 : decode cL_refused 75 = .ok (.if_icmp .ne 91, 3) := by decide +kernel
theorem dL_refused_78 : decode cL_refused 78 = .ok (.aload_n 0, 1) := by decide +kernel
theorem dL_refused_79 : decode cL_refused 79 = .ok (.iload 4, 2) := by decide +kernel
theorem dL_refused_81 : decode cL_refused 81 = .ok (.iconst 0, 1) := by decide +kernel
theorem dL_refused_82 : decode cL_refused 82 = .ok (.invokevirtual 40, 3) := by decide +kernel
theorem dL_refused_85 : decode cL_refused 85 = .ok (.iconst (-1), 1) := by decide +kernel
theorem dL_refused_86 : decode cL_refused 86 = .ok (.if_icmp .ne 80, 3) := by decide +kernel
theorem dL_refused_89 : decode cL_refused 89 = .ok (.aload_n 0, 1) := by decide +kernel
theorem dL_refused_90 : decode cL_refused 90 = .ok (.iconst 0, 1) := by decide +kernel
theorem dL_refused_91 : decode cL_refused 91 = .ok (.iload 4, 2) := by decide +kernel
theorem dL_refused_93 : decode cL_refused 93 = .ok (.invokevirtual 40, 3) := by decide +kernel
theorem dL_refused_96 : decode cL_refused 96 = .ok (.iconst (-1), 1) := by decide +kernel
theorem dL_refused_97 : decode cL_refused 97 = .ok (.if_icmp .ne 69, 3) := by decide +kernel
theorem dL_refused_100 : decode cL_refused 100 = .ok (.aload_n 0, 1) := by decide +kernel
theorem dL_refused_101 : decode cL_refused 101 = .ok (.iload 4, 2) := by decide +kernel
theorem dL_refused_103 : decode cL_refused 103 = .ok (.iconst 0, 1) := by decide +kernel
theorem dL_refused_104 : decode cL_refused 104 = .ok (.invokevirtual 43, 3) := by decide +kernel
theorem dL_refused_107 : decode cL_refused 107 = .ok (.iconst (-1), 1) := by decide +kernel
theorem dL_refused_108 : decode cL_refused 108 = .ok (.if_icmp .ne 58, 3) := by decide +kernel
theorem dL_refused_111 : decode cL_refused 111 = .ok (.aload_n 0, 1) := by decide +kernel
theorem dL_refused_112 : decode cL_refused 112 = .ok (.iconst 0, 1) := by decide +kernel
theorem dL_refused_113 : decode cL_refused 113 = .ok (.iload 4, 2) := by decide +kernel
theorem dL_refused_115 : decode cL_refused 115 = .ok (.invokevirtual 43, 3) := by decide +kernel
theorem dL_refused_118 : decode cL_refused 118 = .ok (.iconst (-1), 1) := by decide +kernel
theorem dL_refused_119 : decode cL_refused 119 = .ok (.if_icmp .ne 47, 3) := by decide +kernel
theorem dL_refused_122 : decode cL_refused 122 = .ok (.aload_n 0, 1) := by decide +kernel
theorem dL_refused_123 : decode cL_refused 123 = .ok (.iload 4, 2) := by decide +kernel
theorem dL_refused_125 : decode cL_refused 125 = .ok (.iconst 0, 1) := by decide +kernel
theorem dL_refused_126 : decode cL_refused 126 = .ok (.invokevirtual 46, 3) := by decide +kernel
theorem dL_refused_129 : decode cL_refused 129 = .ok (.iconst (-1), 1) := by decide +kernel
theorem dL_refused_130 : decode cL_refused 130 = .ok (.if_icmp .ne 36, 3) := by decide +kernel
theorem dL_refused_133 : decode cL_refused 133 = .ok (.aload_n 0, 1) := by decide +kernel
theorem dL_refused_134 : decode cL_refused 134 = .ok (.iconst 0, 1) := by decide +kernel
theorem dL_refused_135 : decode cL_refused 135 = .ok (.iload 4, 2) := by decide +kernel
theorem dL_refused_137 : decode cL_refused 137 = .ok (.invokevirtual 46, 3) := by decide +kernel
theorem dL_refused_140 : decode cL_refused 140 = .ok (.iconst (-1), 1) := by decide +kernel
theorem dL_refused_141 : decode cL_refused 141 = .ok (.if_icmp .ne 25, 3) := by decide +kernel
theorem dL_refused_144 : decode cL_refused 144 = .ok (.aload_n 0, 1) := by decide +kernel
theorem dL_refused_145 : decode cL_refused 145 = .ok (.iload 4, 2) := by decide +kernel
theorem dL_refused_147 : decode cL_refused 147 = .ok (.iconst 0, 1) := by decide +kernel
theorem dL_refused_148 : decode cL_refused 148 = .ok (.invokevirtual 49, 3) := by decide +kernel
theorem dL_refused_151 : decode cL_refused 151 = .ok (.iconst (-1), 1) := by decide +kernel
theorem dL_refused_152 : decode cL_refused 152 = .ok (.if_icmp .ne 14, 3) := by decide +kernel
theorem dL_refused_155 : decode cL_refused 155 = .ok (.aload_n 0, 1) := by decide +kernel
theorem dL_refused_156 : decode cL_refused 156 = .ok (.iload 4, 2) := by decide +kernel
theorem dL_refused_158 : decode cL_refused 158 = .ok (.iconst 0, 1) := by decide +kernel
theorem dL_refused_159 : decode cL_refused 159 = .ok (.invokevirtual 52, 3) := by decide +kernel
theorem dL_refused_162 : decode cL_refused 162 = .ok (.iconst (-1), 1) := by decide +kernel
theorem dL_refused_163 : decode cL_refused 163 = .ok (.if_icmp .eq 5, 3) := by decide +kernel
theorem dL_refused_166 : decode cL_refused 166 = .ok (.iconst 0, 1) := by decide +kernel
theorem dL_refused_167 : decode cL_refused 167 = .ok (.ireturn, 1) := by decide +kernel
theorem dL_refused_168 : decode cL_refused 168 = .ok (.iload_n 3, 1) := by decide +kernel
theorem dL_refused_169 : decode cL_refused 169 = .ok (.ifCond .ne 7, 3) := by decide +kernel
theorem dL_refused_172 : decode cL_refused 172 = .ok (.iconst 2, 1) := by decide +kernel
theorem dL_refused_173 : decode cL_refused 173 = .ok (.goto 4, 3) := by decide +kernel
theorem dL_refused_176 : decode cL_refused 176 = .ok (.iconst (-1), 1) := by decide +kernel
theorem dL_refused_177 : decode cL_refused 177 = .ok (.istore 5, 2) := by decide +kernel
theorem dL_refused_179 : decode cL_refused 179 = .ok (.aload_n 0, 1) := by decide +kernel
theorem dL_refused_180 : decode cL_refused 180 = .ok (.iload 5, 2) := by decide +kernel
theorem dL_refused_182 : decode cL_refused 182 = .ok (.invokevirtual 55, 3) := by decide +kernel
theorem dL_refused_185 : decode cL_refused 185 = .ok (.iconst (-1), 1) := by decide +kernel
theorem dL_refused_186 : decode cL_refused 186 = .ok (.if_icmp .ne 35, 3) := by decide +kernel
theorem dL_refused_189 : decode cL_refused 189 = .ok (.aload_n 0, 1) := by decide +kernel
theorem dL_refused_190 : decode cL_refused 190 = .ok (.iload 5, 2) := by decide +kernel
theorem dL_refused_192 : decode cL_refused 192 = .ok (.iconst 0, 1) := by decide +kernel
theorem dL_refused_193 : decode cL_refused 193 = .ok (.invokevirtual 58, 3) := by decide +kernel
theorem dL_refused_196 : decode cL_refused 196 = .ok (.iconst (-1), 1) := by decide +kernel
theorem dL_refused_197 : decode cL_refused 197 = .ok (.if_icmp .ne 24, 3) := by decide +kernel
theorem dL_refused_200 : decode cL_refused 200 = .ok (.aload_n 0, 1) := by decide +kernel
theorem dL_refused_201 : decode cL_refused 201 = .ok (.iconst 0, 1) := by decide +kernel
theorem dL_refused_202 : decode cL_refused 202 = .ok (.iload 5, 2) := by decide +kernel
theorem dL_refused_204 : decode cL_refused 204 = .ok (.invokevirtual 49, 3) := by decide +kernel
theorem dL_refused_207 : decode cL_refused 207 = .ok (.iconst (-1), 1) := by decide +kernel
theorem dL_refused_208 : decode cL_refused 208 = .ok (.if_icmp .ne 13, 3) := by decide +kernel
theorem dL_refused_211 : decode cL_refused 211 = .ok (.aload_n 0, 1) := by decide +kernel
theorem dL_refused_212 : decode cL_refused 212 = .ok (.iload 5, 2) := by decide +kernel
theorem dL_refused_214 : decode cL_refused 214 = .ok (.invokevirtual 61, 3) := by decide +kernel
theorem dL_refused_217 : decode cL_refused 217 = .ok (.iconst (-1), 1) := by decide +kernel
theorem dL_refused_218 : decode cL_refused 218 = .ok (.if_icmp .eq 5, 3) := by decide +kernel
theorem dL_refused_221 : decode cL_refused 221 = .ok (.iconst 0, 1) := by decide +kernel
theorem dL_refused_222 : decode cL_refused 222 = .ok (.ireturn, 1) := by decide +kernel
theorem dL_refused_223 : decode cL_refused 223 = .ok (.iinc 3 1, 3) := by decide +kernel
theorem dL_refused_226 : decode cL_refused 226 = .ok (.goto (-199), 3) := by decide +kernel
theorem dL_refused_229 : decode cL_refused 229 = .ok (.aload_n 0, 1) := by decide +kernel
theorem dL_refused_230 : decode cL_refused 230 = .ok (.iconst 0, 1) := by decide +kernel
theorem dL_refused_231 : decode cL_refused 231 = .ok (.iconst 2, 1) := by decide +kernel
theorem dL_refused_232 : decode cL_refused 232 = .ok (.iconst 0, 1) := by decide +kernel
theorem dL_refused_233 : decode cL_refused 233 = .ok (.iconst 0, 1) := by decide +kernel
theorem dL_refused_234 : decode cL_refused 234 = .ok (.invokevirtual 33, 3) := by decide +kernel
theorem dL_refused_237 : decode cL_refused 237 = .ok (.iconst (-1), 1) := by decide +kernel
theorem dL_refused_238 : decode cL_refused 238 = .ok (.if_icmp .ne 154, 3) := by decide +kernel
theorem dL_refused_241 : decode cL_refused 241 = .ok (.aload_n 0, 1) := by decide +kernel
theorem dL_refused_242 : decode cL_refused 242 = .ok (.iconst 0, 1) := by decide +kernel
theorem dL_refused_243 : decode cL_refused 243 = .ok (.bipush (-2), 2) := by decide +kernel
theorem dL_refused_245 : decode cL_refused 245 = .ok (.iconst 0, 1) := by decide +kernel
theorem dL_refused_246 : decode cL_refused 246 = .ok (.iconst 0, 1) := by decide +kernel
theorem dL_refused_247 : decode cL_refused 247 = .ok (.invokevirtual 33, 3) := by decide +kernel
theorem dL_refused_250 : decode cL_refused 250 = .ok (.iconst (-1), 1) := by decide +kernel
theorem dL_refused_251 : decode cL_refused 251 = .ok (.if_icmp .ne 141, 3) := by decide +kernel
theorem dL_refused_254 : decode cL_refused 254 = .ok (.aload_n 0, 1) := by decide +kernel
theorem dL_refused_255 : decode cL_refused 255 = .ok (.iconst 0, 1) := by decide +kernel
theorem dL_refused_256 : decode cL_refused 256 = .ok (.iconst 0, 1) := by decide +kernel
theorem dL_refused_257 : decode cL_refused 257 = .ok (.iconst 5, 1) := by decide +kernel
theorem dL_refused_258 : decode cL_refused 258 = .ok (.iconst 0, 1) := by decide +kernel
theorem dL_refused_259 : decode cL_refused 259 = .ok (.invokevirtual 33, 3) := by decide +kernel
theorem dL_refused_262 : decode cL_refused 262 = .ok (.iconst (-1), 1) := by decide +kernel
theorem dL_refused_263 : decode cL_refused 263 = .ok (.if_icmp .ne 129, 3) := by decide +kernel
theorem dL_refused_266 : decode cL_refused 266 = .ok (.aload_n 0, 1) := by decide +kernel
theorem dL_refused_267 : decode cL_refused 267 = .ok (.iconst 0, 1) := by decide +kernel
theorem dL_refused_268 : decode cL_refused 268 = .ok (.iconst (-1), 1) := by decide +kernel
theorem dL_refused_269 : decode cL_refused 269 = .ok (.iconst (-1), 1) := by decide +kernel
theorem dL_refused_270 : decode cL_refused 270 = .ok (.iconst 0, 1) := by decide +kernel
theorem dL_refused_271 : decode cL_refused 271 = .ok (.invokevirtual 33, 3) := by decide +kernel
theorem dL_refused_274 : decode cL_refused 274 = .ok (.iconst (-1), 1) := by decide +kernel
theorem dL_refused_275 : decode cL_refused 275 = .ok (.if_icmp .ne 117, 3) := by decide +kernel
theorem dL_refused_278 : decode cL_refused 278 = .ok (.aload_n 0, 1) := by decide +kernel
theorem dL_refused_279 : decode cL_refused 279 = .ok (.iconst 0, 1) := by decide +kernel
theorem dL_refused_280 : decode cL_refused 280 = .ok (.iconst 0, 1) := by decide +kernel
theorem dL_refused_281 : decode cL_refused 281 = .ok (.iconst 0, 1) := by decide +kernel
theorem dL_refused_282 : decode cL_refused 282 = .ok (.aload_n 0, 1) := by decide +kernel
theorem dL_refused_283 : decode cL_refused 283 = .ok (.bipush 10, 2) := by decide +kernel
theorem dL_refused_285 : decode cL_refused 285 = .ok (.invokevirtual 13, 3) := by decide +kernel
theorem dL_refused_288 : decode cL_refused 288 = .ok (.iconst 1, 1) := by decide +kernel
theorem dL_refused_289 : decode cL_refused 289 = .ok (.iadd, 1) := by decide +kernel
theorem dL_refused_290 : decode cL_refused 290 = .ok (.invokevirtual 33, 3) := by decide +kernel
theorem dL_refused_293 : decode cL_refused 293 = .ok (.iconst (-1), 1) := by decide +kernel
theorem dL_refused_294 : decode cL_refused 294 = .ok (.if_icmp .ne 98, 3) := by decide +kernel
theorem dL_refused_297 : decode cL_refused 297 = .ok (.aload_n 0, 1) := by decide +kernel
theorem dL_refused_298 : decode cL_refused 298 = .ok (.iconst 0, 1) := by decide +kernel
theorem dL_refused_299 : decode cL_refused 299 = .ok (.iconst (-1), 1) := by decide +kernel
theorem dL_refused_300 : decode cL_refused 300 = .ok (.iconst 0, 1) := by decide +kernel
theorem dL_refused_301 : decode cL_refused 301 = .ok (.iconst (-1), 1) := by decide +kernel
theorem dL_refused_302 : decode cL_refused 302 = .ok (.invokevirtual 33, 3) := by decide +kernel
theorem dL_refused_305 : decode cL_refused 305 = .ok (.iconst (-1), 1) := by decide +kernel
theorem dL_refused_306 : decode cL_refused 306 = .ok (.if_icmp .ne 86, 3) := by decide +kernel
theorem dL_refused_309 : decode cL_refused 309 = .ok (.aload_n 0, 1) := by decide +kernel
theorem dL_refused_310 : decode cL_refused 310 = .ok (.iconst (-1), 1) := by decide +kernel
theorem dL_refused_311 : decode cL_refused 311 = .ok (.iconst 1, 1) := by decide +kernel
theorem dL_refused_312 : decode cL_refused 312 = .ok (.invokevirtual 64, 3) := by decide +kernel
theorem dL_refused_315 : decode cL_refused 315 = .ok (.iconst (-1), 1) := by decide +kernel
theorem dL_refused_316 : decode cL_refused 316 = .ok (.if_icmp .ne 76, 3) := by decide +kernel
theorem dL_refused_319 : decode cL_refused 319 = .ok (.aload_n 0, 1) := by decide +kernel
theorem dL_refused_320 : decode cL_refused 320 = .ok (.iconst 3, 1) := by decide +kernel
theorem dL_refused_321 : decode cL_refused 321 = .ok (.iconst 1, 1) := by decide +kernel
theorem dL_refused_322 : decode cL_refused 322 = .ok (.invokevirtual 64, 3) := by decide +kernel
theorem dL_refused_325 : decode cL_refused 325 = .ok (.iconst (-1), 1) := by decide +kernel
theorem dL_refused_326 : decode cL_refused 326 = .ok (.if_icmp .ne 66, 3) := by decide +kernel
theorem dL_refused_329 : decode cL_refused 329 = .ok (.aload_n 0, 1) := by decide +kernel
theorem dL_refused_330 : decode cL_refused 330 = .ok (.iconst 0, 1) := by decide +kernel
theorem dL_refused_331 : decode cL_refused 331 = .ok (.iconst 0, 1) := by decide +kernel
theorem dL_refused_332 : decode cL_refused 332 = .ok (.invokevirtual 64, 3) := by decide +kernel
theorem dL_refused_335 : decode cL_refused 335 = .ok (.iconst (-1), 1) := by decide +kernel
theorem dL_refused_336 : decode cL_refused 336 = .ok (.if_icmp .ne 56, 3) := by decide +kernel
theorem dL_refused_339 : decode cL_refused 339 = .ok (.aload_n 0, 1) := by decide +kernel
theorem dL_refused_340 : decode cL_refused 340 = .ok (.iconst 0, 1) := by decide +kernel
theorem dL_refused_341 : decode cL_refused 341 = .ok (.bipush 13, 2) := by decide +kernel
theorem dL_refused_343 : decode cL_refused 343 = .ok (.invokevirtual 64, 3) := by decide +kernel
theorem dL_refused_346 : decode cL_refused 346 = .ok (.iconst (-1), 1) := by decide +kernel
theorem dL_refused_347 : decode cL_refused 347 = .ok (.if_icmp .ne 45, 3) := by decide +kernel
theorem dL_refused_350 : decode cL_refused 350 = .ok (.aload_n 0, 1) := by decide +kernel
theorem dL_refused_351 : decode cL_refused 351 = .ok (.iconst 1, 1) := by decide +kernel
theorem dL_refused_352 : decode cL_refused 352 = .ok (.bipush 6, 2) := by decide +kernel
theorem dL_refused_354 : decode cL_refused 354 = .ok (.invokevirtual 64, 3) := by decide +kernel
theorem dL_refused_357 : decode cL_refused 357 = .ok (.iconst (-1), 1) := by decide +kernel
theorem dL_refused_358 : decode cL_refused 358 = .ok (.if_icmp .ne 34, 3) := by decide +kernel
theorem dL_refused_361 : decode cL_refused 361 = .ok (.aload_n 0, 1) := by decide +kernel
theorem dL_refused_362 : decode cL_refused 362 = .ok (.iconst 1, 1) := by decide +kernel
theorem dL_refused_363 : decode cL_refused 363 = .ok (.iconst (-1), 1) := by decide +kernel
theorem dL_refused_364 : decode cL_refused 364 = .ok (.invokevirtual 64, 3) := by decide +kernel
theorem dL_refused_367 : decode cL_refused 367 = .ok (.iconst (-1), 1) := by decide +kernel
theorem dL_refused_368 : decode cL_refused 368 = .ok (.if_icmp .ne 24, 3) := by decide +kernel
theorem dL_refused_371 : decode cL_refused 371 = .ok (.aload_n 0, 1) := by decide +kernel
theorem dL_refused_372 : decode cL_refused 372 = .ok (.iconst 2, 1) := by decide +kernel
theorem dL_refused_373 : decode cL_refused 373 = .ok (.bipush 6, 2) := by decide +kernel
theorem dL_refused_375 : decode cL_refused 375 = .ok (.invokevirtual 64, 3) := by decide +kernel
theorem dL_refused_378 : decode cL_refused 378 = .ok (.iconst (-1), 1) := by decide +kernel
theorem dL_refused_379 : decode cL_refused 379 = .ok (.if_icmp .ne 13, 3) := by decide +kernel
theorem dL_refused_382 : decode cL_refused 382 = .ok (.aload_n 0, 1) := by decide +kernel
theorem dL_refused_383 : decode cL_refused 383 = .ok (.iconst 2, 1) := by decide +kernel
theorem dL_refused_384 : decode cL_refused 384 = .ok (.iconst (-1), 1) := by decide +kernel
theorem dL_refused_385 : decode cL_refused 385 = .ok (.invokevirtual 64, 3) := by decide +kernel
theorem dL_refused_388 : decode cL_refused 388 = .ok (.iconst (-1), 1) := by decide +kernel
theorem dL_refused_389 : decode cL_refused 389 = .ok (.if_icmp .eq 5, 3) := by decide +kernel
theorem dL_refused_392 : decode cL_refused 392 = .ok (.iconst 0, 1) := by decide +kernel
theorem dL_refused_393 : decode cL_refused 393 = .ok (.ireturn, 1) := by decide +kernel
theorem dL_refused_394 : decode cL_refused 394 = .ok (.aload_n 0, 1) := by decide +kernel
theorem dL_refused_395 : decode cL_refused 395 = .ok (.iconst 0, 1) := by decide +kernel
theorem dL_refused_396 : decode cL_refused 396 = .ok (.iconst 5, 1) := by decide +kernel
theorem dL_refused_397 : decode cL_refused 397 = .ok (.invokevirtual 25, 3) := by decide +kernel
theorem dL_refused_400 : decode cL_refused 400 = .ok (.iconst (-1), 1) := by decide +kernel
theorem dL_refused_401 : decode cL_refused 401 = .ok (.if_icmp .ne 116, 3) := by decide +kernel
theorem dL_refused_404 : decode cL_refused 404 = .ok (.aload_n 0, 1) := by decide +kernel
theorem dL_refused_405 : decode cL_refused 405 = .ok (.iconst 0, 1) := by decide +kernel
theorem dL_refused_406 : decode cL_refused 406 = .ok (.iconst (-1), 1) := by decide +kernel
theorem dL_refused_407 : decode cL_refused 407 = .ok (.invokevirtual 25, 3) := by decide +kernel
theorem dL_refused_410 : decode cL_refused 410 = .ok (.iconst (-1), 1) := by decide +kernel
theorem dL_refused_411 : decode cL_refused 411 = .ok (.if_icmp .ne 106, 3) := by decide +kernel
theorem dL_refused_414 : decode cL_refused 414 = .ok (.aload_n 0, 1) := by decide +kernel
theorem dL_refused_415 : decode cL_refused 415 = .ok (.iconst (-1), 1) := by decide +kernel
theorem dL_refused_416 : decode cL_refused 416 = .ok (.invokevirtual 13, 3) := by decide +kernel
theorem dL_refused_419 : decode cL_refused 419 = .ok (.iconst (-1), 1) := by decide +kernel
theorem dL_refused_420 : decode cL_refused 420 = .ok (.if_icmp .ne 97, 3) := by decide +kernel
theorem dL_refused_423 : decode cL_refused 423 = .ok (.aload_n 0, 1) := by decide +kernel
theorem dL_refused_424 : decode cL_refused 424 = .ok (.bipush 13, 2) := by decide +kernel
theorem dL_refused_426 : decode cL_refused 426 = .ok (.invokevirtual 13, 3) := by decide +kernel
theorem dL_refused_429 : decode cL_refused 429 = .ok (.iconst (-1), 1) := by decide +kernel
theorem dL_refused_430 : decode cL_refused 430 = .ok (.if_icmp .ne 87, 3) := by decide +kernel
theorem dL_refused_433 : decode cL_refused 433 = .ok (.aload_n 0, 1) := by decide +kernel
theorem dL_refused_434 : decode cL_refused 434 = .ok (.bipush 19, 2) := by decide +kernel
theorem dL_refused_436 : decode cL_refused 436 = .ok (.invokevirtual 13, 3) := by decide +kernel
theorem dL_refused_439 : decode cL_refused 439 = .ok (.iconst (-1), 1) := by decide +kernel
theorem dL_refused_440 : decode cL_refused 440 = .ok (.if_icmp .ne 77, 3) := by decide +kernel
theorem dL_refused_443 : decode cL_refused 443 = .ok (.aload_n 0, 1) := by decide +kernel
theorem dL_refused_444 : decode cL_refused 444 = .ok (.bipush 27, 2) := by decide +kernel
theorem dL_refused_446 : decode cL_refused 446 = .ok (.invokevirtual 13, 3) := by decide +kernel
theorem dL_refused_449 : decode cL_refused 449 = .ok (.iconst (-1), 1) := by decide +kernel
theorem dL_refused_450 : decode cL_refused 450 = .ok (.if_icmp .ne 67, 3) := by decide +kernel
theorem dL_refused_453 : decode cL_refused 453 = .ok (.aload_n 0, 1) := by decide +kernel
theorem dL_refused_454 : decode cL_refused 454 = .ok (.iconst 0, 1) := by decide +kernel
theorem dL_refused_455 : decode cL_refused 455 = .ok (.iconst (-1), 1) := by decide +kernel
theorem dL_refused_456 : decode cL_refused 456 = .ok (.invokevirtual 58, 3) := by decide +kernel
theorem dL_refused_459 : decode cL_refused 459 = .ok (.iconst (-1), 1) := by decide +kernel
theorem dL_refused_460 : decode cL_refused 460 = .ok (.if_icmp .ne 57, 3) := by decide +kernel
theorem dL_refused_463 : decode cL_refused 463 = .ok (.aload_n 0, 1) := by decide +kernel
theorem dL_refused_464 : decode cL_refused 464 = .ok (.iconst 0, 1) := by decide +kernel
theorem dL_refused_465 : decode cL_refused 465 = .ok (.sipush 500, 3) := by decide +kernel
theorem dL_refused_468 : decode cL_refused 468 = .ok (.invokevirtual 58, 3) := by decide +kernel
theorem dL_refused_471 : decode cL_refused 471 = .ok (.bipush (-4), 2) := by decide +kernel
theorem dL_refused_473 : decode cL_refused 473 = .ok (.if_icmp .ne 44, 3) := by decide +kernel
theorem dL_refused_476 : decode cL_refused 476 = .ok (.aload_n 0, 1) := by decide +kernel
theorem dL_refused_477 : decode cL_refused 477 = .ok (.iconst 0, 1) := by decide +kernel
theorem dL_refused_478 : decode cL_refused 478 = .ok (.iconst (-1), 1) := by decide +kernel
theorem dL_refused_479 : decode cL_refused 479 = .ok (.invokevirtual 52, 3) := by decide +kernel
theorem dL_refused_482 : decode cL_refused 482 = .ok (.iconst (-1), 1) := by decide +kernel
theorem dL_refused_483 : decode cL_refused 483 = .ok (.if_icmp .ne 34, 3) := by decide +kernel
theorem dL_refused_486 : decode cL_refused 486 = .ok (.aload_n 0, 1) := by decide +kernel
theorem dL_refused_487 : decode cL_refused 487 = .ok (.iconst 0, 1) := by decide +kernel
theorem dL_refused_488 : decode cL_refused 488 = .ok (.bipush 13, 2) := by decide +kernel
theorem dL_refused_490 : decode cL_refused 490 = .ok (.invokevirtual 52, 3) := by decide +kernel
theorem dL_refused_493 : decode cL_refused 493 = .ok (.iconst (-1), 1) := by decide +kernel
theorem dL_refused_494 : decode cL_refused 494 = .ok (.if_icmp .ne 23, 3) := by decide +kernel
theorem dL_refused_497 : decode cL_refused 497 = .ok (.aload_n 0, 1) := by decide +kernel
theorem dL_refused_498 : decode cL_refused 498 = .ok (.bipush 31, 2) := by decide +kernel
theorem dL_refused_500 : decode cL_refused 500 = .ok (.invokevirtual 67, 3) := by decide +kernel
theorem dL_refused_503 : decode cL_refused 503 = .ok (.iconst (-1), 1) := by decide +kernel
theorem dL_refused_504 : decode cL_refused 504 = .ok (.if_icmp .ne 13, 3) := by decide +kernel
theorem dL_refused_507 : decode cL_refused 507 = .ok (.aload_n 0, 1) := by decide +kernel
theorem dL_refused_508 : decode cL_refused 508 = .ok (.bipush 127, 2) := by decide +kernel
theorem dL_refused_510 : decode cL_refused 510 = .ok (.invokevirtual 67, 3) := by decide +kernel
theorem dL_refused_513 : decode cL_refused 513 = .ok (.iconst (-1), 1) := by decide +kernel
theorem dL_refused_514 : decode cL_refused 514 = .ok (.if_icmp .eq 5, 3) := by decide +kernel
theorem dL_refused_517 : decode cL_refused 517 = .ok (.iconst 0, 1) := by decide +kernel
theorem dL_refused_518 : decode cL_refused 518 = .ok (.ireturn, 1) := by decide +kernel
theorem dL_refused_519 : decode cL_refused 519 = .ok (.aload_n 0, 1) := by decide +kernel
theorem dL_refused_520 : decode cL_refused 520 = .ok (.invokestatic 29, 3) := by decide +kernel
theorem dL_refused_523 : decode cL_refused 523 = .ok (.aload_n 0, 1) := by decide +kernel
theorem dL_refused_524 : decode cL_refused 524 = .ok (.bipush 8, 2) := by decide +kernel
theorem dL_refused_526 : decode cL_refused 526 = .ok (.invokevirtual 13, 3) := by decide +kernel
theorem dL_refused_529 : decode cL_refused 529 = .ok (.i2l, 1) := by decide +kernel
theorem dL_refused_530 : decode cL_refused 530 = .ok (.invokestatic 19, 3) := by decide +kernel
theorem dL_refused_533 : decode cL_refused 533 = .ok (.aload_n 0, 1) := by decide +kernel
theorem dL_refused_534 : decode cL_refused 534 = .ok (.bipush 9, 2) := by decide +kernel
theorem dL_refused_536 : decode cL_refused 536 = .ok (.invokevirtual 13, 3) := by decide +kernel
theorem dL_refused_539 : decode cL_refused 539 = .ok (.i2l, 1) := by decide +kernel
theorem dL_refused_540 : decode cL_refused 540 = .ok (.invokestatic 19, 3) := by decide +kernel
theorem dL_refused_543 : decode cL_refused 543 = .ok (.lload_n 1, 1) := by decide +kernel
theorem dL_refused_544 : decode cL_refused 544 = .ok (.lcmp, 1) := by decide +kernel
theorem dL_refused_545 : decode cL_refused 545 = .ok (.ifCond .ne 7, 3) := by decide +kernel
theorem dL_refused_548 : decode cL_refused 548 = .ok (.iconst 1, 1) := by decide +kernel
theorem dL_refused_549 : decode cL_refused 549 = .ok (.goto 4, 3) := by decide +kernel
theorem dL_refused_552 : decode cL_refused 552 = .ok (.iconst 0, 1) := by decide +kernel
theorem dL_refused_553 : decode cL_refused 553 = .ok (.ireturn, 1) := by decide +kernel
theorem dL_types_0 : decode cL_types 0 = .ok (.bipush 7, 2) := by decide +kernel
theorem dL_types_2 : decode cL_types 2 = .ok (.istore_n 3, 1) := by decide +kernel
theorem dL_types_3 : decode cL_types 3 = .ok (.iload_n 3, 1) := by decide +kernel
theorem dL_types_4 : decode cL_types 4 = .ok (.ifCond .lt 34, 3) := by decide +kernel
theorem dL_types_7 : decode cL_types 7 = .ok (.lload_n 1, 1) := by decide +kernel
theorem dL_types_8 : decode cL_types 8 = .ok (.bipush 8, 2) := by decide +kernel
theorem dL_types_10 : decode cL_types 10 = .ok (.iload_n 3, 1) := by decide +kernel
theorem dL_types_11 : decode cL_types 11 = .ok (.imul, 1) := by decide +kernel
theorem dL_types_12 : decode cL_types 12 = .ok (.lshr, 1) := by decide +kernel
theorem dL_types_13 : decode cL_types 13 = .ok (.ldc2_w 70, 3) := by decide +kernel
theorem dL_types_16 : decode cL_types 16 = .ok (.land, 1) := by decide +kernel
theorem dL_types_17 : decode cL_types 17 = .ok (.l2i, 1) := by decide +kernel
theorem dL_types_18 : decode cL_types 18 = .ok (.istore 4, 2) := by decide +kernel
theorem dL_types_20 : decode cL_types 20 = .ok (.iload 4, 2) := by decide +kernel
theorem dL_types_22 : decode cL_types 22 = .ok (.ifCond .eq 10, 3) := by decide +kernel
theorem dL_types_25 : decode cL_types 25 = .ok (.aload_n 0, 1) := by decide +kernel
theorem dL_types_26 : decode cL_types 26 = .ok (.iload 4, 2) := by decide +kernel
theorem dL_types_28 : decode cL_types 28 = .ok (.invokevirtual 67, 3) := by decide +kernel
theorem dL_types_31 : decode cL_types 31 = .ok (.pop, 1) := by decide +kernel
theorem dL_types_32 : decode cL_types 32 = .ok (.iinc 3 (-1), 3) := by decide +kernel
theorem dL_types_35 : decode cL_types 35 = .ok (.goto (-32), 3) := by decide +kernel
theorem dL_types_38 : decode cL_types 38 = .ok (.return_, 1) := by decide +kernel
theorem dL_isFault_0 : decode cL_isFault 0 = .ok (.aload_n 0, 1) := by decide +kernel
theorem dL_isFault_1 : decode cL_isFault 1 = .ok (.invokevirtual 72, 3) := by decide +kernel
theorem dL_isFault_4 : decode cL_isFault 4 = .ok (.pop, 1) := by decide +kernel
theorem dL_isFault_5 : decode cL_isFault 5 = .ok (.aload_n 0, 1) := by decide +kernel
theorem dL_isFault_6 : decode cL_isFault 6 = .ok (.lload_n 1, 1) := by decide +kernel
theorem dL_isFault_7 : decode cL_isFault 7 = .ok (.invokestatic 76, 3) := by decide +kernel
theorem dL_isFault_10 : decode cL_isFault 10 = .ok (.aload_n 0, 1) := by decide +kernel
theorem dL_isFault_11 : decode cL_isFault 11 = .ok (.lload_n 3, 1) := by decide +kernel
theorem dL_isFault_12 : decode cL_isFault 12 = .ok (.invokestatic 76, 3) := by decide +kernel
theorem dL_isFault_15 : decode cL_isFault 15 = .ok (.aload_n 0, 1) := by decide +kernel
theorem dL_isFault_16 : decode cL_isFault 16 = .ok (.iconst 0, 1) := by decide +kernel
theorem dL_isFault_17 : decode cL_isFault 17 = .ok (.invokevirtual 61, 3) := by decide +kernel
theorem dL_isFault_20 : decode cL_isFault 20 = .ok (.iload 5, 2) := by decide +kernel
theorem dL_isFault_22 : decode cL_isFault 22 = .ok (.if_icmp .ne 17, 3) := by decide +kernel
theorem dL_isFault_25 : decode cL_isFault 25 = .ok (.aload_n 0, 1) := by decide +kernel
theorem dL_isFault_26 : decode cL_isFault 26 = .ok (.iconst 1, 1) := by decide +kernel
theorem dL_isFault_27 : decode cL_isFault 27 = .ok (.invokevirtual 61, 3) := by decide +kernel
theorem dL_isFault_30 : decode cL_isFault 30 = .ok (.iload 6, 2) := by decide +kernel
theorem dL_isFault_32 : decode cL_isFault 32 = .ok (.if_icmp .ne 7, 3) := by decide +kernel
theorem dL_isFault_35 : decode cL_isFault 35 = .ok (.iconst 1, 1) := by decide +kernel
theorem dL_isFault_36 : decode cL_isFault 36 = .ok (.goto 4, 3) := by decide +kernel
theorem dL_isFault_39 : decode cL_isFault 39 = .ok (.iconst 0, 1) := by decide +kernel
theorem dL_isFault_40 : decode cL_isFault 40 = .ok (.ireturn, 1) := by decide +kernel
theorem dL_texts_0 : decode cL_texts 0 = .ok (.new 14, 3) := by decide +kernel
theorem dL_texts_3 : decode cL_texts 3 = .ok (.dup, 1) := by decide +kernel
theorem dL_texts_4 : decode cL_texts 4 = .ok (.invokespecial 80, 3) := by decide +kernel
theorem dL_texts_7 : decode cL_texts 7 = .ok (.astore_n 0, 1) := by decide +kernel
theorem dL_texts_8 : decode cL_texts 8 = .ok (.aload_n 0, 1) := by decide +kernel
theorem dL_texts_9 : decode cL_texts 9 = .ok (.invokevirtual 81, 3) := by decide +kernel
theorem dL_texts_12 : decode cL_texts 12 = .ok (.ifCond .ne 13, 3) := by decide +kernel
theorem dL_texts_15 : decode cL_texts 15 = .ok (.aload_n 0, 1) := by decide +kernel
theorem dL_texts_16 : decode cL_texts 16 = .ok (.bipush 8, 2) := by decide +kernel
theorem dL_texts_18 : decode cL_texts 18 = .ok (.invokevirtual 13, 3) := by decide +kernel
theorem dL_texts_21 : decode cL_texts 21 = .ok (.iconst 1, 1) := by decide +kernel
theorem dL_texts_22 : decode cL_texts 22 = .ok (.if_icmp .eq 5, 3) := by decide +kernel
theorem dL_texts_25 : decode cL_texts 25 = .ok (.iconst 0, 1) := by decide +kernel
theorem dL_texts_26 : decode cL_texts 26 = .ok (.ireturn, 1) := by decide +kernel
theorem dL_texts_27 : decode cL_texts 27 = .ok (.aload_n 0, 1) := by decide +kernel
theorem dL_texts_28 : decode cL_texts 28 = .ok (.invokestatic 29, 3) := by decide +kernel
theorem dL_texts_31 : decode cL_texts 31 = .ok (.lstore_n 1, 1) := by decide +kernel
theorem dL_texts_32 : decode cL_texts 32 = .ok (.aload_n 0, 1) := by decide +kernel
theorem dL_texts_33 : decode cL_texts 33 = .ok (.ldc2_w 84, 3) := by decide +kernel
theorem dL_texts_36 : decode cL_texts 36 = .ok (.lconst 0, 1) := by decide +kernel
theorem dL_texts_37 : decode cL_texts 37 = .ok (.bipush (-4), 2) := by decide +kernel
theorem dL_texts_39 : decode cL_texts 39 = .ok (.bipush (-4), 2) := by decide +kernel
theorem dL_texts_41 : decode cL_texts 41 = .ok (.invokestatic 86, 3) := by decide +kernel
theorem dL_texts_44 : decode cL_texts 44 = .ok (.ifCond .eq 42, 3) := by decide +kernel
theorem dL_texts_47 : decode cL_texts 47 = .ok (.aload_n 0, 1) := by decide +kernel
theorem dL_texts_48 : decode cL_texts 48 = .ok (.lconst 0, 1) := by decide +kernel
theorem dL_texts_49 : decode cL_texts 49 = .ok (.lconst 0, 1) := by decide +kernel
theorem dL_texts_50 : decode cL_texts 50 = .ok (.bipush (-4), 2) := by decide +kernel
theorem dL_texts_52 : decode cL_texts 52 = .ok (.bipush (-4), 2) := by decide +kernel
theorem dL_texts_54 : decode cL_texts 54 = .ok (.invokestatic 86, 3) := by decide +kernel
theorem dL_texts_57 : decode cL_texts 57 = .ok (.ifCond .eq 29, 3) := by decide +kernel
theorem dL_texts_60 : decode cL_texts 60 = .ok (.aload_n 0, 1) := by decide +kernel
theorem dL_texts_61 : decode cL_texts 61 = .ok (.ldc2_w 90, 3) := by decide +kernel
theorem dL_texts_64 : decode cL_texts 64 = .ok (.lconst 0, 1) := by decide +kernel
theorem dL_texts_65 : decode cL_texts 65 = .ok (.iconst 0, 1) := by decide +kernel
theorem dL_texts_66 : decode cL_texts 66 = .ok (.iconst 1, 1) := by decide +kernel
theorem dL_texts_67 : decode cL_texts 67 = .ok (.invokestatic 86, 3) := by decide +kernel
theorem dL_texts_70 : decode cL_texts 70 = .ok (.ifCond .eq 16, 3) := by decide +kernel
theorem dL_texts_73 : decode cL_texts 73 = .ok (.aload_n 0, 1) := by decide +kernel
theorem dL_texts_74 : decode cL_texts 74 = .ok (.ldc2_w 92, 3) := by decide +kernel
theorem dL_texts_77 : decode cL_texts 77 = .ok (.lconst 0, 1) := by decide +kernel
theorem dL_texts_78 : decode cL_texts 78 = .ok (.iconst 0, 1) := by decide +kernel
theorem dL_texts_79 : decode cL_texts 79 = .ok (.iconst 1, 1) := by decide +kernel
theorem dL_texts_80 : decode cL_texts 80 = .ok (.invokestatic 86, 3) := by decide +kernel
theorem dL_texts_83 : decode cL_texts 83 = .ok (.ifCond .ne 5, 3) := by decide +kernel
theorem dL_texts_86 : decode cL_texts 86 = .ok (.iconst 0, 1) := by decide +kernel
theorem dL_texts_87 : decode cL_texts 87 = .ok (.ireturn, 1) := by decide +kernel
theorem dL_texts_88 : decode cL_texts 88 = .ok (.aload_n 0, 1) := by decide +kernel
theorem dL_texts_89 : decode cL_texts 89 = .ok (.ldc2_w 94, 3) := by decide +kernel
theorem dL_texts_92 : decode cL_texts 92 = .ok (.lconst 0, 1) := by decide +kernel
theorem dL_texts_93 : decode cL_texts 93 = .ok (.iconst 0, 1) := by decide +kernel
theorem dL_texts_94 : decode cL_texts 94 = .ok (.iconst 1, 1) := by decide +kernel
theorem dL_texts_95 : decode cL_texts 95 = .ok (.invokestatic 86, 3) := by decide +kernel
theorem dL_texts_98 : decode cL_texts 98 = .ok (.ifCond .eq 42, 3) := by decide +kernel
theorem dL_texts_101 : decode cL_texts 101 = .ok (.aload_n 0, 1) := by decide +kernel
theorem dL_texts_102 : decode cL_texts 102 = .ok (.ldc2_w 96, 3) := by decide +kernel
theorem dL_texts_105 : decode cL_texts 105 = .ok (.lconst 0, 1) := by decide +kernel
theorem dL_texts_106 : decode cL_texts 106 = .ok (.iconst 0, 1) := by decide +kernel
theorem dL_texts_107 : decode cL_texts 107 = .ok (.iconst 3, 1) := by decide +kernel
theorem dL_texts_108 : decode cL_texts 108 = .ok (.invokestatic 86, 3) := by decide +kernel
theorem dL_texts_111 : decode cL_texts 111 = .ok (.ifCond .eq 29, 3) := by decide +kernel
theorem dL_texts_114 : decode cL_texts 114 = .ok (.aload_n 0, 1) := by decide +kernel
theorem dL_texts_115 : decode cL_texts 115 = .ok (.ldc2_w 98, 3) := by decide +kernel
theorem dL_texts_118 : decode cL_texts 118 = .ok (.lconst 0, 1) := by decide +kernel
theorem dL_texts_119 : decode cL_texts 119 = .ok (.iconst 0, 1) := by decide +kernel
theorem dL_texts_120 : decode cL_texts 120 = .ok (.iconst 4, 1) := by decide +kernel
theorem dL_texts_121 : decode cL_texts 121 = .ok (.invokestatic 86, 3) := by decide +kernel
theorem dL_texts_124 : decode cL_texts 124 = .ok (.ifCond .eq 16, 3) := by decide +kernel
theorem dL_texts_127 : decode cL_texts 127 = .ok (.aload_n 0, 1) := by decide +kernel
theorem dL_texts_128 : decode cL_texts 128 = .ok (.ldc2_w 100, 3) := by decide +kernel
theorem dL_texts_131 : decode cL_texts 131 = .ok (.lconst 0, 1) := by decide +kernel
theorem dL_texts_132 : decode cL_texts 132 = .ok (.iconst 0, 1) := by decide +kernel
theorem dL_texts_133 : decode cL_texts 133 = .ok (.iconst 5, 1) := by decide +kernel
theorem dL_texts_134 : decode cL_texts 134 = .ok (.invokestatic 86, 3) := by decide +kernel
theorem dL_texts_137 : decode cL_texts 137 = .ok (.ifCond .ne 5, 3) := by decide +kernel
theorem dL_texts_140 : decode cL_texts 140 = .ok (.iconst 0, 1) := by decide +kernel
theorem dL_texts_141 : decode cL_texts 141 = .ok (.ireturn, 1) := by decide +kernel
theorem dL_texts_142 : decode cL_texts 142 = .ok (.aload_n 0, 1) := by decide +kernel
theorem dL_texts_143 : decode cL_texts 143 = .ok (.ldc2_w 102, 3) := by decide +kernel
theorem dL_texts_146 : decode cL_texts 146 = .ok (.lconst 0, 1) := by decide +kernel
theorem dL_texts_147 : decode cL_texts 147 = .ok (.iconst 0, 1) := by decide +kernel
theorem dL_texts_148 : decode cL_texts 148 = .ok (.iconst 5, 1) := by decide +kernel
theorem dL_texts_149 : decode cL_texts 149 = .ok (.invokestatic 86, 3) := by decide +kernel
theorem dL_texts_152 : decode cL_texts 152 = .ok (.ifCond .eq 45, 3) := by decide +kernel
theorem dL_texts_155 : decode cL_texts 155 = .ok (.aload_n 0, 1) := by decide +kernel
theorem dL_texts_156 : decode cL_texts 156 = .ok (.ldc2_w 104, 3) := by decide +kernel
theorem dL_texts_159 : decode cL_texts 159 = .ok (.lconst 0, 1) := by decide +kernel
theorem dL_texts_160 : decode cL_texts 160 = .ok (.iconst 0, 1) := by decide +kernel
theorem dL_texts_161 : decode cL_texts 161 = .ok (.bipush 6, 2) := by decide +kernel
theorem dL_texts_163 : decode cL_texts 163 = .ok (.invokestatic 86, 3) := by decide +kernel
theorem dL_texts_166 : decode cL_texts 166 = .ok (.ifCond .eq 31, 3) := by decide +kernel
theorem dL_texts_169 : decode cL_texts 169 = .ok (.aload_n 0, 1) := by decide +kernel
theorem dL_texts_170 : decode cL_texts 170 = .ok (.ldc2_w 106, 3) := by decide +kernel
theorem dL_texts_173 : decode cL_texts 173 = .ok (.lconst 0, 1) := by decide +kernel
theorem dL_texts_174 : decode cL_texts 174 = .ok (.iconst 0, 1) := by decide +kernel
theorem dL_texts_175 : decode cL_texts 175 = .ok (.bipush 6, 2) := by decide +kernel
theorem dL_texts_177 : decode cL_texts 177 = .ok (.invokestatic 86, 3) := by decide +kernel
theorem dL_texts_180 : decode cL_texts 180 = .ok (.ifCond .eq 17, 3) := by decide +kernel
theorem dL_texts_183 : decode cL_texts 183 = .ok (.aload_n 0, 1) := by decide +kernel
theorem dL_texts_184 : decode cL_texts 184 = .ok (.ldc2_w 108, 3) := by decide +kernel
theorem dL_texts_187 : decode cL_texts 187 = .ok (.lconst 0, 1) := by decide +kernel
theorem dL_texts_188 : decode cL_texts 188 = .ok (.iconst 0, 1) := by decide +kernel
theorem dL_texts_189 : decode cL_texts 189 = .ok (.bipush 8, 2) := by decide +kernel
theorem dL_texts_191 : decode cL_texts 191 = .ok (.invokestatic 86, 3) := by decide +kernel
theorem dL_texts_194 : decode cL_texts 194 = .ok (.ifCond .ne 5, 3) := by decide +kernel
theorem dL_texts_197 : decode cL_texts 197 = .ok (.iconst 0, 1) := by decide +kernel
theorem dL_texts_198 : decode cL_texts 198 = .ok (.ireturn, 1) := by decide +kernel
theorem dL_texts_199 : decode cL_texts 199 = .ok (.aload_n 0, 1) := by decide +kernel
theorem dL_texts_200 : decode cL_texts 200 = .ok (.ldc2_w 110, 3) := by decide +kernel
theorem dL_texts_203 : decode cL_texts 203 = .ok (.lconst 0, 1) := by decide +kernel
theorem dL_texts_204 : decode cL_texts 204 = .ok (.iconst 0, 1) := by decide +kernel
theorem dL_texts_205 : decode cL_texts 205 = .ok (.iconst 1, 1) := by decide +kernel
theorem dL_texts_206 : decode cL_texts 206 = .ok (.invokestatic 86, 3) := by decide +kernel
theorem dL_texts_209 : decode cL_texts 209 = .ok (.ifCond .eq 52, 3) := by decide +kernel
theorem dL_texts_212 : decode cL_texts 212 = .ok (.aload_n 0, 1) := by decide +kernel
theorem dL_texts_213 : decode cL_texts 213 = .ok (.ldc2_w 112, 3) := by decide +kernel
theorem dL_texts_216 : decode cL_texts 216 = .ok (.ldc2_w 114, 3) := by decide +kernel
theorem dL_texts_219 : decode cL_texts 219 = .ok (.bipush (-4), 2) := by decide +kernel
theorem dL_texts_221 : decode cL_texts 221 = .ok (.bipush (-4), 2) := by decide +kernel
theorem dL_texts_223 : decode cL_texts 223 = .ok (.invokestatic 86, 3) := by decide +kernel
theorem dL_texts_226 : decode cL_texts 226 = .ok (.ifCond .eq 35, 3) := by decide +kernel
theorem dL_texts_229 : decode cL_texts 229 = .ok (.aload_n 0, 1) := by decide +kernel
theorem dL_texts_230 : decode cL_texts 230 = .ok (.ldc2_w 116, 3) := by decide +kernel
theorem dL_texts_233 : decode cL_texts 233 = .ok (.ldc2_w 114, 3) := by decide +kernel
theorem dL_texts_236 : decode cL_texts 236 = .ok (.iconst 5, 1) := by decide +kernel
theorem dL_texts_237 : decode cL_texts 237 = .ok (.iconst 4, 1) := by decide +kernel
theorem dL_texts_238 : decode cL_texts 238 = .ok (.invokestatic 86, 3) := by decide +kernel
theorem dL_texts_241 : decode cL_texts 241 = .ok (.ifCond .eq 20, 3) := by decide +kernel
theorem dL_texts_244 : decode cL_texts 244 = .ok (.aload_n 0, 1) := by decide +kernel
theorem dL_texts_245 : decode cL_texts 245 = .ok (.ldc2_w 118, 3) := by decide +kernel
theorem dL_texts_248 : decode cL_texts 248 = .ok (.ldc2_w 114, 3) := by decide +kernel
theorem dL_texts_251 : decode cL_texts 251 = .ok (.bipush (-4), 2) := by decide +kernel
theorem dL_texts_253 : decode cL_texts 253 = .ok (.bipush (-4), 2) := by decide +kernel
theorem dL_texts_255 : decode cL_texts 255 = .ok (.invokestatic 86, 3) := by decide +kernel
theorem dL_texts_258 : decode cL_texts 258 = .ok (.ifCond .ne 5, 3) := by decide +kernel
theorem dL_texts_261 : decode cL_texts 261 = .ok (.iconst 0, 1) := by decide +kernel
theorem dL_texts_262 : decode cL_texts 262 = .ok (.ireturn, 1) := by decide +kernel
theorem dL_texts_263 : decode cL_texts 263 = .ok (.aload_n 0, 1) := by decide +kernel
theorem dL_texts_264 : decode cL_texts 264 = .ok (.ldc2_w 120, 3) := by decide +kernel
theorem dL_texts_267 : decode cL_texts 267 = .ok (.lconst 0, 1) := by decide +kernel
theorem dL_texts_268 : decode cL_texts 268 = .ok (.iconst 5, 1) := by decide +kernel
theorem dL_texts_269 : decode cL_texts 269 = .ok (.iconst 1, 1) := by decide +kernel
theorem dL_texts_270 : decode cL_texts 270 = .ok (.invokestatic 86, 3) := by decide +kernel
theorem dL_texts_273 : decode cL_texts 273 = .ok (.ifCond .eq 43, 3) := by decide +kernel
theorem dL_texts_276 : decode cL_texts 276 = .ok (.aload_n 0, 1) := by decide +kernel
theorem dL_texts_277 : decode cL_texts 277 = .ok (.ldc2_w 122, 3) := by decide +kernel
theorem dL_texts_280 : decode cL_texts 280 = .ok (.lconst 0, 1) := by decide +kernel
theorem dL_texts_281 : decode cL_texts 281 = .ok (.iconst 5, 1) := by decide +kernel
theorem dL_texts_282 : decode cL_texts 282 = .ok (.bipush 8, 2) := by decide +kernel
theorem dL_texts_284 : decode cL_texts 284 = .ok (.invokestatic 86, 3) := by decide +kernel
theorem dL_texts_287 : decode cL_texts 287 = .ok (.ifCond .eq 29, 3) := by decide +kernel
theorem dL_texts_290 : decode cL_texts 290 = .ok (.aload_n 0, 1) := by decide +kernel
theorem dL_texts_291 : decode cL_texts 291 = .ok (.ldc2_w 124, 3) := by decide +kernel
theorem dL_texts_294 : decode cL_texts 294 = .ok (.lconst 0, 1) := by decide +kernel
theorem dL_texts_295 : decode cL_texts 295 = .ok (.iconst 0, 1) := by decide +kernel
theorem dL_texts_296 : decode cL_texts 296 = .ok (.iconst 1, 1) := by decide +kernel
theorem dL_texts_297 : decode cL_texts 297 = .ok (.invokestatic 86, 3) := by decide +kernel
theorem dL_texts_300 : decode cL_texts 300 = .ok (.ifCond .eq 16, 3) := by decide +kernel
theorem dL_texts_303 : decode cL_texts 303 = .ok (.aload_n 0, 1) := by decide +kernel
theorem dL_texts_304 : decode cL_texts 304 = .ok (.ldc2_w 126, 3) := by decide +kernel
theorem dL_texts_307 : decode cL_texts 307 = .ok (.lconst 0, 1) := by decide +kernel
theorem dL_texts_308 : decode cL_texts 308 = .ok (.iconst 5, 1) := by decide +kernel
theorem dL_texts_309 : decode cL_texts 309 = .ok (.iconst 1, 1) := by decide +kernel
theorem dL_texts_310 : decode cL_texts 310 = .ok (.invokestatic 86, 3) := by decide +kernel
theorem dL_texts_313 : decode cL_texts 313 = .ok (.ifCond .ne 5, 3) := by decide +kernel
theorem dL_texts_316 : decode cL_texts 316 = .ok (.iconst 0, 1) := by decide +kernel
theorem dL_texts_317 : decode cL_texts 317 = .ok (.ireturn, 1) := by decide +kernel
theorem dL_texts_318 : decode cL_texts 318 = .ok (.aload_n 0, 1) := by decide +kernel
theorem dL_texts_319 : decode cL_texts 319 = .ok (.ldc2_w 128, 3) := by decide +kernel
theorem dL_texts_322 : decode cL_texts 322 = .ok (.lconst 0, 1) := by decide +kernel
theorem dL_texts_323 : decode cL_texts 323 = .ok (.iconst 0, 1) := by decide +kernel
theorem dL_texts_324 : decode cL_texts 324 = .ok (.iconst 1, 1) := by decide +kernel
theorem dL_texts_325 : decode cL_texts 325 = .ok (.invokestatic 86, 3) := by decide +kernel
theorem dL_texts_328 : decode cL_texts 328 = .ok (.ifCond .eq 53, 3) := by decide +kernel
theorem dL_texts_331 : decode cL_texts 331 = .ok (.aload_n 0, 1) := by decide +kernel
theorem dL_texts_332 : decode cL_texts 332 = .ok (.ldc2_w 130, 3) := by decide +kernel
theorem dL_texts_335 : decode cL_texts 335 = .ok (.ldc2_w 114, 3) := by decide +kernel
theorem dL_texts_338 : decode cL_texts 338 = .ok (.iconst 5, 1) := by decide +kernel
theorem dL_texts_339 : decode cL_texts 339 = .ok (.bipush 6, 2) := by decide +kernel
theorem dL_texts_341 : decode cL_texts 341 = .ok (.invokestatic 86, 3) := by decide +kernel
theorem dL_texts_344 : decode cL_texts 344 = .ok (.ifCond .eq 37, 3) := by decide +kernel
theorem dL_texts_347 : decode cL_texts 347 = .ok (.aload_n 0, 1) := by decide +kernel
theorem dL_texts_348 : decode cL_texts 348 = .ok (.ldc2_w 132, 3) := by decide +kernel
theorem dL_texts_351 : decode cL_texts 351 = .ok (.ldc2_w 134, 3) := by decide +kernel
theorem dL_texts_354 : decode cL_texts 354 = .ok (.bipush (-4), 2) := by decide +kernel
theorem dL_texts_356 : decode cL_texts 356 = .ok (.bipush (-4), 2) := by decide +kernel
theorem dL_texts_358 : decode cL_texts 358 = .ok (.invokestatic 86, 3) := by decide +kernel
theorem dL_texts_361 : decode cL_texts 361 = .ok (.ifCond .eq 20, 3) := by decide +kernel
theorem dL_texts_364 : decode cL_texts 364 = .ok (.aload_n 0, 1) := by decide +kernel
theorem dL_texts_365 : decode cL_texts 365 = .ok (.ldc2_w 118, 3) := by decide +kernel
theorem dL_texts_368 : decode cL_texts 368 = .ok (.ldc2_w 136, 3) := by decide +kernel
theorem dL_texts_371 : decode cL_texts 371 = .ok (.bipush 10, 2) := by decide +kernel
theorem dL_texts_373 : decode cL_texts 373 = .ok (.bipush 6, 2) := by decide +kernel
theorem dL_texts_375 : decode cL_texts 375 = .ok (.invokestatic 86, 3) := by decide +kernel
theorem dL_texts_378 : decode cL_texts 378 = .ok (.ifCond .ne 5, 3) := by decide +kernel
theorem dL_texts_381 : decode cL_texts 381 = .ok (.iconst 0, 1) := by decide +kernel
theorem dL_texts_382 : decode cL_texts 382 = .ok (.ireturn, 1) := by decide +kernel
theorem dL_texts_383 : decode cL_texts 383 = .ok (.aload_n 0, 1) := by decide +kernel
theorem dL_texts_384 : decode cL_texts 384 = .ok (.invokestatic 29, 3) := by decide +kernel
theorem dL_texts_387 : decode cL_texts 387 = .ok (.lload_n 1, 1) := by decide +kernel
theorem dL_texts_388 : decode cL_texts 388 = .ok (.lcmp, 1) := by decide +kernel
theorem dL_texts_389 : decode cL_texts 389 = .ok (.ifCond .ne 103, 3) := by decide +kernel
theorem dL_texts_392 : decode cL_texts 392 = .ok (.aload_n 0, 1) := by decide +kernel
theorem dL_texts_393 : decode cL_texts 393 = .ok (.invokevirtual 81, 3) := by decide +kernel
theorem dL_texts_396 : decode cL_texts 396 = .ok (.bipush (-2), 2) := by decide +kernel
theorem dL_texts_398 : decode cL_texts 398 = .ok (.if_icmp .ne 94, 3) := by decide +kernel
theorem dL_texts_401 : decode cL_texts 401 = .ok (.aload_n 0, 1) := by decide +kernel
theorem dL_texts_402 : decode cL_texts 402 = .ok (.ldc2_w 132, 3) := by decide +kernel
theorem dL_texts_405 : decode cL_texts 405 = .ok (.ldc2_w 134, 3) := by decide +kernel
theorem dL_texts_408 : decode cL_texts 408 = .ok (.bipush (-4), 2) := by decide +kernel
theorem dL_texts_410 : decode cL_texts 410 = .ok (.bipush (-4), 2) := by decide +kernel
theorem dL_texts_412 : decode cL_texts 412 = .ok (.invokestatic 86, 3) := by decide +kernel
theorem dL_texts_415 : decode cL_texts 415 = .ok (.ifCond .eq 77, 3) := by decide +kernel
theorem dL_texts_418 : decode cL_texts 418 = .ok (.aload_n 0, 1) := by decide +kernel
theorem dL_texts_419 : decode cL_texts 419 = .ok (.invokevirtual 81, 3) := by decide +kernel
theorem dL_texts_422 : decode cL_texts 422 = .ok (.iconst 3, 1) := by decide +kernel
theorem dL_texts_423 : decode cL_texts 423 = .ok (.if_icmp .ne 69, 3) := by decide +kernel
theorem dL_texts_426 : decode cL_texts 426 = .ok (.aload_n 0, 1) := by decide +kernel
theorem dL_texts_427 : decode cL_texts 427 = .ok (.iconst 3, 1) := by decide +kernel
theorem dL_texts_428 : decode cL_texts 428 = .ok (.invokevirtual 13, 3) := by decide +kernel
theorem dL_texts_431 : decode cL_texts 431 = .ok (.iconst 3, 1) := by decide +kernel
theorem dL_texts_432 : decode cL_texts 432 = .ok (.if_icmp .ne 60, 3) := by decide +kernel
theorem dL_texts_435 : decode cL_texts 435 = .ok (.aload_n 0, 1) := by decide +kernel
theorem dL_texts_436 : decode cL_texts 436 = .ok (.bipush 27, 2) := by decide +kernel
theorem dL_texts_438 : decode cL_texts 438 = .ok (.iconst 1, 1) := by decide +kernel
theorem dL_texts_439 : decode cL_texts 439 = .ok (.invokevirtual 25, 3) := by decide +kernel
theorem dL_texts_442 : decode cL_texts 442 = .ok (.iconst 3, 1) := by decide +kernel
theorem dL_texts_443 : decode cL_texts 443 = .ok (.if_icmp .ne 49, 3) := by decide +kernel
theorem dL_texts_446 : decode cL_texts 446 = .ok (.aload_n 0, 1) := by decide +kernel
theorem dL_texts_447 : decode cL_texts 447 = .ok (.bipush 27, 2) := by decide +kernel
theorem dL_texts_449 : decode cL_texts 449 = .ok (.iconst 0, 1) := by decide +kernel
theorem dL_texts_450 : decode cL_texts 450 = .ok (.invokevirtual 25, 3) := by decide +kernel
theorem dL_texts_453 : decode cL_texts 453 = .ok (.ifCond .ne 39, 3) := by decide +kernel
theorem dL_texts_456 : decode cL_texts 456 = .ok (.aload_n 0, 1) := by decide +kernel
theorem dL_texts_457 : decode cL_texts 457 = .ok (.bipush 8, 2) := by decide +kernel
theorem dL_texts_459 : decode cL_texts 459 = .ok (.invokevirtual 13, 3) := by decide +kernel
theorem dL_texts_462 : decode cL_texts 462 = .ok (.iconst 2, 1) := by decide +kernel
theorem dL_texts_463 : decode cL_texts 463 = .ok (.if_icmp .ne 29, 3) := by decide +kernel
theorem dL_texts_466 : decode cL_texts 466 = .ok (.aload_n 0, 1) := by decide +kernel
theorem dL_texts_467 : decode cL_texts 467 = .ok (.invokevirtual 138, 3) := by decide +kernel
theorem dL_texts_470 : decode cL_texts 470 = .ok (.iconst 1, 1) := by decide +kernel
theorem dL_texts_471 : decode cL_texts 471 = .ok (.if_icmp .ne 21, 3) := by decide +kernel
theorem dL_texts_474 : decode cL_texts 474 = .ok (.aload_n 0, 1) := by decide +kernel
theorem dL_texts_475 : decode cL_texts 475 = .ok (.invokestatic 29, 3) := by decide +kernel
theorem dL_texts_478 : decode cL_texts 478 = .ok (.lload_n 1, 1) := by decide +kernel
theorem dL_texts_479 : decode cL_texts 479 = .ok (.lcmp, 1) := by decide +kernel
theorem dL_texts_480 : decode cL_texts 480 = .ok (.ifCond .ne 12, 3) := by decide +kernel
theorem dL_texts_483 : decode cL_texts 483 = .ok (.aload_n 0, 1) := by decide +kernel
theorem dL_texts_484 : decode cL_texts 484 = .ok (.invokevirtual 72, 3) := by decide +kernel
theorem dL_texts_487 : decode cL_texts 487 = .ok (.bipush 15, 2) := by decide +kernel
theorem dL_texts_489 : decode cL_texts 489 = .ok (.if_icmp .eq 5, 3) := by decide +kernel
theorem dL_texts_492 : decode cL_texts 492 = .ok (.iconst 0, 1) := by decide +kernel
theorem dL_texts_493 : decode cL_texts 493 = .ok (.ireturn, 1) := by decide +kernel
theorem dL_texts_494 : decode cL_texts 494 = .ok (.iconst 1, 1) := by decide +kernel
theorem dL_texts_495 : decode cL_texts 495 = .ok (.istore_n 3, 1) := by decide +kernel
theorem dL_texts_496 : decode cL_texts 496 = .ok (.iload_n 3, 1) := by decide +kernel
theorem dL_texts_497 : decode cL_texts 497 = .ok (.bipush 80, 2) := by decide +kernel
theorem dL_texts_499 : decode cL_texts 499 = .ok (.if_icmp .gt 21, 3) := by decide +kernel
theorem dL_texts_502 : decode cL_texts 502 = .ok (.aload_n 0, 1) := by decide +kernel
theorem dL_texts_503 : decode cL_texts 503 = .ok (.bipush 97, 2) := by decide +kernel
theorem dL_texts_505 : decode cL_texts 505 = .ok (.invokevirtual 67, 3) := by decide +kernel
theorem dL_texts_508 : decode cL_texts 508 = .ok (.iload_n 3, 1) := by decide +kernel
theorem dL_texts_509 : decode cL_texts 509 = .ok (.if_icmp .eq 5, 3) := by decide +kernel
theorem dL_texts_512 : decode cL_texts 512 = .ok (.iconst 0, 1) := by decide +kernel
theorem dL_texts_513 : decode cL_texts 513 = .ok (.ireturn, 1) := by decide +kernel
theorem dL_texts_514 : decode cL_texts 514 = .ok (.iinc 3 1, 3) := by decide +kernel
theorem dL_texts_517 : decode cL_texts 517 = .ok (.goto (-21), 3) := by decide +kernel
theorem dL_texts_520 : decode cL_texts 520 = .ok (.aload_n 0, 1) := by decide +kernel
theorem dL_texts_521 : decode cL_texts 521 = .ok (.bipush 97, 2) := by decide +kernel
theorem dL_texts_523 : decode cL_texts 523 = .ok (.invokevirtual 67, 3) := by decide +kernel
theorem dL_texts_526 : decode cL_texts 526 = .ok (.bipush (-3), 2) := by decide +kernel
theorem dL_texts_528 : decode cL_texts 528 = .ok (.if_icmp .ne 43, 3) := by decide +kernel
theorem dL_texts_531 : decode cL_texts 531 = .ok (.aload_n 0, 1) := by decide +kernel
theorem dL_texts_532 : decode cL_texts 532 = .ok (.bipush 31, 2) := by decide +kernel
theorem dL_texts_534 : decode cL_texts 534 = .ok (.invokevirtual 67, 3) := by decide +kernel
theorem dL_texts_537 : decode cL_texts 537 = .ok (.iconst (-1), 1) := by decide +kernel
theorem dL_texts_538 : decode cL_texts 538 = .ok (.if_icmp .ne 33, 3) := by decide +kernel
theorem dL_texts_541 : decode cL_texts 541 = .ok (.aload_n 0, 1) := by decide +kernel
theorem dL_texts_542 : decode cL_texts 542 = .ok (.iconst 0, 1) := by decide +kernel
theorem dL_texts_543 : decode cL_texts 543 = .ok (.invokevirtual 61, 3) := by decide +kernel
theorem dL_texts_546 : decode cL_texts 546 = .ok (.ifCond .ne 25, 3) := by decide +kernel
theorem dL_texts_549 : decode cL_texts 549 = .ok (.aload_n 0, 1) := by decide +kernel
theorem dL_texts_550 : decode cL_texts 550 = .ok (.iconst 1, 1) := by decide +kernel
theorem dL_texts_551 : decode cL_texts 551 = .ok (.invokevirtual 61, 3) := by decide +kernel
theorem dL_texts_554 : decode cL_texts 554 = .ok (.iconst 1, 1) := by decide +kernel
theorem dL_texts_555 : decode cL_texts 555 = .ok (.if_icmp .ne 16, 3) := by decide +kernel
theorem dL_texts_558 : decode cL_texts 558 = .ok (.aload_n 0, 1) := by decide +kernel
theorem dL_texts_559 : decode cL_texts 559 = .ok (.invokevirtual 72, 3) := by decide +kernel
theorem dL_texts_562 : decode cL_texts 562 = .ok (.bipush 80, 2) := by decide +kernel
theorem dL_texts_564 : decode cL_texts 564 = .ok (.if_icmp .ne 7, 3) := by decide +kernel
theorem dL_texts_567 : decode cL_texts 567 = .ok (.iconst 1, 1) := by decide +kernel
theorem dL_texts_568 : decode cL_texts 568 = .ok (.goto 4, 3) := by decide +kernel
theorem dL_texts_571 : decode cL_texts 571 = .ok (.iconst 0, 1) := by decide +kernel
theorem dL_texts_572 : decode cL_texts 572 = .ok (.ireturn, 1) := by decide +kernel
theorem dL_isCleared_0 : decode cL_isCleared 0 = .ok (.iconst 0, 1) := by decide +kernel
theorem dL_isCleared_1 : decode cL_isCleared 1 = .ok (.istore_n 1, 1) := by decide +kernel
theorem dL_isCleared_2 : decode cL_isCleared 2 = .ok (.iload_n 1, 1) := by decide +kernel
theorem dL_isCleared_3 : decode cL_isCleared 3 = .ok (.bipush 36, 2) := by decide +kernel
theorem dL_isCleared_5 : decode cL_isCleared 5 = .ok (.if_icmp .ge 40, 3) := by decide +kernel
theorem dL_isCleared_8 : decode cL_isCleared 8 = .ok (.aload_n 0, 1) := by decide +kernel
theorem dL_isCleared_9 : decode cL_isCleared 9 = .ok (.iload_n 1, 1) := by decide +kernel
theorem dL_isCleared_10 : decode cL_isCleared 10 = .ok (.iconst 0, 1) := by decide +kernel
theorem dL_isCleared_11 : decode cL_isCleared 11 = .ok (.invokevirtual 25, 3) := by decide +kernel
theorem dL_isCleared_14 : decode cL_isCleared 14 = .ok (.bipush (-4), 2) := by decide +kernel
theorem dL_isCleared_16 : decode cL_isCleared 16 = .ok (.if_icmp .ne 7, 3) := by decide +kernel
theorem dL_isCleared_19 : decode cL_isCleared 19 = .ok (.iconst 0, 1) := by decide +kernel
theorem dL_isCleared_20 : decode cL_isCleared 20 = .ok (.goto 4, 3) := by decide +kernel
theorem dL_isCleared_23 : decode cL_isCleared 23 = .ok (.iconst 1, 1) := by decide +kernel
theorem dL_isCleared_24 : decode cL_isCleared 24 = .ok (.istore_n 2, 1) := by decide +kernel
theorem dL_isCleared_25 : decode cL_isCleared 25 = .ok (.aload_n 0, 1) := by decide +kernel
theorem dL_isCleared_26 : decode cL_isCleared 26 = .ok (.iload_n 1, 1) := by decide +kernel
theorem dL_isCleared_27 : decode cL_isCleared 27 = .ok (.iconst (-1), 1) := by decide +kernel
theorem dL_isCleared_28 : decode cL_isCleared 28 = .ok (.iconst 0, 1) := by decide +kernel
theorem dL_isCleared_29 : decode cL_isCleared 29 = .ok (.iconst 0, 1) := by decide +kernel
theorem dL_isCleared_30 : decode cL_isCleared 30 = .ok (.invokevirtual 33, 3) := by decide +kernel
theorem dL_isCleared_33 : decode cL_isCleared 33 = .ok (.iload_n 2, 1) := by decide +kernel
theorem dL_isCleared_34 : decode cL_isCleared 34 = .ok (.if_icmp .eq 5, 3) := by decide +kernel
theorem dL_isCleared_37 : decode cL_isCleared 37 = .ok (.iconst 0, 1) := by decide +kernel
theorem dL_isCleared_38 : decode cL_isCleared 38 = .ok (.ireturn, 1) := by decide +kernel
theorem dL_isCleared_39 : decode cL_isCleared 39 = .ok (.iinc 1 1, 3) := by decide +kernel
theorem dL_isCleared_42 : decode cL_isCleared 42 = .ok (.goto (-40), 3) := by decide +kernel
theorem dL_isCleared_45 : decode cL_isCleared 45 = .ok (.aload_n 0, 1) := by decide +kernel
theorem dL_isCleared_46 : decode cL_isCleared 46 = .ok (.iconst 4, 1) := by decide +kernel
theorem dL_isCleared_47 : decode cL_isCleared 47 = .ok (.invokevirtual 13, 3) := by decide +kernel
theorem dL_isCleared_50 : decode cL_isCleared 50 = .ok (.ifCond .ne 48, 3) := by decide +kernel
theorem dL_isCleared_53 : decode cL_isCleared 53 = .ok (.aload_n 0, 1) := by decide +kernel
theorem dL_isCleared_54 : decode cL_isCleared 54 = .ok (.bipush 25, 2) := by decide +kernel
theorem dL_isCleared_56 : decode cL_isCleared 56 = .ok (.invokevirtual 13, 3) := by decide +kernel
theorem dL_isCleared_59 : decode cL_isCleared 59 = .ok (.ifCond .ne 39, 3) := by decide +kernel
theorem dL_isCleared_62 : decode cL_isCleared 62 = .ok (.aload_n 0, 1) := by decide +kernel
theorem dL_isCleared_63 : decode cL_isCleared 63 = .ok (.iconst 0, 1) := by decide +kernel
theorem dL_isCleared_64 : decode cL_isCleared 64 = .ok (.invokevirtual 55, 3) := by decide +kernel
theorem dL_isCleared_67 : decode cL_isCleared 67 = .ok (.ifCond .ne 31, 3) := by decide +kernel
theorem dL_isCleared_70 : decode cL_isCleared 70 = .ok (.aload_n 0, 1) := by decide +kernel
theorem dL_isCleared_71 : decode cL_isCleared 71 = .ok (.iconst 1, 1) := by decide +kernel
theorem dL_isCleared_72 : decode cL_isCleared 72 = .ok (.invokevirtual 55, 3) := by decide +kernel
theorem dL_isCleared_75 : decode cL_isCleared 75 = .ok (.ifCond .ne 23, 3) := by decide +kernel
theorem dL_isCleared_78 : decode cL_isCleared 78 = .ok (.aload_n 0, 1) := by decide +kernel
theorem dL_isCleared_79 : decode cL_isCleared 79 = .ok (.invokevirtual 141, 3) := by decide +kernel
theorem dL_isCleared_82 : decode cL_isCleared 82 = .ok (.ifCond .ne 16, 3) := by decide +kernel
theorem dL_isCleared_85 : decode cL_isCleared 85 = .ok (.aload_n 0, 1) := by decide +kernel
theorem dL_isCleared_86 : decode cL_isCleared 86 = .ok (.invokevirtual 144, 3) := by decide +kernel
theorem dL_isCleared_89 : decode cL_isCleared 89 = .ok (.bipush (-4), 2) := by decide +kernel
theorem dL_isCleared_91 : decode cL_isCleared 91 = .ok (.if_icmp .ne 7, 3) := by decide +kernel
theorem dL_isCleared_94 : decode cL_isCleared 94 = .ok (.iconst 1, 1) := by decide +kernel
theorem dL_isCleared_95 : decode cL_isCleared 95 = .ok (.goto 4, 3) := by decide +kernel
theorem dL_isCleared_98 : decode cL_isCleared 98 = .ok (.iconst 0, 1) := by decide +kernel
theorem dL_isCleared_99 : decode cL_isCleared 99 = .ok (.ireturn, 1) := by decide +kernel
theorem dL_begins_0 : decode cL_begins 0 = .ok (.new 14, 3) := by decide +kernel
theorem dL_begins_3 : decode cL_begins 3 = .ok (.dup, 1) := by decide +kernel
theorem dL_begins_4 : decode cL_begins 4 = .ok (.invokespecial 80, 3) := by decide +kernel
theorem dL_begins_7 : decode cL_begins 7 = .ok (.astore_n 0, 1) := by decide +kernel
theorem dL_begins_8 : decode cL_begins 8 = .ok (.aload_n 0, 1) := by decide +kernel
theorem dL_begins_9 : decode cL_begins 9 = .ok (.invokestatic 147, 3) := by decide +kernel
theorem dL_begins_12 : decode cL_begins 12 = .ok (.ifCond .eq 185, 3) := by decide +kernel
theorem dL_begins_15 : decode cL_begins 15 = .ok (.aload_n 0, 1) := by decide +kernel
theorem dL_begins_16 : decode cL_begins 16 = .ok (.invokevirtual 138, 3) := by decide +kernel
theorem dL_begins_19 : decode cL_begins 19 = .ok (.bipush (-2), 2) := by decide +kernel
theorem dL_begins_21 : decode cL_begins 21 = .ok (.if_icmp .ne 176, 3) := by decide +kernel
theorem dL_begins_24 : decode cL_begins 24 = .ok (.aload_n 0, 1) := by decide +kernel
theorem dL_begins_25 : decode cL_begins 25 = .ok (.bipush 6, 2) := by decide +kernel
theorem dL_begins_27 : decode cL_begins 27 = .ok (.invokevirtual 13, 3) := by decide +kernel
theorem dL_begins_30 : decode cL_begins 30 = .ok (.bipush 48, 2) := by decide +kernel
theorem dL_begins_32 : decode cL_begins 32 = .ok (.if_icmp .ne 165, 3) := by decide +kernel
theorem dL_begins_35 : decode cL_begins 35 = .ok (.aload_n 0, 1) := by decide +kernel
theorem dL_begins_36 : decode cL_begins 36 = .ok (.bipush 7, 2) := by decide +kernel
theorem dL_begins_38 : decode cL_begins 38 = .ok (.invokevirtual 13, 3) := by decide +kernel
theorem dL_begins_41 : decode cL_begins 41 = .ok (.bipush 48, 2) := by decide +kernel
theorem dL_begins_43 : decode cL_begins 43 = .ok (.if_icmp .ne 154, 3) := by decide +kernel
theorem dL_begins_46 : decode cL_begins 46 = .ok (.aload_n 0, 1) := by decide +kernel
theorem dL_begins_47 : decode cL_begins 47 = .ok (.bipush 20, 2) := by decide +kernel
theorem dL_begins_49 : decode cL_begins 49 = .ok (.invokevirtual 13, 3) := by decide +kernel
theorem dL_begins_52 : decode cL_begins 52 = .ok (.bipush 96, 2) := by decide +kernel
theorem dL_begins_54 : decode cL_begins 54 = .ok (.if_icmp .ne 143, 3) := by decide +kernel
theorem dL_begins_57 : decode cL_begins 57 = .ok (.aload_n 0, 1) := by decide +kernel
theorem dL_begins_58 : decode cL_begins 58 = .ok (.bipush 25, 2) := by decide +kernel
theorem dL_begins_60 : decode cL_begins 60 = .ok (.invokevirtual 13, 3) := by decide +kernel
theorem dL_begins_63 : decode cL_begins 63 = .ok (.bipush 96, 2) := by decide +kernel
theorem dL_begins_65 : decode cL_begins 65 = .ok (.if_icmp .ne 132, 3) := by decide +kernel
theorem dL_begins_68 : decode cL_begins 68 = .ok (.aload_n 0, 1) := by decide +kernel
theorem dL_begins_69 : decode cL_begins 69 = .ok (.iconst 4, 1) := by decide +kernel
theorem dL_begins_70 : decode cL_begins 70 = .ok (.invokevirtual 13, 3) := by decide +kernel
theorem dL_begins_73 : decode cL_begins 73 = .ok (.bipush 24, 2) := by decide +kernel
theorem dL_begins_75 : decode cL_begins 75 = .ok (.if_icmp .ne 122, 3) := by decide +kernel
theorem dL_begins_78 : decode cL_begins 78 = .ok (.aload_n 0, 1) := by decide +kernel
theorem dL_begins_79 : decode cL_begins 79 = .ok (.iconst 5, 1) := by decide +kernel
theorem dL_begins_80 : decode cL_begins 80 = .ok (.invokevirtual 13, 3) := by decide +kernel
theorem dL_begins_83 : decode cL_begins 83 = .ok (.bipush 6, 2) := by decide +kernel
theorem dL_begins_85 : decode cL_begins 85 = .ok (.if_icmp .ne 112, 3) := by decide +kernel
theorem dL_begins_88 : decode cL_begins 88 = .ok (.aload_n 0, 1) := by decide +kernel
theorem dL_begins_89 : decode cL_begins 89 = .ok (.iconst 0, 1) := by decide +kernel
theorem dL_begins_90 : decode cL_begins 90 = .ok (.invokevirtual 55, 3) := by decide +kernel
theorem dL_begins_93 : decode cL_begins 93 = .ok (.bipush 10, 2) := by decide +kernel
theorem dL_begins_95 : decode cL_begins 95 = .ok (.if_icmp .ne 102, 3) := by decide +kernel
theorem dL_begins_98 : decode cL_begins 98 = .ok (.aload_n 0, 1) := by decide +kernel
theorem dL_begins_99 : decode cL_begins 99 = .ok (.iconst 1, 1) := by decide +kernel
theorem dL_begins_100 : decode cL_begins 100 = .ok (.invokevirtual 55, 3) := by decide +kernel
theorem dL_begins_103 : decode cL_begins 103 = .ok (.bipush 10, 2) := by decide +kernel
theorem dL_begins_105 : decode cL_begins 105 = .ok (.if_icmp .ne 92, 3) := by decide +kernel
theorem dL_begins_108 : decode cL_begins 108 = .ok (.aload_n 0, 1) := by decide +kernel
theorem dL_begins_109 : decode cL_begins 109 = .ok (.iconst 0, 1) := by decide +kernel
theorem dL_begins_110 : decode cL_begins 110 = .ok (.iconst 0, 1) := by decide +kernel
theorem dL_begins_111 : decode cL_begins 111 = .ok (.invokevirtual 58, 3) := by decide +kernel
theorem dL_begins_114 : decode cL_begins 114 = .ok (.bipush 48, 2) := by decide +kernel
theorem dL_begins_116 : decode cL_begins 116 = .ok (.if_icmp .ne 81, 3) := by decide +kernel
theorem dL_begins_119 : decode cL_begins 119 = .ok (.aload_n 0, 1) := by decide +kernel
theorem dL_begins_120 : decode cL_begins 120 = .ok (.iconst 0, 1) := by decide +kernel
theorem dL_begins_121 : decode cL_begins 121 = .ok (.iconst 1, 1) := by decide +kernel
theorem dL_begins_122 : decode cL_begins 122 = .ok (.invokevirtual 58, 3) := by decide +kernel
theorem dL_begins_125 : decode cL_begins 125 = .ok (.bipush 50, 2) := by decide +kernel
theorem dL_begins_127 : decode cL_begins 127 = .ok (.if_icmp .ne 70, 3) := by decide +kernel
theorem dL_begins_130 : decode cL_begins 130 = .ok (.aload_n 0, 1) := by decide +kernel
theorem dL_begins_131 : decode cL_begins 131 = .ok (.iconst 0, 1) := by decide +kernel
theorem dL_begins_132 : decode cL_begins 132 = .ok (.iconst 2, 1) := by decide +kernel
theorem dL_begins_133 : decode cL_begins 133 = .ok (.invokevirtual 58, 3) := by decide +kernel
theorem dL_begins_136 : decode cL_begins 136 = .ok (.sipush 159, 3) := by decide +kernel
theorem dL_begins_139 : decode cL_begins 139 = .ok (.if_icmp .ne 58, 3) := by decide +kernel
theorem dL_begins_142 : decode cL_begins 142 = .ok (.aload_n 0, 1) := by decide +kernel
theorem dL_begins_143 : decode cL_begins 143 = .ok (.iconst 0, 1) := by decide +kernel
theorem dL_begins_144 : decode cL_begins 144 = .ok (.iconst 3, 1) := by decide +kernel
theorem dL_begins_145 : decode cL_begins 145 = .ok (.invokevirtual 58, 3) := by decide +kernel
theorem dL_begins_148 : decode cL_begins 148 = .ok (.sipush 161, 3) := by decide +kernel
theorem dL_begins_151 : decode cL_begins 151 = .ok (.if_icmp .ne 46, 3) := by decide +kernel
theorem dL_begins_154 : decode cL_begins 154 = .ok (.aload_n 0, 1) := by decide +kernel
theorem dL_begins_155 : decode cL_begins 155 = .ok (.iconst 0, 1) := by decide +kernel
theorem dL_begins_156 : decode cL_begins 156 = .ok (.iconst 4, 1) := by decide +kernel
theorem dL_begins_157 : decode cL_begins 157 = .ok (.invokevirtual 58, 3) := by decide +kernel
theorem dL_begins_160 : decode cL_begins 160 = .ok (.sipush 228, 3) := by decide +kernel
theorem dL_begins_163 : decode cL_begins 163 = .ok (.if_icmp .ne 34, 3) := by decide +kernel
theorem dL_begins_166 : decode cL_begins 166 = .ok (.aload_n 0, 1) := by decide +kernel
theorem dL_begins_167 : decode cL_begins 167 = .ok (.iconst 0, 1) := by decide +kernel
theorem dL_begins_168 : decode cL_begins 168 = .ok (.bipush 10, 2) := by decide +kernel
theorem dL_begins_170 : decode cL_begins 170 = .ok (.invokevirtual 58, 3) := by decide +kernel
theorem dL_begins_173 : decode cL_begins 173 = .ok (.bipush (-4), 2) := by decide +kernel
theorem dL_begins_175 : decode cL_begins 175 = .ok (.if_icmp .ne 22, 3) := by decide +kernel
theorem dL_begins_178 : decode cL_begins 178 = .ok (.aload_n 0, 1) := by decide +kernel
theorem dL_begins_179 : decode cL_begins 179 = .ok (.invokevirtual 141, 3) := by decide +kernel
theorem dL_begins_182 : decode cL_begins 182 = .ok (.bipush 100, 2) := by decide +kernel
theorem dL_begins_184 : decode cL_begins 184 = .ok (.if_icmp .ne 13, 3) := by decide +kernel
theorem dL_begins_187 : decode cL_begins 187 = .ok (.aload_n 0, 1) := by decide +kernel
theorem dL_begins_188 : decode cL_begins 188 = .ok (.invokevirtual 144, 3) := by decide +kernel
theorem dL_begins_191 : decode cL_begins 191 = .ok (.sipush 228, 3) := by decide +kernel
theorem dL_begins_194 : decode cL_begins 194 = .ok (.if_icmp .eq 5, 3) := by decide +kernel
theorem dL_begins_197 : decode cL_begins 197 = .ok (.iconst 0, 1) := by decide +kernel
theorem dL_begins_198 : decode cL_begins 198 = .ok (.ireturn, 1) := by decide +kernel
theorem dL_begins_199 : decode cL_begins 199 = .ok (.aload_n 0, 1) := by decide +kernel
theorem dL_begins_200 : decode cL_begins 200 = .ok (.bipush 6, 2) := by decide +kernel
theorem dL_begins_202 : decode cL_begins 202 = .ok (.bipush 12, 2) := by decide +kernel
theorem dL_begins_204 : decode cL_begins 204 = .ok (.invokevirtual 43, 3) := by decide +kernel
theorem dL_begins_207 : decode cL_begins 207 = .ok (.ifCond .ne 232, 3) := by decide +kernel
theorem dL_begins_210 : decode cL_begins 210 = .ok (.aload_n 0, 1) := by decide +kernel
theorem dL_begins_211 : decode cL_begins 211 = .ok (.bipush 12, 2) := by decide +kernel
theorem dL_begins_213 : decode cL_begins 213 = .ok (.bipush 18, 2) := by decide +kernel
theorem dL_begins_215 : decode cL_begins 215 = .ok (.invokevirtual 43, 3) := by decide +kernel
theorem dL_begins_218 : decode cL_begins 218 = .ok (.iconst 3, 1) := by decide +kernel
theorem dL_begins_219 : decode cL_begins 219 = .ok (.if_icmp .ne 220, 3) := by decide +kernel
theorem dL_begins_222 : decode cL_begins 222 = .ok (.aload_n 0, 1) := by decide +kernel
theorem dL_begins_223 : decode cL_begins 223 = .ok (.bipush 24, 2) := by decide +kernel
theorem dL_begins_225 : decode cL_begins 225 = .ok (.bipush 18, 2) := by decide +kernel
theorem dL_begins_227 : decode cL_begins 227 = .ok (.invokevirtual 43, 3) := by decide +kernel
theorem dL_begins_230 : decode cL_begins 230 = .ok (.iconst 4, 1) := by decide +kernel
theorem dL_begins_231 : decode cL_begins 231 = .ok (.if_icmp .ne 208, 3) := by decide +kernel
theorem dL_begins_234 : decode cL_begins 234 = .ok (.aload_n 0, 1) := by decide +kernel
theorem dL_begins_235 : decode cL_begins 235 = .ok (.iconst 0, 1) := by decide +kernel
theorem dL_begins_236 : decode cL_begins 236 = .ok (.bipush 6, 2) := by decide +kernel
theorem dL_begins_238 : decode cL_begins 238 = .ok (.invokevirtual 43, 3) := by decide +kernel
theorem dL_begins_241 : decode cL_begins 241 = .ok (.iconst 5, 1) := by decide +kernel
theorem dL_begins_242 : decode cL_begins 242 = .ok (.if_icmp .ne 197, 3) := by decide +kernel
theorem dL_begins_245 : decode cL_begins 245 = .ok (.aload_n 0, 1) := by decide +kernel
theorem dL_begins_246 : decode cL_begins 246 = .ok (.iconst 0, 1) := by decide +kernel
theorem dL_begins_247 : decode cL_begins 247 = .ok (.iconst 0, 1) := by decide +kernel
theorem dL_begins_248 : decode cL_begins 248 = .ok (.invokevirtual 43, 3) := by decide +kernel
theorem dL_begins_251 : decode cL_begins 251 = .ok (.iconst 5, 1) := by decide +kernel
theorem dL_begins_252 : decode cL_begins 252 = .ok (.if_icmp .ne 187, 3) := by decide +kernel
theorem dL_begins_255 : decode cL_begins 255 = .ok (.aload_n 0, 1) := by decide +kernel
theorem dL_begins_256 : decode cL_begins 256 = .ok (.bipush 6, 2) := by decide +kernel
theorem dL_begins_258 : decode cL_begins 258 = .ok (.bipush 18, 2) := by decide +kernel
theorem dL_begins_260 : decode cL_begins 260 = .ok (.invokevirtual 43, 3) := by decide +kernel
theorem dL_begins_263 : decode cL_begins 263 = .ok (.bipush 6, 2) := by decide +kernel
theorem dL_begins_265 : decode cL_begins 265 = .ok (.if_icmp .ne 174, 3) := by decide +kernel
theorem dL_begins_268 : decode cL_begins 268 = .ok (.aload_n 0, 1) := by decide +kernel
theorem dL_begins_269 : decode cL_begins 269 = .ok (.bipush 6, 2) := by decide +kernel
theorem dL_begins_271 : decode cL_begins 271 = .ok (.bipush 12, 2) := by decide +kernel
theorem dL_begins_273 : decode cL_begins 273 = .ok (.invokevirtual 46, 3) := by decide +kernel
theorem dL_begins_276 : decode cL_begins 276 = .ok (.iconst 1, 1) := by decide +kernel
theorem dL_begins_277 : decode cL_begins 277 = .ok (.if_icmp .ne 162, 3) := by decide +kernel
theorem dL_begins_280 : decode cL_begins 280 = .ok (.aload_n 0, 1) := by decide +kernel
theorem dL_begins_281 : decode cL_begins 281 = .ok (.iconst 1, 1) := by decide +kernel
theorem dL_begins_282 : decode cL_begins 282 = .ok (.bipush 12, 2) := by decide +kernel
theorem dL_begins_284 : decode cL_begins 284 = .ok (.invokevirtual 46, 3) := by decide +kernel
theorem dL_begins_287 : decode cL_begins 287 = .ok (.iconst 2, 1) := by decide +kernel
theorem dL_begins_288 : decode cL_begins 288 = .ok (.if_icmp .ne 151, 3) := by decide +kernel
theorem dL_begins_291 : decode cL_begins 291 = .ok (.aload_n 0, 1) := by decide +kernel
theorem dL_begins_292 : decode cL_begins 292 = .ok (.bipush 6, 2) := by decide +kernel
theorem dL_begins_294 : decode cL_begins 294 = .ok (.bipush 18, 2) := by decide +kernel
theorem dL_begins_296 : decode cL_begins 296 = .ok (.invokevirtual 46, 3) := by decide +kernel
theorem dL_begins_299 : decode cL_begins 299 = .ok (.bipush (-4), 2) := by decide +kernel
theorem dL_begins_301 : decode cL_begins 301 = .ok (.if_icmp .ne 138, 3) := by decide +kernel
theorem dL_begins_304 : decode cL_begins 304 = .ok (.aload_n 0, 1) := by decide +kernel
theorem dL_begins_305 : decode cL_begins 305 = .ok (.bipush 12, 2) := by decide +kernel
theorem dL_begins_307 : decode cL_begins 307 = .ok (.bipush 18, 2) := by decide +kernel
theorem dL_begins_309 : decode cL_begins 309 = .ok (.invokevirtual 46, 3) := by decide +kernel
theorem dL_begins_312 : decode cL_begins 312 = .ok (.bipush (-4), 2) := by decide +kernel
theorem dL_begins_314 : decode cL_begins 314 = .ok (.if_icmp .ne 125, 3) := by decide +kernel
theorem dL_begins_317 : decode cL_begins 317 = .ok (.aload_n 0, 1) := by decide +kernel
theorem dL_begins_318 : decode cL_begins 318 = .ok (.iconst 0, 1) := by decide +kernel
theorem dL_begins_319 : decode cL_begins 319 = .ok (.iconst 0, 1) := by decide +kernel
theorem dL_begins_320 : decode cL_begins 320 = .ok (.invokevirtual 46, 3) := by decide +kernel
theorem dL_begins_323 : decode cL_begins 323 = .ok (.bipush (-4), 2) := by decide +kernel
theorem dL_begins_325 : decode cL_begins 325 = .ok (.if_icmp .ne 114, 3) := by decide +kernel
theorem dL_begins_328 : decode cL_begins 328 = .ok (.aload_n 0, 1) := by decide +kernel
theorem dL_begins_329 : decode cL_begins 329 = .ok (.bipush 25, 2) := by decide +kernel
theorem dL_begins_331 : decode cL_begins 331 = .ok (.bipush 19, 2) := by decide +kernel
theorem dL_begins_333 : decode cL_begins 333 = .ok (.invokevirtual 46, 3) := by decide +kernel
theorem dL_begins_336 : decode cL_begins 336 = .ok (.iconst 1, 1) := by decide +kernel
theorem dL_begins_337 : decode cL_begins 337 = .ok (.if_icmp .ne 102, 3) := by decide +kernel
theorem dL_begins_340 : decode cL_begins 340 = .ok (.aload_n 0, 1) := by decide +kernel
theorem dL_begins_341 : decode cL_begins 341 = .ok (.bipush 12, 2) := by decide +kernel
theorem dL_begins_343 : decode cL_begins 343 = .ok (.iconst 0, 1) := by decide +kernel
theorem dL_begins_344 : decode cL_begins 344 = .ok (.invokevirtual 49, 3) := by decide +kernel
theorem dL_begins_347 : decode cL_begins 347 = .ok (.iconst 2, 1) := by decide +kernel
theorem dL_begins_348 : decode cL_begins 348 = .ok (.if_icmp .ne 91, 3) := by decide +kernel
theorem dL_begins_351 : decode cL_begins 351 = .ok (.aload_n 0, 1) := by decide +kernel
theorem dL_begins_352 : decode cL_begins 352 = .ok (.bipush 14, 2) := by decide +kernel
theorem dL_begins_354 : decode cL_begins 354 = .ok (.iconst 0, 1) := by decide +kernel
theorem dL_begins_355 : decode cL_begins 355 = .ok (.invokevirtual 49, 3) := by decide +kernel
theorem dL_begins_358 : decode cL_begins 358 = .ok (.iconst 3, 1) := by decide +kernel
theorem dL_begins_359 : decode cL_begins 359 = .ok (.if_icmp .ne 80, 3) := by decide +kernel
theorem dL_begins_362 : decode cL_begins 362 = .ok (.aload_n 0, 1) := by decide +kernel
theorem dL_begins_363 : decode cL_begins 363 = .ok (.iconst 1, 1) := by decide +kernel
theorem dL_begins_364 : decode cL_begins 364 = .ok (.iconst 0, 1) := by decide +kernel
theorem dL_begins_365 : decode cL_begins 365 = .ok (.invokevirtual 52, 3) := by decide +kernel
theorem dL_begins_368 : decode cL_begins 368 = .ok (.iconst 1, 1) := by decide +kernel
theorem dL_begins_369 : decode cL_begins 369 = .ok (.if_icmp .ne 70, 3) := by decide +kernel
theorem dL_begins_372 : decode cL_begins 372 = .ok (.aload_n 0, 1) := by decide +kernel
theorem dL_begins_373 : decode cL_begins 373 = .ok (.iconst 1, 1) := by decide +kernel
theorem dL_begins_374 : decode cL_begins 374 = .ok (.iconst 1, 1) := by decide +kernel
theorem dL_begins_375 : decode cL_begins 375 = .ok (.invokevirtual 52, 3) := by decide +kernel
theorem dL_begins_378 : decode cL_begins 378 = .ok (.iconst 3, 1) := by decide +kernel
theorem dL_begins_379 : decode cL_begins 379 = .ok (.if_icmp .ne 60, 3) := by decide +kernel
theorem dL_begins_382 : decode cL_begins 382 = .ok (.aload_n 0, 1) := by decide +kernel
theorem dL_begins_383 : decode cL_begins 383 = .ok (.iconst 1, 1) := by decide +kernel
theorem dL_begins_384 : decode cL_begins 384 = .ok (.iconst 2, 1) := by decide +kernel
theorem dL_begins_385 : decode cL_begins 385 = .ok (.invokevirtual 52, 3) := by decide +kernel
theorem dL_begins_388 : decode cL_begins 388 = .ok (.bipush 6, 2) := by decide +kernel
theorem dL_begins_390 : decode cL_begins 390 = .ok (.if_icmp .ne 49, 3) := by decide +kernel
theorem dL_begins_393 : decode cL_begins 393 = .ok (.aload_n 0, 1) := by decide +kernel
theorem dL_begins_394 : decode cL_begins 394 = .ok (.iconst 1, 1) := by decide +kernel
theorem dL_begins_395 : decode cL_begins 395 = .ok (.bipush 12, 2) := by decide +kernel
theorem dL_begins_397 : decode cL_begins 397 = .ok (.invokevirtual 52, 3) := by decide +kernel
theorem dL_begins_400 : decode cL_begins 400 = .ok (.bipush 6, 2) := by decide +kernel
theorem dL_begins_402 : decode cL_begins 402 = .ok (.if_icmp .ne 37, 3) := by decide +kernel
theorem dL_begins_405 : decode cL_begins 405 = .ok (.aload_n 0, 1) := by decide +kernel
theorem dL_begins_406 : decode cL_begins 406 = .ok (.bipush 12, 2) := by decide +kernel
theorem dL_begins_408 : decode cL_begins 408 = .ok (.iconst 1, 1) := by decide +kernel
theorem dL_begins_409 : decode cL_begins 409 = .ok (.invokevirtual 52, 3) := by decide +kernel
theorem dL_begins_412 : decode cL_begins 412 = .ok (.bipush (-4), 2) := by decide +kernel
theorem dL_begins_414 : decode cL_begins 414 = .ok (.if_icmp .ne 25, 3) := by decide +kernel
theorem dL_begins_417 : decode cL_begins 417 = .ok (.aload_n 0, 1) := by decide +kernel
theorem dL_begins_418 : decode cL_begins 418 = .ok (.invokevirtual 151, 3) := by decide +kernel
theorem dL_begins_421 : decode cL_begins 421 = .ok (.bipush (-2), 2) := by decide +kernel
theorem dL_begins_423 : decode cL_begins 423 = .ok (.if_icmp .ne 16, 3) := by decide +kernel
theorem dL_begins_426 : decode cL_begins 426 = .ok (.aload_n 0, 1) := by decide +kernel
theorem dL_begins_427 : decode cL_begins 427 = .ok (.bipush 6, 2) := by decide +kernel
theorem dL_begins_429 : decode cL_begins 429 = .ok (.bipush 18, 2) := by decide +kernel
theorem dL_begins_431 : decode cL_begins 431 = .ok (.invokevirtual 40, 3) := by decide +kernel
theorem dL_begins_434 : decode cL_begins 434 = .ok (.bipush (-2), 2) := by decide +kernel
theorem dL_begins_436 : decode cL_begins 436 = .ok (.if_icmp .eq 5, 3) := by decide +kernel
theorem dL_begins_439 : decode cL_begins 439 = .ok (.iconst 0, 1) := by decide +kernel
theorem dL_begins_440 : decode cL_begins 440 = .ok (.ireturn, 1) := by decide +kernel
theorem dL_begins_441 : decode cL_begins 441 = .ok (.aload_n 0, 1) := by decide +kernel
theorem dL_begins_442 : decode cL_begins 442 = .ok (.bipush 6, 2) := by decide +kernel
theorem dL_begins_444 : decode cL_begins 444 = .ok (.bipush 12, 2) := by decide +kernel
theorem dL_begins_446 : decode cL_begins 446 = .ok (.invokevirtual 40, 3) := by decide +kernel
theorem dL_begins_449 : decode cL_begins 449 = .ok (.iconst 1, 1) := by decide +kernel
theorem dL_begins_450 : decode cL_begins 450 = .ok (.if_icmp .ne 228, 3) := by decide +kernel
theorem dL_begins_453 : decode cL_begins 453 = .ok (.aload_n 0, 1) := by decide +kernel
theorem dL_begins_454 : decode cL_begins 454 = .ok (.iconst 0, 1) := by decide +kernel
theorem dL_begins_455 : decode cL_begins 455 = .ok (.invokevirtual 13, 3) := by decide +kernel
theorem dL_begins_458 : decode cL_begins 458 = .ok (.iconst 1, 1) := by decide +kernel
theorem dL_begins_459 : decode cL_begins 459 = .ok (.if_icmp .ne 219, 3) := by decide +kernel
theorem dL_begins_462 : decode cL_begins 462 = .ok (.aload_n 0, 1) := by decide +kernel
theorem dL_begins_463 : decode cL_begins 463 = .ok (.iconst 3, 1) := by decide +kernel
theorem dL_begins_464 : decode cL_begins 464 = .ok (.invokevirtual 13, 3) := by decide +kernel
theorem dL_begins_467 : decode cL_begins 467 = .ok (.iconst 1, 1) := by decide +kernel
theorem dL_begins_468 : decode cL_begins 468 = .ok (.if_icmp .ne 210, 3) := by decide +kernel
theorem dL_begins_471 : decode cL_begins 471 = .ok (.aload_n 0, 1) := by decide +kernel
theorem dL_begins_472 : decode cL_begins 472 = .ok (.bipush 6, 2) := by decide +kernel
theorem dL_begins_474 : decode cL_begins 474 = .ok (.invokevirtual 13, 3) := by decide +kernel
theorem dL_begins_477 : decode cL_begins 477 = .ok (.bipush 47, 2) := by decide +kernel
theorem dL_begins_479 : decode cL_begins 479 = .ok (.if_icmp .ne 199, 3) := by decide +kernel
theorem dL_begins_482 : decode cL_begins 482 = .ok (.aload_n 0, 1) := by decide +kernel
theorem dL_begins_483 : decode cL_begins 483 = .ok (.bipush 7, 2) := by decide +kernel
theorem dL_begins_485 : decode cL_begins 485 = .ok (.invokevirtual 13, 3) := by decide +kernel
theorem dL_begins_488 : decode cL_begins 488 = .ok (.bipush 52, 2) := by decide +kernel
theorem dL_begins_490 : decode cL_begins 490 = .ok (.if_icmp .ne 188, 3) := by decide +kernel
theorem dL_begins_493 : decode cL_begins 493 = .ok (.aload_n 0, 1) := by decide +kernel
theorem dL_begins_494 : decode cL_begins 494 = .ok (.bipush 21, 2) := by decide +kernel
theorem dL_begins_496 : decode cL_begins 496 = .ok (.invokevirtual 13, 3) := by decide +kernel
theorem dL_begins_499 : decode cL_begins 499 = .ok (.iconst 4, 1) := by decide +kernel
theorem dL_begins_500 : decode cL_begins 500 = .ok (.if_icmp .ne 178, 3) := by decide +kernel
theorem dL_begins_503 : decode cL_begins 503 = .ok (.aload_n 0, 1) := by decide +kernel
theorem dL_begins_504 : decode cL_begins 504 = .ok (.bipush 23, 2) := by decide +kernel
theorem dL_begins_506 : decode cL_begins 506 = .ok (.invokevirtual 13, 3) := by decide +kernel
theorem dL_begins_509 : decode cL_begins 509 = .ok (.iconst 1, 1) := by decide +kernel
theorem dL_begins_510 : decode cL_begins 510 = .ok (.if_icmp .ne 168, 3) := by decide +kernel
theorem dL_begins_513 : decode cL_begins 513 = .ok (.aload_n 0, 1) := by decide +kernel
theorem dL_begins_514 : decode cL_begins 514 = .ok (.bipush 30, 2) := by decide +kernel
theorem dL_begins_516 : decode cL_begins 516 = .ok (.iconst 2, 1) := by decide +kernel
theorem dL_begins_517 : decode cL_begins 517 = .ok (.invokevirtual 25, 3) := by decide +kernel
theorem dL_begins_520 : decode cL_begins 520 = .ok (.bipush 6, 2) := by decide +kernel
theorem dL_begins_522 : decode cL_begins 522 = .ok (.if_icmp .ne 156, 3) := by decide +kernel
theorem dL_begins_525 : decode cL_begins 525 = .ok (.aload_n 0, 1) := by decide +kernel
theorem dL_begins_526 : decode cL_begins 526 = .ok (.bipush 25, 2) := by decide +kernel
theorem dL_begins_528 : decode cL_begins 528 = .ok (.bipush 19, 2) := by decide +kernel
theorem dL_begins_530 : decode cL_begins 530 = .ok (.invokevirtual 40, 3) := by decide +kernel
theorem dL_begins_533 : decode cL_begins 533 = .ok (.iconst 1, 1) := by decide +kernel
theorem dL_begins_534 : decode cL_begins 534 = .ok (.if_icmp .ne 144, 3) := by decide +kernel
theorem dL_begins_537 : decode cL_begins 537 = .ok (.aload_n 0, 1) := by decide +kernel
theorem dL_begins_538 : decode cL_begins 538 = .ok (.bipush 21, 2) := by decide +kernel
theorem dL_begins_540 : decode cL_begins 540 = .ok (.invokevirtual 13, 3) := by decide +kernel
theorem dL_begins_543 : decode cL_begins 543 = .ok (.bipush 8, 2) := by decide +kernel
theorem dL_begins_545 : decode cL_begins 545 = .ok (.if_icmp .ne 133, 3) := by decide +kernel
theorem dL_begins_548 : decode cL_begins 548 = .ok (.aload_n 0, 1) := by decide +kernel
theorem dL_begins_549 : decode cL_begins 549 = .ok (.bipush 12, 2) := by decide +kernel
theorem dL_begins_551 : decode cL_begins 551 = .ok (.bipush 19, 2) := by decide +kernel
theorem dL_begins_553 : decode cL_begins 553 = .ok (.invokevirtual 43, 3) := by decide +kernel
theorem dL_begins_556 : decode cL_begins 556 = .ok (.ifCond .ne 122, 3) := by decide +kernel
theorem dL_begins_559 : decode cL_begins 559 = .ok (.aload_n 0, 1) := by decide +kernel
theorem dL_begins_560 : decode cL_begins 560 = .ok (.bipush 12, 2) := by decide +kernel
theorem dL_begins_562 : decode cL_begins 562 = .ok (.bipush 19, 2) := by decide +kernel
theorem dL_begins_564 : decode cL_begins 564 = .ok (.invokevirtual 40, 3) := by decide +kernel
theorem dL_begins_567 : decode cL_begins 567 = .ok (.iconst 1, 1) := by decide +kernel
theorem dL_begins_568 : decode cL_begins 568 = .ok (.if_icmp .ne 110, 3) := by decide +kernel
theorem dL_begins_571 : decode cL_begins 571 = .ok (.aload_n 0, 1) := by decide +kernel
theorem dL_begins_572 : decode cL_begins 572 = .ok (.bipush 19, 2) := by decide +kernel
theorem dL_begins_574 : decode cL_begins 574 = .ok (.iconst 2, 1) := by decide +kernel
theorem dL_begins_575 : decode cL_begins 575 = .ok (.invokevirtual 25, 3) := by decide +kernel
theorem dL_begins_578 : decode cL_begins 578 = .ok (.iconst 4, 1) := by decide +kernel
theorem dL_begins_579 : decode cL_begins 579 = .ok (.if_icmp .ne 99, 3) := by decide +kernel
theorem dL_begins_582 : decode cL_begins 582 = .ok (.aload_n 0, 1) := by decide +kernel
theorem dL_begins_583 : decode cL_begins 583 = .ok (.bipush 19, 2) := by decide +kernel
theorem dL_begins_585 : decode cL_begins 585 = .ok (.iconst 0, 1) := by decide +kernel
theorem dL_begins_586 : decode cL_begins 586 = .ok (.invokevirtual 25, 3) := by decide +kernel
theorem dL_begins_589 : decode cL_begins 589 = .ok (.ifCond .ne 89, 3) := by decide +kernel
theorem dL_begins_592 : decode cL_begins 592 = .ok (.aload_n 0, 1) := by decide +kernel
theorem dL_begins_593 : decode cL_begins 593 = .ok (.bipush 12, 2) := by decide +kernel
theorem dL_begins_595 : decode cL_begins 595 = .ok (.iconst 0, 1) := by decide +kernel
theorem dL_begins_596 : decode cL_begins 596 = .ok (.invokevirtual 25, 3) := by decide +kernel
theorem dL_begins_599 : decode cL_begins 599 = .ok (.bipush (-4), 2) := by decide +kernel
theorem dL_begins_601 : decode cL_begins 601 = .ok (.if_icmp .ne 77, 3) := by decide +kernel
theorem dL_begins_604 : decode cL_begins 604 = .ok (.aload_n 0, 1) := by decide +kernel
theorem dL_begins_605 : decode cL_begins 605 = .ok (.bipush 12, 2) := by decide +kernel
theorem dL_begins_607 : decode cL_begins 607 = .ok (.iconst 4, 1) := by decide +kernel
theorem dL_begins_608 : decode cL_begins 608 = .ok (.invokevirtual 25, 3) := by decide +kernel
theorem dL_begins_611 : decode cL_begins 611 = .ok (.bipush (-4), 2) := by decide +kernel
theorem dL_begins_613 : decode cL_begins 613 = .ok (.if_icmp .ne 65, 3) := by decide +kernel
theorem dL_begins_616 : decode cL_begins 616 = .ok (.aload_n 0, 1) := by decide +kernel
theorem dL_begins_617 : decode cL_begins 617 = .ok (.bipush 22, 2) := by decide +kernel
theorem dL_begins_619 : decode cL_begins 619 = .ok (.invokevirtual 13, 3) := by decide +kernel
theorem dL_begins_622 : decode cL_begins 622 = .ok (.iconst 1, 1) := by decide +kernel
theorem dL_begins_623 : decode cL_begins 623 = .ok (.if_icmp .ne 55, 3) := by decide +kernel
theorem dL_begins_626 : decode cL_begins 626 = .ok (.aload_n 0, 1) := by decide +kernel
theorem dL_begins_627 : decode cL_begins 627 = .ok (.bipush 24, 2) := by decide +kernel
theorem dL_begins_629 : decode cL_begins 629 = .ok (.invokevirtual 13, 3) := by decide +kernel
theorem dL_begins_632 : decode cL_begins 632 = .ok (.iconst 2, 1) := by decide +kernel
theorem dL_begins_633 : decode cL_begins 633 = .ok (.if_icmp .ne 45, 3) := by decide +kernel
theorem dL_begins_636 : decode cL_begins 636 = .ok (.aload_n 0, 1) := by decide +kernel
theorem dL_begins_637 : decode cL_begins 637 = .ok (.bipush 23, 2) := by decide +kernel
theorem dL_begins_639 : decode cL_begins 639 = .ok (.invokevirtual 13, 3) := by decide +kernel
theorem dL_begins_642 : decode cL_begins 642 = .ok (.iconst 3, 1) := by decide +kernel
theorem dL_begins_643 : decode cL_begins 643 = .ok (.if_icmp .ne 35, 3) := by decide +kernel
theorem dL_begins_646 : decode cL_begins 646 = .ok (.aload_n 0, 1) := by decide +kernel
theorem dL_begins_647 : decode cL_begins 647 = .ok (.bipush 21, 2) := by decide +kernel
theorem dL_begins_649 : decode cL_begins 649 = .ok (.invokevirtual 13, 3) := by decide +kernel
theorem dL_begins_652 : decode cL_begins 652 = .ok (.bipush 12, 2) := by decide +kernel
theorem dL_begins_654 : decode cL_begins 654 = .ok (.if_icmp .ne 24, 3) := by decide +kernel
theorem dL_begins_657 : decode cL_begins 657 = .ok (.aload_n 0, 1) := by decide +kernel
theorem dL_begins_658 : decode cL_begins 658 = .ok (.bipush 25, 2) := by decide +kernel
theorem dL_begins_660 : decode cL_begins 660 = .ok (.invokevirtual 13, 3) := by decide +kernel
theorem dL_begins_663 : decode cL_begins 663 = .ok (.bipush 104, 2) := by decide +kernel
theorem dL_begins_665 : decode cL_begins 665 = .ok (.if_icmp .ne 13, 3) := by decide +kernel
theorem dL_begins_668 : decode cL_begins 668 = .ok (.aload_n 0, 1) := by decide +kernel
theorem dL_begins_669 : decode cL_begins 669 = .ok (.iconst 4, 1) := by decide +kernel
theorem dL_begins_670 : decode cL_begins 670 = .ok (.invokevirtual 13, 3) := by decide +kernel
theorem dL_begins_673 : decode cL_begins 673 = .ok (.bipush 23, 2) := by decide +kernel
theorem dL_begins_675 : decode cL_begins 675 = .ok (.if_icmp .eq 5, 3) := by decide +kernel
theorem dL_begins_678 : decode cL_begins 678 = .ok (.iconst 0, 1) := by decide +kernel
theorem dL_begins_679 : decode cL_begins 679 = .ok (.ireturn, 1) := by decide +kernel
theorem dL_begins_680 : decode cL_begins 680 = .ok (.aload_n 0, 1) := by decide +kernel
theorem dL_begins_681 : decode cL_begins 681 = .ok (.iconst 0, 1) := by decide +kernel
theorem dL_begins_682 : decode cL_begins 682 = .ok (.iconst 3, 1) := by decide +kernel
theorem dL_begins_683 : decode cL_begins 683 = .ok (.invokevirtual 64, 3) := by decide +kernel
theorem dL_begins_686 : decode cL_begins 686 = .ok (.bipush 9, 2) := by decide +kernel
theorem dL_begins_688 : decode cL_begins 688 = .ok (.if_icmp .ne 98, 3) := by decide +kernel
theorem dL_begins_691 : decode cL_begins 691 = .ok (.aload_n 0, 1) := by decide +kernel
theorem dL_begins_692 : decode cL_begins 692 = .ok (.bipush 30, 2) := by decide +kernel
theorem dL_begins_694 : decode cL_begins 694 = .ok (.iconst 2, 1) := by decide +kernel
theorem dL_begins_695 : decode cL_begins 695 = .ok (.invokevirtual 25, 3) := by decide +kernel
theorem dL_begins_698 : decode cL_begins 698 = .ok (.iconst 3, 1) := by decide +kernel
theorem dL_begins_699 : decode cL_begins 699 = .ok (.if_icmp .ne 87, 3) := by decide +kernel
theorem dL_begins_702 : decode cL_begins 702 = .ok (.aload_n 0, 1) := by decide +kernel
theorem dL_begins_703 : decode cL_begins 703 = .ok (.bipush 26, 2) := by decide +kernel
theorem dL_begins_705 : decode cL_begins 705 = .ok (.invokevirtual 13, 3) := by decide +kernel
theorem dL_begins_708 : decode cL_begins 708 = .ok (.iconst 3, 1) := by decide +kernel
theorem dL_begins_709 : decode cL_begins 709 = .ok (.aload_n 0, 1) := by decide +kernel
theorem dL_begins_710 : decode cL_begins 710 = .ok (.iconst 4, 1) := by decide +kernel
theorem dL_begins_711 : decode cL_begins 711 = .ok (.invokevirtual 13, 3) := by decide +kernel
theorem dL_begins_714 : decode cL_begins 714 = .ok (.imul, 1) := by decide +kernel
theorem dL_begins_715 : decode cL_begins 715 = .ok (.bipush 104, 2) := by decide +kernel
theorem dL_begins_717 : decode cL_begins 717 = .ok (.isub, 1) := by decide +kernel
theorem dL_begins_718 : decode cL_begins 718 = .ok (.aload_n 0, 1) := by decide +kernel
theorem dL_begins_719 : decode cL_begins 719 = .ok (.bipush 25, 2) := by decide +kernel
theorem dL_begins_721 : decode cL_begins 721 = .ok (.invokevirtual 13, 3) := by decide +kernel
theorem dL_begins_724 : decode cL_begins 724 = .ok (.iconst 3, 1) := by decide +kernel
theorem dL_begins_725 : decode cL_begins 725 = .ok (.aload_n 0, 1) := by decide +kernel
theorem dL_begins_726 : decode cL_begins 726 = .ok (.iconst 4, 1) := by decide +kernel
theorem dL_begins_727 : decode cL_begins 727 = .ok (.invokevirtual 13, 3) := by decide +kernel
theorem dL_begins_730 : decode cL_begins 730 = .ok (.imul, 1) := by decide +kernel
theorem dL_begins_731 : decode cL_begins 731 = .ok (.isub, 1) := by decide +kernel
theorem dL_begins_732 : decode cL_begins 732 = .ok (.iadd, 1) := by decide +kernel
theorem dL_begins_733 : decode cL_begins 733 = .ok (.if_icmp .ne 53, 3) := by decide +kernel
theorem dL_begins_736 : decode cL_begins 736 = .ok (.aload_n 0, 1) := by decide +kernel
theorem dL_begins_737 : decode cL_begins 737 = .ok (.invokevirtual 138, 3) := by decide +kernel
theorem dL_begins_740 : decode cL_begins 740 = .ok (.iconst 3, 1) := by decide +kernel
theorem dL_begins_741 : decode cL_begins 741 = .ok (.if_icmp .ne 45, 3) := by decide +kernel
theorem dL_begins_744 : decode cL_begins 744 = .ok (.aload_n 0, 1) := by decide +kernel
theorem dL_begins_745 : decode cL_begins 745 = .ok (.bipush 30, 2) := by decide +kernel
theorem dL_begins_747 : decode cL_begins 747 = .ok (.iconst 2, 1) := by decide +kernel
theorem dL_begins_748 : decode cL_begins 748 = .ok (.invokevirtual 25, 3) := by decide +kernel
theorem dL_begins_751 : decode cL_begins 751 = .ok (.bipush 8, 2) := by decide +kernel
theorem dL_begins_753 : decode cL_begins 753 = .ok (.if_icmp .ne 33, 3) := by decide +kernel
theorem dL_begins_756 : decode cL_begins 756 = .ok (.aload_n 0, 1) := by decide +kernel
theorem dL_begins_757 : decode cL_begins 757 = .ok (.invokevirtual 154, 3) := by decide +kernel
theorem dL_begins_760 : decode cL_begins 760 = .ok (.bipush 96, 2) := by decide +kernel
theorem dL_begins_762 : decode cL_begins 762 = .ok (.if_icmp .ne 24, 3) := by decide +kernel
theorem dL_begins_765 : decode cL_begins 765 = .ok (.aload_n 0, 1) := by decide +kernel
theorem dL_begins_766 : decode cL_begins 766 = .ok (.iconst 3, 1) := by decide +kernel
theorem dL_begins_767 : decode cL_begins 767 = .ok (.invokevirtual 13, 3) := by decide +kernel
theorem dL_begins_770 : decode cL_begins 770 = .ok (.ifCond .ne 16, 3) := by decide +kernel
theorem dL_begins_773 : decode cL_begins 773 = .ok (.aload_n 0, 1) := by decide +kernel
theorem dL_begins_774 : decode cL_begins 774 = .ok (.bipush 21, 2) := by decide +kernel
theorem dL_begins_776 : decode cL_begins 776 = .ok (.invokevirtual 13, 3) := by decide +kernel
theorem dL_begins_779 : decode cL_begins 779 = .ok (.ifCond .ne 7, 3) := by decide +kernel
theorem dL_begins_782 : decode cL_begins 782 = .ok (.iconst 1, 1) := by decide +kernel
theorem dL_begins_783 : decode cL_begins 783 = .ok (.goto 4, 3) := by decide +kernel
theorem dL_begins_786 : decode cL_begins 786 = .ok (.iconst 0, 1) := by decide +kernel
theorem dL_begins_787 : decode cL_begins 787 = .ok (.ireturn, 1) := by decide +kernel
theorem dL_known_0 : decode cL_known 0 = .ok (.new 14, 3) := by decide +kernel
theorem dL_known_3 : decode cL_known 3 = .ok (.dup, 1) := by decide +kernel
theorem dL_known_4 : decode cL_known 4 = .ok (.invokespecial 80, 3) := by decide +kernel
theorem dL_known_7 : decode cL_known 7 = .ok (.astore_n 0, 1) := by decide +kernel
theorem dL_known_8 : decode cL_known 8 = .ok (.aload_n 0, 1) := by decide +kernel
theorem dL_known_9 : decode cL_known 9 = .ok (.invokestatic 157, 3) := by decide +kernel
theorem dL_known_12 : decode cL_known 12 = .ok (.ifCond .eq 196, 3) := by decide +kernel
theorem dL_known_15 : decode cL_known 15 = .ok (.aload_n 0, 1) := by decide +kernel
theorem dL_known_16 : decode cL_known 16 = .ok (.bipush 26, 2) := by decide +kernel
theorem dL_known_18 : decode cL_known 18 = .ok (.invokevirtual 13, 3) := by decide +kernel
theorem dL_known_21 : decode cL_known 21 = .ok (.bipush (-96), 2) := by decide +kernel
theorem dL_known_23 : decode cL_known 23 = .ok (.if_icmp .ne 185, 3) := by decide +kernel
theorem dL_known_26 : decode cL_known 26 = .ok (.aload_n 0, 1) := by decide +kernel
theorem dL_known_27 : decode cL_known 27 = .ok (.bipush 14, 2) := by decide +kernel
theorem dL_known_29 : decode cL_known 29 = .ok (.iconst 0, 1) := by decide +kernel
theorem dL_known_30 : decode cL_known 30 = .ok (.iconst 1, 1) := by decide +kernel
theorem dL_known_31 : decode cL_known 31 = .ok (.iconst 5, 1) := by decide +kernel
theorem dL_known_32 : decode cL_known 32 = .ok (.invokevirtual 33, 3) := by decide +kernel
theorem dL_known_35 : decode cL_known 35 = .ok (.ifCond .ne 173, 3) := by decide +kernel
theorem dL_known_38 : decode cL_known 38 = .ok (.aload_n 0, 1) := by decide +kernel
theorem dL_known_39 : decode cL_known 39 = .ok (.bipush 16, 2) := by decide +kernel
theorem dL_known_41 : decode cL_known 41 = .ok (.iconst 1, 1) := by decide +kernel
theorem dL_known_42 : decode cL_known 42 = .ok (.iconst 0, 1) := by decide +kernel
theorem dL_known_43 : decode cL_known 43 = .ok (.iconst 3, 1) := by decide +kernel
theorem dL_known_44 : decode cL_known 44 = .ok (.invokevirtual 33, 3) := by decide +kernel
theorem dL_known_47 : decode cL_known 47 = .ok (.ifCond .ne 161, 3) := by decide +kernel
theorem dL_known_50 : decode cL_known 50 = .ok (.aload_n 0, 1) := by decide +kernel
theorem dL_known_51 : decode cL_known 51 = .ok (.bipush 8, 2) := by decide +kernel
theorem dL_known_53 : decode cL_known 53 = .ok (.iconst 0, 1) := by decide +kernel
theorem dL_known_54 : decode cL_known 54 = .ok (.iconst 2, 1) := by decide +kernel
theorem dL_known_55 : decode cL_known 55 = .ok (.iconst 0, 1) := by decide +kernel
theorem dL_known_56 : decode cL_known 56 = .ok (.invokevirtual 33, 3) := by decide +kernel
theorem dL_known_59 : decode cL_known 59 = .ok (.ifCond .ne 149, 3) := by decide +kernel
theorem dL_known_62 : decode cL_known 62 = .ok (.aload_n 0, 1) := by decide +kernel
theorem dL_known_63 : decode cL_known 63 = .ok (.bipush 8, 2) := by decide +kernel
theorem dL_known_65 : decode cL_known 65 = .ok (.bipush 22, 2) := by decide +kernel
theorem dL_known_67 : decode cL_known 67 = .ok (.invokevirtual 46, 3) := by decide +kernel
theorem dL_known_70 : decode cL_known 70 = .ok (.iconst 2, 1) := by decide +kernel
theorem dL_known_71 : decode cL_known 71 = .ok (.if_icmp .ne 137, 3) := by decide +kernel
theorem dL_known_74 : decode cL_known 74 = .ok (.aload_n 0, 1) := by decide +kernel
theorem dL_known_75 : decode cL_known 75 = .ok (.bipush 8, 2) := by decide +kernel
theorem dL_known_77 : decode cL_known 77 = .ok (.iconst 1, 1) := by decide +kernel
theorem dL_known_78 : decode cL_known 78 = .ok (.invokevirtual 46, 3) := by decide +kernel
theorem dL_known_81 : decode cL_known 81 = .ok (.iconst 1, 1) := by decide +kernel
theorem dL_known_82 : decode cL_known 82 = .ok (.if_icmp .ne 126, 3) := by decide +kernel
theorem dL_known_85 : decode cL_known 85 = .ok (.aload_n 0, 1) := by decide +kernel
theorem dL_known_86 : decode cL_known 86 = .ok (.bipush 8, 2) := by decide +kernel
theorem dL_known_88 : decode cL_known 88 = .ok (.iconst 1, 1) := by decide +kernel
theorem dL_known_89 : decode cL_known 89 = .ok (.invokevirtual 43, 3) := by decide +kernel
theorem dL_known_92 : decode cL_known 92 = .ok (.bipush 7, 2) := by decide +kernel
theorem dL_known_94 : decode cL_known 94 = .ok (.if_icmp .ne 114, 3) := by decide +kernel
theorem dL_known_97 : decode cL_known 97 = .ok (.aload_n 0, 1) := by decide +kernel
theorem dL_known_98 : decode cL_known 98 = .ok (.bipush 14, 2) := by decide +kernel
theorem dL_known_100 : decode cL_known 100 = .ok (.bipush 16, 2) := by decide +kernel
theorem dL_known_102 : decode cL_known 102 = .ok (.invokevirtual 43, 3) := by decide +kernel
theorem dL_known_105 : decode cL_known 105 = .ok (.ifCond .ne 103, 3) := by decide +kernel
theorem dL_known_108 : decode cL_known 108 = .ok (.aload_n 0, 1) := by decide +kernel
theorem dL_known_109 : decode cL_known 109 = .ok (.invokevirtual 144, 3) := by decide +kernel
theorem dL_known_112 : decode cL_known 112 = .ok (.sipush 520, 3) := by decide +kernel
theorem dL_known_115 : decode cL_known 115 = .ok (.if_icmp .ne 93, 3) := by decide +kernel
theorem dL_known_118 : decode cL_known 118 = .ok (.aload_n 0, 1) := by decide +kernel
theorem dL_known_119 : decode cL_known 119 = .ok (.iconst 1, 1) := by decide +kernel
theorem dL_known_120 : decode cL_known 120 = .ok (.invokevirtual 55, 3) := by decide +kernel
theorem dL_known_123 : decode cL_known 123 = .ok (.bipush 8, 2) := by decide +kernel
theorem dL_known_125 : decode cL_known 125 = .ok (.if_icmp .ne 83, 3) := by decide +kernel
theorem dL_known_128 : decode cL_known 128 = .ok (.aload_n 0, 1) := by decide +kernel
theorem dL_known_129 : decode cL_known 129 = .ok (.bipush 14, 2) := by decide +kernel
theorem dL_known_131 : decode cL_known 131 = .ok (.bipush 16, 2) := by decide +kernel
theorem dL_known_133 : decode cL_known 133 = .ok (.invokevirtual 40, 3) := by decide +kernel
theorem dL_known_136 : decode cL_known 136 = .ok (.iconst 2, 1) := by decide +kernel
theorem dL_known_137 : decode cL_known 137 = .ok (.if_icmp .ne 71, 3) := by decide +kernel
theorem dL_known_140 : decode cL_known 140 = .ok (.aload_n 0, 1) := by decide +kernel
theorem dL_known_141 : decode cL_known 141 = .ok (.bipush 16, 2) := by decide +kernel
theorem dL_known_143 : decode cL_known 143 = .ok (.iconst 2, 1) := by decide +kernel
theorem dL_known_144 : decode cL_known 144 = .ok (.invokevirtual 25, 3) := by decide +kernel
theorem dL_known_147 : decode cL_known 147 = .ok (.iconst 5, 1) := by decide +kernel
theorem dL_known_148 : decode cL_known 148 = .ok (.if_icmp .ne 60, 3) := by decide +kernel
theorem dL_known_151 : decode cL_known 151 = .ok (.aload_n 0, 1) := by decide +kernel
theorem dL_known_152 : decode cL_known 152 = .ok (.bipush 16, 2) := by decide +kernel
theorem dL_known_154 : decode cL_known 154 = .ok (.iconst 1, 1) := by decide +kernel
theorem dL_known_155 : decode cL_known 155 = .ok (.invokevirtual 25, 3) := by decide +kernel
theorem dL_known_158 : decode cL_known 158 = .ok (.iconst 1, 1) := by decide +kernel
theorem dL_known_159 : decode cL_known 159 = .ok (.if_icmp .ne 49, 3) := by decide +kernel
theorem dL_known_162 : decode cL_known 162 = .ok (.aload_n 0, 1) := by decide +kernel
theorem dL_known_163 : decode cL_known 163 = .ok (.iconst 1, 1) := by decide +kernel
theorem dL_known_164 : decode cL_known 164 = .ok (.invokevirtual 13, 3) := by decide +kernel
theorem dL_known_167 : decode cL_known 167 = .ok (.iconst 1, 1) := by decide +kernel
theorem dL_known_168 : decode cL_known 168 = .ok (.if_icmp .ne 40, 3) := by decide +kernel
theorem dL_known_171 : decode cL_known 171 = .ok (.aload_n 0, 1) := by decide +kernel
theorem dL_known_172 : decode cL_known 172 = .ok (.iconst 2, 1) := by decide +kernel
theorem dL_known_173 : decode cL_known 173 = .ok (.invokevirtual 13, 3) := by decide +kernel
theorem dL_known_176 : decode cL_known 176 = .ok (.ifCond .ne 32, 3) := by decide +kernel
theorem dL_known_179 : decode cL_known 179 = .ok (.aload_n 0, 1) := by decide +kernel
theorem dL_known_180 : decode cL_known 180 = .ok (.bipush 21, 2) := by decide +kernel
theorem dL_known_182 : decode cL_known 182 = .ok (.invokevirtual 13, 3) := by decide +kernel
theorem dL_known_185 : decode cL_known 185 = .ok (.ifCond .ne 23, 3) := by decide +kernel
theorem dL_known_188 : decode cL_known 188 = .ok (.aload_n 0, 1) := by decide +kernel
theorem dL_known_189 : decode cL_known 189 = .ok (.bipush 24, 2) := by decide +kernel
theorem dL_known_191 : decode cL_known 191 = .ok (.invokevirtual 13, 3) := by decide +kernel
theorem dL_known_194 : decode cL_known 194 = .ok (.iconst 2, 1) := by decide +kernel
theorem dL_known_195 : decode cL_known 195 = .ok (.if_icmp .ne 13, 3) := by decide +kernel
theorem dL_known_198 : decode cL_known 198 = .ok (.aload_n 0, 1) := by decide +kernel
theorem dL_known_199 : decode cL_known 199 = .ok (.bipush 22, 2) := by decide +kernel
theorem dL_known_201 : decode cL_known 201 = .ok (.invokevirtual 13, 3) := by decide +kernel
theorem dL_known_204 : decode cL_known 204 = .ok (.iconst 1, 1) := by decide +kernel
theorem dL_known_205 : decode cL_known 205 = .ok (.if_icmp .eq 5, 3) := by decide +kernel
theorem dL_known_208 : decode cL_known 208 = .ok (.iconst 0, 1) := by decide +kernel
theorem dL_known_209 : decode cL_known 209 = .ok (.ireturn, 1) := by decide +kernel
theorem dL_known_210 : decode cL_known 210 = .ok (.aload_n 0, 1) := by decide +kernel
theorem dL_known_211 : decode cL_known 211 = .ok (.bipush 16, 2) := by decide +kernel
theorem dL_known_213 : decode cL_known 213 = .ok (.bipush 17, 2) := by decide +kernel
theorem dL_known_215 : decode cL_known 215 = .ok (.invokevirtual 43, 3) := by decide +kernel
theorem dL_known_218 : decode cL_known 218 = .ok (.iconst 2, 1) := by decide +kernel
theorem dL_known_219 : decode cL_known 219 = .ok (.if_icmp .ne 116, 3) := by decide +kernel
theorem dL_known_222 : decode cL_known 222 = .ok (.aload_n 0, 1) := by decide +kernel
theorem dL_known_223 : decode cL_known 223 = .ok (.bipush 16, 2) := by decide +kernel
theorem dL_known_225 : decode cL_known 225 = .ok (.bipush 17, 2) := by decide +kernel
theorem dL_known_227 : decode cL_known 227 = .ok (.invokevirtual 40, 3) := by decide +kernel
theorem dL_known_230 : decode cL_known 230 = .ok (.bipush (-2), 2) := by decide +kernel
theorem dL_known_232 : decode cL_known 232 = .ok (.if_icmp .ne 103, 3) := by decide +kernel
theorem dL_known_235 : decode cL_known 235 = .ok (.aload_n 0, 1) := by decide +kernel
theorem dL_known_236 : decode cL_known 236 = .ok (.iconst 0, 1) := by decide +kernel
theorem dL_known_237 : decode cL_known 237 = .ok (.iconst 0, 1) := by decide +kernel
theorem dL_known_238 : decode cL_known 238 = .ok (.iconst 0, 1) := by decide +kernel
theorem dL_known_239 : decode cL_known 239 = .ok (.iconst 0, 1) := by decide +kernel
theorem dL_known_240 : decode cL_known 240 = .ok (.invokevirtual 33, 3) := by decide +kernel
theorem dL_known_243 : decode cL_known 243 = .ok (.bipush (-2), 2) := by decide +kernel
theorem dL_known_245 : decode cL_known 245 = .ok (.if_icmp .ne 90, 3) := by decide +kernel
theorem dL_known_248 : decode cL_known 248 = .ok (.aload_n 0, 1) := by decide +kernel
theorem dL_known_249 : decode cL_known 249 = .ok (.iconst 0, 1) := by decide +kernel
theorem dL_known_250 : decode cL_known 250 = .ok (.iconst 0, 1) := by decide +kernel
theorem dL_known_251 : decode cL_known 251 = .ok (.iconst 0, 1) := by decide +kernel
theorem dL_known_252 : decode cL_known 252 = .ok (.bipush 13, 2) := by decide +kernel
theorem dL_known_254 : decode cL_known 254 = .ok (.invokevirtual 33, 3) := by decide +kernel
theorem dL_known_257 : decode cL_known 257 = .ok (.iconst (-1), 1) := by decide +kernel
theorem dL_known_258 : decode cL_known 258 = .ok (.if_icmp .ne 77, 3) := by decide +kernel
theorem dL_known_261 : decode cL_known 261 = .ok (.aload_n 0, 1) := by decide +kernel
theorem dL_known_262 : decode cL_known 262 = .ok (.invokevirtual 151, 3) := by decide +kernel
theorem dL_known_265 : decode cL_known 265 = .ok (.bipush (-2), 2) := by decide +kernel
theorem dL_known_267 : decode cL_known 267 = .ok (.if_icmp .ne 68, 3) := by decide +kernel
theorem dL_known_270 : decode cL_known 270 = .ok (.aload_n 0, 1) := by decide +kernel
theorem dL_known_271 : decode cL_known 271 = .ok (.invokevirtual 141, 3) := by decide +kernel
theorem dL_known_274 : decode cL_known 274 = .ok (.ifCond .ne 61, 3) := by decide +kernel
theorem dL_known_277 : decode cL_known 277 = .ok (.aload_n 0, 1) := by decide +kernel
theorem dL_known_278 : decode cL_known 278 = .ok (.invokevirtual 144, 3) := by decide +kernel
theorem dL_known_281 : decode cL_known 281 = .ok (.bipush (-4), 2) := by decide +kernel
theorem dL_known_283 : decode cL_known 283 = .ok (.if_icmp .ne 52, 3) := by decide +kernel
theorem dL_known_286 : decode cL_known 286 = .ok (.aload_n 0, 1) := by decide +kernel
theorem dL_known_287 : decode cL_known 287 = .ok (.bipush 14, 2) := by decide +kernel
theorem dL_known_289 : decode cL_known 289 = .ok (.invokevirtual 37, 3) := by decide +kernel
theorem dL_known_292 : decode cL_known 292 = .ok (.iconst 5, 1) := by decide +kernel
theorem dL_known_293 : decode cL_known 293 = .ok (.if_icmp .ne 42, 3) := by decide +kernel
theorem dL_known_296 : decode cL_known 296 = .ok (.aload_n 0, 1) := by decide +kernel
theorem dL_known_297 : decode cL_known 297 = .ok (.bipush 14, 2) := by decide +kernel
theorem dL_known_299 : decode cL_known 299 = .ok (.invokevirtual 37, 3) := by decide +kernel
theorem dL_known_302 : decode cL_known 302 = .ok (.bipush 6, 2) := by decide +kernel
theorem dL_known_304 : decode cL_known 304 = .ok (.if_icmp .ne 31, 3) := by decide +kernel
theorem dL_known_307 : decode cL_known 307 = .ok (.aload_n 0, 1) := by decide +kernel
theorem dL_known_308 : decode cL_known 308 = .ok (.bipush 13, 2) := by decide +kernel
theorem dL_known_310 : decode cL_known 310 = .ok (.invokevirtual 37, 3) := by decide +kernel
theorem dL_known_313 : decode cL_known 313 = .ok (.bipush (-3), 2) := by decide +kernel
theorem dL_known_315 : decode cL_known 315 = .ok (.if_icmp .ne 20, 3) := by decide +kernel
theorem dL_known_318 : decode cL_known 318 = .ok (.aload_n 0, 1) := by decide +kernel
theorem dL_known_319 : decode cL_known 319 = .ok (.invokevirtual 154, 3) := by decide +kernel
theorem dL_known_322 : decode cL_known 322 = .ok (.bipush 96, 2) := by decide +kernel
theorem dL_known_324 : decode cL_known 324 = .ok (.if_icmp .ne 11, 3) := by decide +kernel
theorem dL_known_327 : decode cL_known 327 = .ok (.aload_n 0, 1) := by decide +kernel
theorem dL_known_328 : decode cL_known 328 = .ok (.iconst 1, 1) := by decide +kernel
theorem dL_known_329 : decode cL_known 329 = .ok (.invokevirtual 13, 3) := by decide +kernel
theorem dL_known_332 : decode cL_known 332 = .ok (.ifCond .eq 5, 3) := by decide +kernel
theorem dL_known_335 : decode cL_known 335 = .ok (.iconst 0, 1) := by decide +kernel
theorem dL_known_336 : decode cL_known 336 = .ok (.ireturn, 1) := by decide +kernel
theorem dL_known_337 : decode cL_known 337 = .ok (.aload_n 0, 1) := by decide +kernel
theorem dL_known_338 : decode cL_known 338 = .ok (.invokestatic 157, 3) := by decide +kernel
theorem dL_known_341 : decode cL_known 341 = .ok (.ifCond .eq 132, 3) := by decide +kernel
theorem dL_known_344 : decode cL_known 344 = .ok (.aload_n 0, 1) := by decide +kernel
theorem dL_known_345 : decode cL_known 345 = .ok (.bipush 31, 2) := by decide +kernel
theorem dL_known_347 : decode cL_known 347 = .ok (.iconst 0, 1) := by decide +kernel
theorem dL_known_348 : decode cL_known 348 = .ok (.iconst 4, 1) := by decide +kernel
theorem dL_known_349 : decode cL_known 349 = .ok (.iconst 3, 1) := by decide +kernel
theorem dL_known_350 : decode cL_known 350 = .ok (.invokevirtual 33, 3) := by decide +kernel
theorem dL_known_353 : decode cL_known 353 = .ok (.ifCond .ne 120, 3) := by decide +kernel
theorem dL_known_356 : decode cL_known 356 = .ok (.aload_n 0, 1) := by decide +kernel
theorem dL_known_357 : decode cL_known 357 = .ok (.iconst 1, 1) := by decide +kernel
theorem dL_known_358 : decode cL_known 358 = .ok (.iconst 1, 1) := by decide +kernel
theorem dL_known_359 : decode cL_known 359 = .ok (.iconst 4, 1) := by decide +kernel
theorem dL_known_360 : decode cL_known 360 = .ok (.iconst 1, 1) := by decide +kernel
theorem dL_known_361 : decode cL_known 361 = .ok (.invokevirtual 33, 3) := by decide +kernel
theorem dL_known_364 : decode cL_known 364 = .ok (.ifCond .ne 109, 3) := by decide +kernel
theorem dL_known_367 : decode cL_known 367 = .ok (.aload_n 0, 1) := by decide +kernel
theorem dL_known_368 : decode cL_known 368 = .ok (.iconst 0, 1) := by decide +kernel
theorem dL_known_369 : decode cL_known 369 = .ok (.invokevirtual 55, 3) := by decide +kernel
theorem dL_known_372 : decode cL_known 372 = .ok (.ifCond .ne 101, 3) := by decide +kernel
theorem dL_known_375 : decode cL_known 375 = .ok (.aload_n 0, 1) := by decide +kernel
theorem dL_known_376 : decode cL_known 376 = .ok (.invokevirtual 151, 3) := by decide +kernel
theorem dL_known_379 : decode cL_known 379 = .ok (.ifCond .ne 94, 3) := by decide +kernel
theorem dL_known_382 : decode cL_known 382 = .ok (.aload_n 0, 1) := by decide +kernel
theorem dL_known_383 : decode cL_known 383 = .ok (.iconst 0, 1) := by decide +kernel
theorem dL_known_384 : decode cL_known 384 = .ok (.invokevirtual 13, 3) := by decide +kernel
theorem dL_known_387 : decode cL_known 387 = .ok (.iconst 1, 1) := by decide +kernel
theorem dL_known_388 : decode cL_known 388 = .ok (.if_icmp .ne 85, 3) := by decide +kernel
theorem dL_known_391 : decode cL_known 391 = .ok (.aload_n 0, 1) := by decide +kernel
theorem dL_known_392 : decode cL_known 392 = .ok (.invokevirtual 151, 3) := by decide +kernel
theorem dL_known_395 : decode cL_known 395 = .ok (.iconst 1, 1) := by decide +kernel
theorem dL_known_396 : decode cL_known 396 = .ok (.if_icmp .ne 77, 3) := by decide +kernel
theorem dL_known_399 : decode cL_known 399 = .ok (.aload_n 0, 1) := by decide +kernel
theorem dL_known_400 : decode cL_known 400 = .ok (.iconst 1, 1) := by decide +kernel
theorem dL_known_401 : decode cL_known 401 = .ok (.invokevirtual 13, 3) := by decide +kernel
theorem dL_known_404 : decode cL_known 404 = .ok (.iconst 2, 1) := by decide +kernel
theorem dL_known_405 : decode cL_known 405 = .ok (.if_icmp .ne 68, 3) := by decide +kernel
theorem dL_known_408 : decode cL_known 408 = .ok (.aload_n 0, 1) := by decide +kernel
theorem dL_known_409 : decode cL_known 409 = .ok (.iconst 2, 1) := by decide +kernel
theorem dL_known_410 : decode cL_known 410 = .ok (.invokevirtual 13, 3) := by decide +kernel
theorem dL_known_413 : decode cL_known 413 = .ok (.ifCond .ne 60, 3) := by decide +kernel
theorem dL_known_416 : decode cL_known 416 = .ok (.aload_n 0, 1) := by decide +kernel
theorem dL_known_417 : decode cL_known 417 = .ok (.iconst 3, 1) := by decide +kernel
theorem dL_known_418 : decode cL_known 418 = .ok (.invokevirtual 13, 3) := by decide +kernel
theorem dL_known_421 : decode cL_known 421 = .ok (.iconst 2, 1) := by decide +kernel
theorem dL_known_422 : decode cL_known 422 = .ok (.if_icmp .ne 51, 3) := by decide +kernel
theorem dL_known_425 : decode cL_known 425 = .ok (.aload_n 0, 1) := by decide +kernel
theorem dL_known_426 : decode cL_known 426 = .ok (.invokevirtual 138, 3) := by decide +kernel
theorem dL_known_429 : decode cL_known 429 = .ok (.iconst 4, 1) := by decide +kernel
theorem dL_known_430 : decode cL_known 430 = .ok (.if_icmp .ne 43, 3) := by decide +kernel
theorem dL_known_433 : decode cL_known 433 = .ok (.aload_n 0, 1) := by decide +kernel
theorem dL_known_434 : decode cL_known 434 = .ok (.bipush 31, 2) := by decide +kernel
theorem dL_known_436 : decode cL_known 436 = .ok (.iconst 0, 1) := by decide +kernel
theorem dL_known_437 : decode cL_known 437 = .ok (.iconst 4, 1) := by decide +kernel
theorem dL_known_438 : decode cL_known 438 = .ok (.iconst 1, 1) := by decide +kernel
theorem dL_known_439 : decode cL_known 439 = .ok (.invokevirtual 33, 3) := by decide +kernel
theorem dL_known_442 : decode cL_known 442 = .ok (.iconst 1, 1) := by decide +kernel
theorem dL_known_443 : decode cL_known 443 = .ok (.if_icmp .ne 30, 3) := by decide +kernel
theorem dL_known_446 : decode cL_known 446 = .ok (.aload_n 0, 1) := by decide +kernel
theorem dL_known_447 : decode cL_known 447 = .ok (.invokevirtual 151, 3) := by decide +kernel
theorem dL_known_450 : decode cL_known 450 = .ok (.iconst 1, 1) := by decide +kernel
theorem dL_known_451 : decode cL_known 451 = .ok (.if_icmp .ne 22, 3) := by decide +kernel
theorem dL_known_454 : decode cL_known 454 = .ok (.aload_n 0, 1) := by decide +kernel
theorem dL_known_455 : decode cL_known 455 = .ok (.iconst 2, 1) := by decide +kernel
theorem dL_known_456 : decode cL_known 456 = .ok (.invokevirtual 13, 3) := by decide +kernel
theorem dL_known_459 : decode cL_known 459 = .ok (.bipush (-4), 2) := by decide +kernel
theorem dL_known_461 : decode cL_known 461 = .ok (.if_icmp .ne 12, 3) := by decide +kernel
theorem dL_known_464 : decode cL_known 464 = .ok (.aload_n 0, 1) := by decide +kernel
theorem dL_known_465 : decode cL_known 465 = .ok (.invokevirtual 154, 3) := by decide +kernel
theorem dL_known_468 : decode cL_known 468 = .ok (.bipush 96, 2) := by decide +kernel
theorem dL_known_470 : decode cL_known 470 = .ok (.if_icmp .eq 5, 3) := by decide +kernel
theorem dL_known_473 : decode cL_known 473 = .ok (.iconst 0, 1) := by decide +kernel
theorem dL_known_474 : decode cL_known 474 = .ok (.ireturn, 1) := by decide +kernel
theorem dL_known_475 : decode cL_known 475 = .ok (.aload_n 0, 1) := by decide +kernel
theorem dL_known_476 : decode cL_known 476 = .ok (.invokestatic 157, 3) := by decide +kernel
theorem dL_known_479 : decode cL_known 479 = .ok (.ifCond .eq 112, 3) := by decide +kernel
theorem dL_known_482 : decode cL_known 482 = .ok (.aload_n 0, 1) := by decide +kernel
theorem dL_known_483 : decode cL_known 483 = .ok (.bipush 25, 2) := by decide +kernel
theorem dL_known_485 : decode cL_known 485 = .ok (.iconst 0, 1) := by decide +kernel
theorem dL_known_486 : decode cL_known 486 = .ok (.iconst 4, 1) := by decide +kernel
theorem dL_known_487 : decode cL_known 487 = .ok (.iconst 2, 1) := by decide +kernel
theorem dL_known_488 : decode cL_known 488 = .ok (.invokevirtual 33, 3) := by decide +kernel
theorem dL_known_491 : decode cL_known 491 = .ok (.ifCond .ne 100, 3) := by decide +kernel
theorem dL_known_494 : decode cL_known 494 = .ok (.aload_n 0, 1) := by decide +kernel
theorem dL_known_495 : decode cL_known 495 = .ok (.bipush 25, 2) := by decide +kernel
theorem dL_known_497 : decode cL_known 497 = .ok (.iconst 3, 1) := by decide +kernel
theorem dL_known_498 : decode cL_known 498 = .ok (.invokevirtual 52, 3) := by decide +kernel
theorem dL_known_501 : decode cL_known 501 = .ok (.iconst 2, 1) := by decide +kernel
theorem dL_known_502 : decode cL_known 502 = .ok (.if_icmp .ne 89, 3) := by decide +kernel
theorem dL_known_505 : decode cL_known 505 = .ok (.aload_n 0, 1) := by decide +kernel
theorem dL_known_506 : decode cL_known 506 = .ok (.invokevirtual 141, 3) := by decide +kernel
theorem dL_known_509 : decode cL_known 509 = .ok (.iconst 1, 1) := by decide +kernel
theorem dL_known_510 : decode cL_known 510 = .ok (.if_icmp .ne 81, 3) := by decide +kernel
theorem dL_known_513 : decode cL_known 513 = .ok (.aload_n 0, 1) := by decide +kernel
theorem dL_known_514 : decode cL_known 514 = .ok (.bipush 25, 2) := by decide +kernel
theorem dL_known_516 : decode cL_known 516 = .ok (.bipush 31, 2) := by decide +kernel
theorem dL_known_518 : decode cL_known 518 = .ok (.invokevirtual 40, 3) := by decide +kernel
theorem dL_known_521 : decode cL_known 521 = .ok (.iconst 1, 1) := by decide +kernel
theorem dL_known_522 : decode cL_known 522 = .ok (.if_icmp .ne 69, 3) := by decide +kernel
theorem dL_known_525 : decode cL_known 525 = .ok (.aload_n 0, 1) := by decide +kernel
theorem dL_known_526 : decode cL_known 526 = .ok (.bipush 31, 2) := by decide +kernel
theorem dL_known_528 : decode cL_known 528 = .ok (.iconst 1, 1) := by decide +kernel
theorem dL_known_529 : decode cL_known 529 = .ok (.invokevirtual 25, 3) := by decide +kernel
theorem dL_known_532 : decode cL_known 532 = .ok (.iconst 1, 1) := by decide +kernel
theorem dL_known_533 : decode cL_known 533 = .ok (.if_icmp .ne 58, 3) := by decide +kernel
theorem dL_known_536 : decode cL_known 536 = .ok (.aload_n 0, 1) := by decide +kernel
theorem dL_known_537 : decode cL_known 537 = .ok (.bipush 31, 2) := by decide +kernel
theorem dL_known_539 : decode cL_known 539 = .ok (.iconst 2, 1) := by decide +kernel
theorem dL_known_540 : decode cL_known 540 = .ok (.invokevirtual 25, 3) := by decide +kernel
theorem dL_known_543 : decode cL_known 543 = .ok (.iconst 1, 1) := by decide +kernel
theorem dL_known_544 : decode cL_known 544 = .ok (.if_icmp .ne 47, 3) := by decide +kernel
theorem dL_known_547 : decode cL_known 547 = .ok (.aload_n 0, 1) := by decide +kernel
theorem dL_known_548 : decode cL_known 548 = .ok (.iconst 0, 1) := by decide +kernel
theorem dL_known_549 : decode cL_known 549 = .ok (.invokevirtual 13, 3) := by decide +kernel
theorem dL_known_552 : decode cL_known 552 = .ok (.iconst 1, 1) := by decide +kernel
theorem dL_known_553 : decode cL_known 553 = .ok (.if_icmp .ne 38, 3) := by decide +kernel
theorem dL_known_556 : decode cL_known 556 = .ok (.aload_n 0, 1) := by decide +kernel
theorem dL_known_557 : decode cL_known 557 = .ok (.invokevirtual 151, 3) := by decide +kernel
theorem dL_known_560 : decode cL_known 560 = .ok (.ifCond .ne 31, 3) := by decide +kernel
theorem dL_known_563 : decode cL_known 563 = .ok (.aload_n 0, 1) := by decide +kernel
theorem dL_known_564 : decode cL_known 564 = .ok (.iconst 0, 1) := by decide +kernel
theorem dL_known_565 : decode cL_known 565 = .ok (.invokevirtual 55, 3) := by decide +kernel
theorem dL_known_568 : decode cL_known 568 = .ok (.aload_n 0, 1) := by decide +kernel
theorem dL_known_569 : decode cL_known 569 = .ok (.bipush 31, 2) := by decide +kernel
theorem dL_known_571 : decode cL_known 571 = .ok (.iconst 4, 1) := by decide +kernel
theorem dL_known_572 : decode cL_known 572 = .ok (.invokevirtual 25, 3) := by decide +kernel
theorem dL_known_575 : decode cL_known 575 = .ok (.if_icmp .ne 16, 3) := by decide +kernel
theorem dL_known_578 : decode cL_known 578 = .ok (.aload_n 0, 1) := by decide +kernel
theorem dL_known_579 : decode cL_known 579 = .ok (.iconst 0, 1) := by decide +kernel
theorem dL_known_580 : decode cL_known 580 = .ok (.invokevirtual 55, 3) := by decide +kernel
theorem dL_known_583 : decode cL_known 583 = .ok (.iconst 3, 1) := by decide +kernel
theorem dL_known_584 : decode cL_known 584 = .ok (.if_icmp .ne 7, 3) := by decide +kernel
theorem dL_known_587 : decode cL_known 587 = .ok (.iconst 1, 1) := by decide +kernel
theorem dL_known_588 : decode cL_known 588 = .ok (.goto 4, 3) := by decide +kernel
theorem dL_known_591 : decode cL_known 591 = .ok (.iconst 0, 1) := by decide +kernel
theorem dL_known_592 : decode cL_known 592 = .ok (.ireturn, 1) := by decide +kernel
theorem dL_law_0 : decode cL_law 0 = .ok (.invokestatic 160, 3) := by decide +kernel
theorem dL_law_3 : decode cL_law 3 = .ok (.ifCond .eq 15, 3) := by decide +kernel
theorem dL_law_6 : decode cL_law 6 = .ok (.invokestatic 164, 3) := by decide +kernel
theorem dL_law_9 : decode cL_law 9 = .ok (.ifCond .eq 9, 3) := by decide +kernel
theorem dL_law_12 : decode cL_law 12 = .ok (.invokestatic 167, 3) := by decide +kernel
theorem dL_law_15 : decode cL_law 15 = .ok (.ifCond .ne 5, 3) := by decide +kernel
theorem dL_law_18 : decode cL_law 18 = .ok (.iconst 0, 1) := by decide +kernel
theorem dL_law_19 : decode cL_law 19 = .ok (.ireturn, 1) := by decide +kernel
theorem dL_law_20 : decode cL_law 20 = .ok (.new 14, 3) := by decide +kernel
theorem dL_law_23 : decode cL_law 23 = .ok (.dup, 1) := by decide +kernel
theorem dL_law_24 : decode cL_law 24 = .ok (.invokespecial 80, 3) := by decide +kernel
theorem dL_law_27 : decode cL_law 27 = .ok (.astore_n 1, 1) := by decide +kernel
theorem dL_law_28 : decode cL_law 28 = .ok (.bipush 48, 2) := by decide +kernel
theorem dL_law_30 : decode cL_law 30 = .ok (.newarray .long, 2) := by decide +kernel
theorem dL_law_32 : decode cL_law 32 = .ok (.astore_n 2, 1) := by decide +kernel
theorem dL_law_33 : decode cL_law 33 = .ok (.iconst 0, 1) := by decide +kernel
theorem dL_law_34 : decode cL_law 34 = .ok (.istore_n 3, 1) := by decide +kernel
theorem dL_law_35 : decode cL_law 35 = .ok (.iconst 0, 1) := by decide +kernel
theorem dL_law_36 : decode cL_law 36 = .ok (.istore 4, 2) := by decide +kernel
theorem dL_law_38 : decode cL_law 38 = .ok (.iload 4, 2) := by decide +kernel
theorem dL_law_40 : decode cL_law 40 = .ok (.bipush 40, 2) := by decide +kernel
theorem dL_law_42 : decode cL_law 42 = .ok (.if_icmp .ge 310, 3) := by decide +kernel
theorem dL_law_45 : decode cL_law 45 = .ok (.aload_n 0, 1) := by decide +kernel
theorem dL_law_46 : decode cL_law 46 = .ok (.iload 4, 2) := by decide +kernel
theorem dL_law_48 : decode cL_law 48 = .ok (.invokestatic 170, 3) := by decide +kernel
theorem dL_law_51 : decode cL_law 51 = .ok (.istore 5, 2) := by decide +kernel
theorem dL_law_53 : decode cL_law 53 = .ok (.iload 5, 2) := by decide +kernel
theorem dL_law_55 : decode cL_law 55 = .ok (.bipush 12, 2) := by decide +kernel
theorem dL_law_57 : decode cL_law 57 = .ok (.invokestatic 174, 3) := by decide +kernel
theorem dL_law_60 : decode cL_law 60 = .ok (.istore 6, 2) := by decide +kernel
theorem dL_law_62 : decode cL_law 62 = .ok (.aload_n 2, 1) := by decide +kernel
theorem dL_law_63 : decode cL_law 63 = .ok (.iload_n 3, 1) := by decide +kernel
theorem dL_law_64 : decode cL_law 64 = .ok (.aload_n 1, 1) := by decide +kernel
theorem dL_law_65 : decode cL_law 65 = .ok (.invokestatic 29, 3) := by decide +kernel
theorem dL_law_68 : decode cL_law 68 = .ok (.lastore, 1) := by decide +kernel
theorem dL_law_69 : decode cL_law 69 = .ok (.aload_n 1, 1) := by decide +kernel
theorem dL_law_70 : decode cL_law 70 = .ok (.aload_n 1, 1) := by decide +kernel
theorem dL_law_71 : decode cL_law 71 = .ok (.iconst 0, 1) := by decide +kernel
theorem dL_law_72 : decode cL_law 72 = .ok (.invokevirtual 13, 3) := by decide +kernel
theorem dL_law_75 : decode cL_law 75 = .ok (.invokevirtual 55, 3) := by decide +kernel
theorem dL_law_78 : decode cL_law 78 = .ok (.istore 7, 2) := by decide +kernel
theorem dL_law_80 : decode cL_law 80 = .ok (.iload 7, 2) := by decide +kernel
theorem dL_law_82 : decode cL_law 82 = .ok (.ifCond .le 24, 3) := by decide +kernel
theorem dL_law_85 : decode cL_law 85 = .ok (.aload_n 1, 1) := by decide +kernel
theorem dL_law_86 : decode cL_law 86 = .ok (.aload_n 1, 1) := by decide +kernel
theorem dL_law_87 : decode cL_law 87 = .ok (.iconst 0, 1) := by decide +kernel
theorem dL_law_88 : decode cL_law 88 = .ok (.invokevirtual 13, 3) := by decide +kernel
theorem dL_law_91 : decode cL_law 91 = .ok (.iload 5, 2) := by decide +kernel
theorem dL_law_93 : decode cL_law 93 = .ok (.iconst 4, 1) := by decide +kernel
theorem dL_law_94 : decode cL_law 94 = .ok (.ishr, 1) := by decide +kernel
theorem dL_law_95 : decode cL_law 95 = .ok (.iload 7, 2) := by decide +kernel
theorem dL_law_97 : decode cL_law 97 = .ok (.invokestatic 174, 3) := by decide +kernel
theorem dL_law_100 : decode cL_law 100 = .ok (.invokevirtual 58, 3) := by decide +kernel
theorem dL_law_103 : decode cL_law 103 = .ok (.goto 4, 3) := by decide +kernel
theorem dL_law_106 : decode cL_law 106 = .ok (.iconst 0, 1) := by decide +kernel
theorem dL_law_107 : decode cL_law 107 = .ok (.istore 8, 2) := by decide +kernel
theorem dL_law_109 : decode cL_law 109 = .ok (.iload 6, 2) := by decide +kernel
theorem dL_law_111 : decode cL_law 111 = .ok (.bipush 8, 2) := by decide +kernel
theorem dL_law_113 : decode cL_law 113 = .ok (.if_icmp .ge 20, 3) := by decide +kernel
theorem dL_law_116 : decode cL_law 116 = .ok (.aload_n 1, 1) := by decide +kernel
theorem dL_law_117 : decode cL_law 117 = .ok (.iload 8, 2) := by decide +kernel
theorem dL_law_119 : decode cL_law 119 = .ok (.bipush 36, 2) := by decide +kernel
theorem dL_law_121 : decode cL_law 121 = .ok (.idiv, 1) := by decide +kernel
theorem dL_law_122 : decode cL_law 122 = .ok (.iload 8, 2) := by decide +kernel
theorem dL_law_124 : decode cL_law 124 = .ok (.bipush 36, 2) := by decide +kernel
theorem dL_law_126 : decode cL_law 126 = .ok (.irem, 1) := by decide +kernel
theorem dL_law_127 : decode cL_law 127 = .ok (.invokevirtual 40, 3) := by decide +kernel
theorem dL_law_130 : decode cL_law 130 = .ok (.goto 131, 3) := by decide +kernel
theorem dL_law_133 : decode cL_law 133 = .ok (.iload 6, 2) := by decide +kernel
theorem dL_law_135 : decode cL_law 135 = .ok (.bipush 8, 2) := by decide +kernel
theorem dL_law_137 : decode cL_law 137 = .ok (.if_icmp .ne 47, 3) := by decide +kernel
theorem dL_law_140 : decode cL_law 140 = .ok (.aload_n 1, 1) := by decide +kernel
theorem dL_law_141 : decode cL_law 141 = .ok (.iload 5, 2) := by decide +kernel
theorem dL_law_143 : decode cL_law 143 = .ok (.iconst 4, 1) := by decide +kernel
theorem dL_law_144 : decode cL_law 144 = .ok (.ishr, 1) := by decide +kernel
theorem dL_law_145 : decode cL_law 145 = .ok (.bipush 36, 2) := by decide +kernel
theorem dL_law_147 : decode cL_law 147 = .ok (.invokestatic 174, 3) := by decide +kernel
theorem dL_law_150 : decode cL_law 150 = .ok (.iload 5, 2) := by decide +kernel
theorem dL_law_152 : decode cL_law 152 = .ok (.iconst 3, 1) := by decide +kernel
theorem dL_law_153 : decode cL_law 153 = .ok (.ishr, 1) := by decide +kernel
theorem dL_law_154 : decode cL_law 154 = .ok (.iconst 3, 1) := by decide +kernel
theorem dL_law_155 : decode cL_law 155 = .ok (.invokestatic 174, 3) := by decide +kernel
theorem dL_law_158 : decode cL_law 158 = .ok (.iconst 1, 1) := by decide +kernel
theorem dL_law_159 : decode cL_law 159 = .ok (.isub, 1) := by decide +kernel
theorem dL_law_160 : decode cL_law 160 = .ok (.iload 5, 2) := by decide +kernel
theorem dL_law_162 : decode cL_law 162 = .ok (.iconst 5, 1) := by decide +kernel
theorem dL_law_163 : decode cL_law 163 = .ok (.ishr, 1) := by decide +kernel
theorem dL_law_164 : decode cL_law 164 = .ok (.iconst 5, 1) := by decide +kernel
theorem dL_law_165 : decode cL_law 165 = .ok (.invokestatic 174, 3) := by decide +kernel
theorem dL_law_168 : decode cL_law 168 = .ok (.iload 5, 2) := by decide +kernel
theorem dL_law_170 : decode cL_law 170 = .ok (.bipush 6, 2) := by decide +kernel
theorem dL_law_172 : decode cL_law 172 = .ok (.ishr, 1) := by decide +kernel
theorem dL_law_173 : decode cL_law 173 = .ok (.bipush 13, 2) := by decide +kernel
theorem dL_law_175 : decode cL_law 175 = .ok (.invokestatic 174, 3) := by decide +kernel
theorem dL_law_178 : decode cL_law 178 = .ok (.invokevirtual 33, 3) := by decide +kernel
theorem dL_law_181 : decode cL_law 181 = .ok (.goto 80, 3) := by decide +kernel
theorem dL_law_184 : decode cL_law 184 = .ok (.iload 6, 2) := by decide +kernel
theorem dL_law_186 : decode cL_law 186 = .ok (.bipush 9, 2) := by decide +kernel
theorem dL_law_188 : decode cL_law 188 = .ok (.if_icmp .ne 27, 3) := by decide +kernel
theorem dL_law_191 : decode cL_law 191 = .ok (.aload_n 1, 1) := by decide +kernel
theorem dL_law_192 : decode cL_law 192 = .ok (.iload 5, 2) := by decide +kernel
theorem dL_law_194 : decode cL_law 194 = .ok (.iconst 4, 1) := by decide +kernel
theorem dL_law_195 : decode cL_law 195 = .ok (.ishr, 1) := by decide +kernel
theorem dL_law_196 : decode cL_law 196 = .ok (.iconst 3, 1) := by decide +kernel
theorem dL_law_197 : decode cL_law 197 = .ok (.invokestatic 174, 3) := by decide +kernel
theorem dL_law_200 : decode cL_law 200 = .ok (.iload 5, 2) := by decide +kernel
theorem dL_law_202 : decode cL_law 202 = .ok (.iconst 5, 1) := by decide +kernel
theorem dL_law_203 : decode cL_law 203 = .ok (.ishr, 1) := by decide +kernel
theorem dL_law_204 : decode cL_law 204 = .ok (.bipush 13, 2) := by decide +kernel
theorem dL_law_206 : decode cL_law 206 = .ok (.invokestatic 174, 3) := by decide +kernel
theorem dL_law_209 : decode cL_law 209 = .ok (.invokevirtual 64, 3) := by decide +kernel
theorem dL_law_212 : decode cL_law 212 = .ok (.goto 49, 3) := by decide +kernel
theorem dL_law_215 : decode cL_law 215 = .ok (.iload 6, 2) := by decide +kernel
theorem dL_law_217 : decode cL_law 217 = .ok (.bipush 10, 2) := by decide +kernel
theorem dL_law_219 : decode cL_law 219 = .ok (.if_icmp .ne 19, 3) := by decide +kernel
theorem dL_law_222 : decode cL_law 222 = .ok (.aload_n 1, 1) := by decide +kernel
theorem dL_law_223 : decode cL_law 223 = .ok (.iload 5, 2) := by decide +kernel
theorem dL_law_225 : decode cL_law 225 = .ok (.iconst 4, 1) := by decide +kernel
theorem dL_law_226 : decode cL_law 226 = .ok (.ishr, 1) := by decide +kernel
theorem dL_law_227 : decode cL_law 227 = .ok (.bipush 36, 2) := by decide +kernel
theorem dL_law_229 : decode cL_law 229 = .ok (.invokestatic 174, 3) := by decide +kernel
theorem dL_law_232 : decode cL_law 232 = .ok (.invokevirtual 37, 3) := by decide +kernel
theorem dL_law_235 : decode cL_law 235 = .ok (.goto 26, 3) := by decide +kernel
theorem dL_law_238 : decode cL_law 238 = .ok (.iload 5, 2) := by decide +kernel
theorem dL_law_240 : decode cL_law 240 = .ok (.iconst 4, 1) := by decide +kernel
theorem dL_law_241 : decode cL_law 241 = .ok (.ishr, 1) := by decide +kernel
theorem dL_law_242 : decode cL_law 242 = .ok (.bipush 6, 2) := by decide +kernel
theorem dL_law_244 : decode cL_law 244 = .ok (.invokestatic 174, 3) := by decide +kernel
theorem dL_law_247 : decode cL_law 247 = .ok (.ifCond .ne 10, 3) := by decide +kernel
theorem dL_law_250 : decode cL_law 250 = .ok (.aload_n 1, 1) := by decide +kernel
theorem dL_law_251 : decode cL_law 251 = .ok (.invokevirtual 154, 3) := by decide +kernel
theorem dL_law_254 : decode cL_law 254 = .ok (.goto 7, 3) := by decide +kernel
theorem dL_law_257 : decode cL_law 257 = .ok (.aload_n 1, 1) := by decide +kernel
theorem dL_law_258 : decode cL_law 258 = .ok (.invokevirtual 151, 3) := by decide +kernel
theorem dL_law_261 : decode cL_law 261 = .ok (.istore 9, 2) := by decide +kernel
theorem dL_law_263 : decode cL_law 263 = .ok (.iload_n 3, 1) := by decide +kernel
theorem dL_law_264 : decode cL_law 264 = .ok (.iload 9, 2) := by decide +kernel
theorem dL_law_266 : decode cL_law 266 = .ok (.ifCond .lt 7, 3) := by decide +kernel
theorem dL_law_269 : decode cL_law 269 = .ok (.iconst 1, 1) := by decide +kernel
theorem dL_law_270 : decode cL_law 270 = .ok (.goto 4, 3) := by decide +kernel
theorem dL_law_273 : decode cL_law 273 = .ok (.iconst 0, 1) := by decide +kernel
theorem dL_law_274 : decode cL_law 274 = .ok (.iadd, 1) := by decide +kernel
theorem dL_law_275 : decode cL_law 275 = .ok (.istore_n 3, 1) := by decide +kernel
theorem dL_law_276 : decode cL_law 276 = .ok (.iload 9, 2) := by decide +kernel
theorem dL_law_278 : decode cL_law 278 = .ok (.ifCond .ge 16, 3) := by decide +kernel
theorem dL_law_281 : decode cL_law 281 = .ok (.aload_n 1, 1) := by decide +kernel
theorem dL_law_282 : decode cL_law 282 = .ok (.invokestatic 29, 3) := by decide +kernel
theorem dL_law_285 : decode cL_law 285 = .ok (.aload_n 2, 1) := by decide +kernel
theorem dL_law_286 : decode cL_law 286 = .ok (.iload_n 3, 1) := by decide +kernel
theorem dL_law_287 : decode cL_law 287 = .ok (.laload, 1) := by decide +kernel
theorem dL_law_288 : decode cL_law 288 = .ok (.lcmp, 1) := by decide +kernel
theorem dL_law_289 : decode cL_law 289 = .ok (.ifCond .eq 5, 3) := by decide +kernel
theorem dL_law_292 : decode cL_law 292 = .ok (.iconst 0, 1) := by decide +kernel
theorem dL_law_293 : decode cL_law 293 = .ok (.ireturn, 1) := by decide +kernel
theorem dL_law_294 : decode cL_law 294 = .ok (.aload_n 1, 1) := by decide +kernel
theorem dL_law_295 : decode cL_law 295 = .ok (.bipush 20, 2) := by decide +kernel
theorem dL_law_297 : decode cL_law 297 = .ok (.invokevirtual 13, 3) := by decide +kernel
theorem dL_law_300 : decode cL_law 300 = .ok (.aload_n 1, 1) := by decide +kernel
theorem dL_law_301 : decode cL_law 301 = .ok (.bipush 21, 2) := by decide +kernel
theorem dL_law_303 : decode cL_law 303 = .ok (.invokevirtual 13, 3) := by decide +kernel
theorem dL_law_306 : decode cL_law 306 = .ok (.iadd, 1) := by decide +kernel
theorem dL_law_307 : decode cL_law 307 = .ok (.aload_n 1, 1) := by decide +kernel
theorem dL_law_308 : decode cL_law 308 = .ok (.bipush 22, 2) := by decide +kernel
theorem dL_law_310 : decode cL_law 310 = .ok (.invokevirtual 13, 3) := by decide +kernel
theorem dL_law_313 : decode cL_law 313 = .ok (.iadd, 1) := by decide +kernel
theorem dL_law_314 : decode cL_law 314 = .ok (.aload_n 1, 1) := by decide +kernel
theorem dL_law_315 : decode cL_law 315 = .ok (.bipush 26, 2) := by decide +kernel
theorem dL_law_317 : decode cL_law 317 = .ok (.invokevirtual 13, 3) := by decide +kernel
theorem dL_law_320 : decode cL_law 320 = .ok (.iadd, 1) := by decide +kernel
theorem dL_law_321 : decode cL_law 321 = .ok (.aload_n 1, 1) := by decide +kernel
theorem dL_law_322 : decode cL_law 322 = .ok (.bipush 23, 2) := by decide +kernel
theorem dL_law_324 : decode cL_law 324 = .ok (.invokevirtual 13, 3) := by decide +kernel
theorem dL_law_327 : decode cL_law 327 = .ok (.aload_n 1, 1) := by decide +kernel
theorem dL_law_328 : decode cL_law 328 = .ok (.bipush 24, 2) := by decide +kernel
theorem dL_law_330 : decode cL_law 330 = .ok (.invokevirtual 13, 3) := by decide +kernel
theorem dL_law_333 : decode cL_law 333 = .ok (.iadd, 1) := by decide +kernel
theorem dL_law_334 : decode cL_law 334 = .ok (.aload_n 1, 1) := by decide +kernel
theorem dL_law_335 : decode cL_law 335 = .ok (.bipush 25, 2) := by decide +kernel
theorem dL_law_337 : decode cL_law 337 = .ok (.invokevirtual 13, 3) := by decide +kernel
theorem dL_law_340 : decode cL_law 340 = .ok (.iadd, 1) := by decide +kernel
theorem dL_law_341 : decode cL_law 341 = .ok (.if_icmp .eq 5, 3) := by decide +kernel
theorem dL_law_344 : decode cL_law 344 = .ok (.iconst 0, 1) := by decide +kernel
theorem dL_law_345 : decode cL_law 345 = .ok (.ireturn, 1) := by decide +kernel
theorem dL_law_346 : decode cL_law 346 = .ok (.iinc 4 1, 3) := by decide +kernel
theorem dL_law_349 : decode cL_law 349 = .ok (.goto (-311), 3) := by decide +kernel
theorem dL_law_352 : decode cL_law 352 = .ok (.aload_n 1, 1) := by decide +kernel
theorem dL_law_353 : decode cL_law 353 = .ok (.invokestatic 147, 3) := by decide +kernel
theorem dL_law_356 : decode cL_law 356 = .ok (.ifCond .ne 5, 3) := by decide +kernel
theorem dL_law_359 : decode cL_law 359 = .ok (.iconst 0, 1) := by decide +kernel
theorem dL_law_360 : decode cL_law 360 = .ok (.ireturn, 1) := by decide +kernel
theorem dL_law_361 : decode cL_law 361 = .ok (.iconst 1, 1) := by decide +kernel
theorem dL_law_362 : decode cL_law 362 = .ok (.istore 4, 2) := by decide +kernel
theorem dL_law_364 : decode cL_law 364 = .ok (.iload 4, 2) := by decide +kernel
theorem dL_law_366 : decode cL_law 366 = .ok (.iconst 5, 1) := by decide +kernel
theorem dL_law_367 : decode cL_law 367 = .ok (.if_icmp .gt 56, 3) := by decide +kernel
theorem dL_law_370 : decode cL_law 370 = .ok (.iload 4, 2) := by decide +kernel
theorem dL_law_372 : decode cL_law 372 = .ok (.iload_n 3, 1) := by decide +kernel
theorem dL_law_373 : decode cL_law 373 = .ok (.if_icmp .gt 50, 3) := by decide +kernel
theorem dL_law_376 : decode cL_law 376 = .ok (.aload_n 1, 1) := by decide +kernel
theorem dL_law_377 : decode cL_law 377 = .ok (.invokevirtual 138, 3) := by decide +kernel
theorem dL_law_380 : decode cL_law 380 = .ok (.istore 5, 2) := by decide +kernel
theorem dL_law_382 : decode cL_law 382 = .ok (.iload 5, 2) := by decide +kernel
theorem dL_law_384 : decode cL_law 384 = .ok (.ifCond .lt 31, 3) := by decide +kernel
theorem dL_law_387 : decode cL_law 387 = .ok (.aload_n 1, 1) := by decide +kernel
theorem dL_law_388 : decode cL_law 388 = .ok (.invokestatic 29, 3) := by decide +kernel
theorem dL_law_391 : decode cL_law 391 = .ok (.aload_n 2, 1) := by decide +kernel
theorem dL_law_392 : decode cL_law 392 = .ok (.iload_n 3, 1) := by decide +kernel
theorem dL_law_393 : decode cL_law 393 = .ok (.iload 4, 2) := by decide +kernel
theorem dL_law_395 : decode cL_law 395 = .ok (.isub, 1) := by decide +kernel
theorem dL_law_396 : decode cL_law 396 = .ok (.laload, 1) := by decide +kernel
theorem dL_law_397 : decode cL_law 397 = .ok (.lcmp, 1) := by decide +kernel
theorem dL_law_398 : decode cL_law 398 = .ok (.ifCond .ne 17, 3) := by decide +kernel
theorem dL_law_401 : decode cL_law 401 = .ok (.iload_n 3, 1) := by decide +kernel
theorem dL_law_402 : decode cL_law 402 = .ok (.iconst 4, 1) := by decide +kernel
theorem dL_law_403 : decode cL_law 403 = .ok (.if_icmp .le 14, 3) := by decide +kernel
theorem dL_law_406 : decode cL_law 406 = .ok (.iload 5, 2) := by decide +kernel
theorem dL_law_408 : decode cL_law 408 = .ok (.iconst 5, 1) := by decide +kernel
theorem dL_law_409 : decode cL_law 409 = .ok (.iload 4, 2) := by decide +kernel
theorem dL_law_411 : decode cL_law 411 = .ok (.isub, 1) := by decide +kernel
theorem dL_law_412 : decode cL_law 412 = .ok (.if_icmp .eq 5, 3) := by decide +kernel
theorem dL_law_415 : decode cL_law 415 = .ok (.iconst 0, 1) := by decide +kernel
theorem dL_law_416 : decode cL_law 416 = .ok (.ireturn, 1) := by decide +kernel
theorem dL_law_417 : decode cL_law 417 = .ok (.iinc 4 1, 3) := by decide +kernel
theorem dL_law_420 : decode cL_law 420 = .ok (.goto (-56), 3) := by decide +kernel
theorem dL_law_423 : decode cL_law 423 = .ok (.iload_n 3, 1) := by decide +kernel
theorem dL_law_424 : decode cL_law 424 = .ok (.iconst 5, 1) := by decide +kernel
theorem dL_law_425 : decode cL_law 425 = .ok (.if_icmp .lt 12, 3) := by decide +kernel
theorem dL_law_428 : decode cL_law 428 = .ok (.aload_n 1, 1) := by decide +kernel
theorem dL_law_429 : decode cL_law 429 = .ok (.invokevirtual 138, 3) := by decide +kernel
theorem dL_law_432 : decode cL_law 432 = .ok (.bipush (-2), 2) := by decide +kernel
theorem dL_law_434 : decode cL_law 434 = .ok (.if_icmp .ne 7, 3) := by decide +kernel
theorem dL_law_437 : decode cL_law 437 = .ok (.iconst 1, 1) := by decide +kernel
theorem dL_law_438 : decode cL_law 438 = .ok (.goto 4, 3) := by decide +kernel
theorem dL_law_441 : decode cL_law 441 = .ok (.iconst 0, 1) := by decide +kernel
theorem dL_law_442 : decode cL_law 442 = .ok (.ireturn, 1) := by decide +kernel
abbrev vwCl : List vw_C := [(RX0, TX0, 4), (RX1, TX1, 15), (RX2, TX2, 8)]
end
section
/-! the tables' words that a walk needs; all of them hold on after a warm-up of links -/
def z_ok : Cond → Bool
  | .methodLinkNest _ _ _ _ => true
  | .fieldLinkNest _ _ _ _ _ _ => true
  | w => goodWord w
def zTab : List Cond := lw_tbl.filter z_ok
theorem zmem {w : Cond} (i : Nat) (h : lw_tbl[i]? = some w ∧ z_ok w = true) : w ∈ zTab := List.mem_filter.mpr ⟨List.mem_of_getElem? h.1, h.2⟩
theorem z_move {w : Cond} (hw : z_ok w = true) {s U : State} (hW : s.WarmedH U.vm) {a a' : Array Value} (h : w.before a s = true) : w.before a' U = true := by
  cases w with
  | methodLinkNest c i y d => exact va_Nw.use rfl (va_Nw.warmM hW (va_Nw.of rfl h))
  | fieldLinkNest c i o n d g => exact va_Nw.use rfl (va_Nw.warmF hW (va_Nw.of rfl h))
  | _ => exact word_at hW (good_of_word hw) h
def zWs (U : State) : Prop := ∀ w, w ∈ zTab → ∀ a : Array Value, w.before a U = true
theorem zWs_move {s U : State} (hW : s.WarmedH U.vm) (h : zWs s) : zWs U := fun w hw a => z_move (List.mem_filter.mp hw).2 hW (h w hw a)
theorem zWs_of {s : State} {a : Array Value} (h : ∀ w ∈ lw_tbl, w.before a s = true) : zWs s := fun w hw _ => z_move (List.mem_filter.mp hw).2 (State.WarmedH.refl s) (h w (List.mem_filter.mp hw).1)
/-- what a call of an instance method y asks of the tables, but the link -/
def zY (y : MethodName) (cc : ByteArray) (maxL : Nat) (ret : Option FieldType) (n : Nat) : Prop := Cond.instanceMethod y ∈ zTab ∧ Cond.selects y.cls y y ∈ zTab ∧ Cond.initialized y.cls ∈ zTab ∧ Cond.code y cc maxL ret ∈ zTab ∧ y.cls ≠ "java/lang/invoke/MethodHandle" ∧ y.cls ≠ "java/lang/invoke/VarHandle" ∧ (parseMethodDescriptor y.desc).map (fun d => d.parameters.length) = some n ∧ plainName y.cls = true
def zYS (y : MethodName) (cc : ByteArray) (maxL : Nat) (ret : Option FieldType) (n : Nat) : Prop := Cond.static y ∈ zTab ∧ Cond.initialized y.cls ∈ zTab ∧ Cond.code y cc maxL ret ∈ zTab ∧ y.cls ≠ "java/lang/invoke/MethodHandle" ∧ y.cls ≠ "java/lang/invoke/VarHandle" ∧ (parseMethodDescriptor y.desc).map (fun d => d.parameters.length) = some n ∧ plainName y.cls = true
theorem zw_0 : (.selects yX1_begin.cls yX1_begin yX1_begin : Cond) ∈ zTab := zmem 0 (by decide +kernel)
theorem zw_1 : (.selects yX0_arrange.cls yX0_arrange yX0_arrange : Cond) ∈ zTab := zmem 1 (by decide +kernel)
theorem zw_2 : (.selects yX0_empty.cls yX0_empty yX0_empty : Cond) ∈ zTab := zmem 2 (by decide +kernel)
theorem zw_3 : (.selects yX0_place.cls yX0_place yX0_place : Cond) ∈ zTab := zmem 3 (by decide +kernel)
theorem zw_4 : (.selects yX0_markTower.cls yX0_markTower yX0_markTower : Cond) ∈ zTab := zmem 4 (by decide +kernel)
theorem zw_5 : (.selects yX0_springsInAll.cls yX0_springsInAll yX0_springsInAll : Cond) ∈ zTab := zmem 5 (by decide +kernel)
theorem zw_6 : (.selects yX0_springsOf.cls yX0_springsOf yX0_springsOf : Cond) ∈ zTab := zmem 6 (by decide +kernel)
theorem zw_7 : (.selects yX2_record.cls yX2_record yX2_record : Cond) ∈ zTab := zmem 7 (by decide +kernel)
theorem zw_8 : (.selects yX2_stateAt.cls yX2_stateAt yX2_stateAt : Cond) ∈ zTab := zmem 8 (by decide +kernel)
theorem zw_9 : (.selects yX1_copyFrom.cls yX1_copyFrom yX1_copyFrom : Cond) ∈ zTab := zmem 9 (by decide +kernel)
theorem zw_10 : (.selects yX0_copyFrom.cls yX0_copyFrom yX0_copyFrom : Cond) ∈ zTab := zmem 10 (by decide +kernel)
theorem zw_11 : (.selects yX1_setting.cls yX1_setting yX1_setting : Cond) ∈ zTab := zmem 11 (by decide +kernel)
theorem zw_12 : (.selects yX1_changeSetting.cls yX1_changeSetting yX1_changeSetting : Cond) ∈ zTab := zmem 12 (by decide +kernel)
theorem zw_13 : (.selects yX1_cutSprings.cls yX1_cutSprings yX1_cutSprings : Cond) ∈ zTab := zmem 13 (by decide +kernel)
theorem zw_14 : (.selects yX0_springOn.cls yX0_springOn yX0_springOn : Cond) ∈ zTab := zmem 14 (by decide +kernel)
theorem zw_15 : (.selects yX0_changeSpring.cls yX0_changeSpring yX0_changeSpring : Cond) ∈ zTab := zmem 15 (by decide +kernel)
theorem zw_16 : (.selects yX1_isOver.cls yX1_isOver yX1_isOver : Cond) ∈ zTab := zmem 16 (by decide +kernel)
theorem zw_17 : (.selects yX0_hasPiece.cls yX0_hasPiece yX0_hasPiece : Cond) ∈ zTab := zmem 17 (by decide +kernel)
theorem zw_18 : (.selects yX0_sideOn.cls yX0_sideOn yX0_sideOn : Cond) ∈ zTab := zmem 18 (by decide +kernel)
theorem zw_19 : (.selects yX1_putInstead.cls yX1_putInstead yX1_putInstead : Cond) ∈ zTab := zmem 19 (by decide +kernel)
theorem zw_20 : (.selects yX0_isTower.cls yX0_isTower yX0_isTower : Cond) ∈ zTab := zmem 20 (by decide +kernel)
theorem zw_21 : (.selects yX0_towersInAll.cls yX0_towersInAll yX0_towersInAll : Cond) ∈ zTab := zmem 21 (by decide +kernel)
theorem zw_22 : (.selects yX0_piecesInAll.cls yX0_piecesInAll yX0_piecesInAll : Cond) ∈ zTab := zmem 22 (by decide +kernel)
theorem zw_23 : (.selects yX1_account.cls yX1_account yX1_account : Cond) ∈ zTab := zmem 23 (by decide +kernel)
theorem zw_24 : (.selects yX1_reasonAgainst.cls yX1_reasonAgainst yX1_reasonAgainst : Cond) ∈ zTab := zmem 24 (by decide +kernel)
theorem zw_25 : (.selects yX0_price.cls yX0_price yX0_price : Cond) ∈ zTab := zmem 25 (by decide +kernel)
theorem zw_26 : (.selects yX0_kindOn.cls yX0_kindOn yX0_kindOn : Cond) ∈ zTab := zmem 26 (by decide +kernel)
theorem zw_27 : (.selects yX0_priceAlong.cls yX0_priceAlong yX0_priceAlong : Cond) ∈ zTab := zmem 27 (by decide +kernel)
theorem zw_28 : (.selects yX1_makeMove.cls yX1_makeMove yX1_makeMove : Cond) ∈ zTab := zmem 28 (by decide +kernel)
theorem zw_29 : (.selects yX1_carryOut.cls yX1_carryOut yX1_carryOut : Cond) ∈ zTab := zmem 29 (by decide +kernel)
theorem zw_30 : (.selects yX1_springBehindTaking.cls yX1_springBehindTaking yX1_springBehindTaking : Cond) ∈ zTab := zmem 30 (by decide +kernel)
theorem zw_31 : (.selects yX1_beginTurn.cls yX1_beginTurn yX1_beginTurn : Cond) ∈ zTab := zmem 31 (by decide +kernel)
theorem zw_32 : (.selects yX1_reasonAgainstPass.cls yX1_reasonAgainstPass yX1_reasonAgainstPass : Cond) ∈ zTab := zmem 32 (by decide +kernel)
theorem zw_33 : (.selects yX0_movesOf.cls yX0_movesOf yX0_movesOf : Cond) ∈ zTab := zmem 33 (by decide +kernel)
theorem zw_34 : (.selects yX0_canMove.cls yX0_canMove yX0_canMove : Cond) ∈ zTab := zmem 34 (by decide +kernel)
theorem zw_35 : (.selects yX1_makePass.cls yX1_makePass yX1_makePass : Cond) ∈ zTab := zmem 35 (by decide +kernel)
theorem zw_36 : (.selects yX0_movesFrom.cls yX0_movesFrom yX0_movesFrom : Cond) ∈ zTab := zmem 36 (by decide +kernel)
theorem zw_37 : (.selects yX2_makeReachWider.cls yX2_makeReachWider yX2_makeReachWider : Cond) ∈ zTab := zmem 37 (by decide +kernel)
theorem zw_38 : (.selects yX2_leaveFrom.cls yX2_leaveFrom yX2_leaveFrom : Cond) ∈ zTab := zmem 38 (by decide +kernel)
theorem zw_39 : (.selects yX2_cellsReached.cls yX2_cellsReached yX2_cellsReached : Cond) ∈ zTab := zmem 39 (by decide +kernel)
theorem zw_40 : (.selects yX2_tryText.cls yX2_tryText yX2_tryText : Cond) ∈ zTab := zmem 40 (by decide +kernel)
theorem zw_41 : (.selects yX2_signsOfForm.cls yX2_signsOfForm yX2_signsOfForm : Cond) ∈ zTab := zmem 41 (by decide +kernel)
theorem zw_42 : (.selects yX2_signAt.cls yX2_signAt yX2_signAt : Cond) ∈ zTab := zmem 42 (by decide +kernel)
theorem zw_43 : (.selects yX2_cellAt.cls yX2_cellAt yX2_cellAt : Cond) ∈ zTab := zmem 43 (by decide +kernel)
theorem zw_44 : (.selects yX2_movesInText.cls yX2_movesInText yX2_movesInText : Cond) ∈ zTab := zmem 44 (by decide +kernel)
theorem zw_45 : (.selects yX2_gamesBehind.cls yX2_gamesBehind yX2_gamesBehind : Cond) ∈ zTab := zmem 45 (by decide +kernel)
theorem zw_46 : (.selects yX2_worthOf.cls yX2_worthOf yX2_worthOf : Cond) ∈ zTab := zmem 46 (by decide +kernel)
theorem zw_47 : (.initialized RL : Cond) ∈ zTab := zmem 47 (by decide +kernel)
theorem zw_48 : (.initialized RX2 : Cond) ∈ zTab := zmem 48 (by decide +kernel)
theorem zw_49 : (.initialized RX1 : Cond) ∈ zTab := zmem 49 (by decide +kernel)
theorem zw_50 : (.initialized RX0 : Cond) ∈ zTab := zmem 50 (by decide +kernel)
theorem zw_51 : (.initialized RJ10 : Cond) ∈ zTab := zmem 51 (by decide +kernel)
theorem zw_52 : (.initialized RJ9 : Cond) ∈ zTab := zmem 52 (by decide +kernel)
theorem zw_53 : (.initialized RJ6 : Cond) ∈ zTab := zmem 53 (by decide +kernel)
theorem zw_54 : (.classLink RL 14 "ClockworkChess" : Cond) ∈ zTab := zmem 54 (by decide +kernel)
theorem zw_55 : (.instantiable RX2 8 : Cond) ∈ zTab := zmem 55 (by decide +kernel)
theorem zw_56 : (.methodLink RL 80 yX2_init : Cond) ∈ zTab := zmem 56 (by decide +kernel)
theorem zw_57 : (.instanceMethod yX2_init : Cond) ∈ zTab := zmem 57 (by decide +kernel)
theorem zw_58 : (.code yX2_init cX2_init 2 none : Cond) ∈ zTab := zmem 58 (by decide +kernel)
theorem zw_59 : (.methodLink RX2 1 objectInit : Cond) ∈ zTab := zmem 59 (by decide +kernel)
theorem zw_60 : (.instanceMethod objectInit : Cond) ∈ zTab := zmem 60 (by decide +kernel)
theorem zw_61 : (.code objectInit ⟨#[0xb1]⟩ 1 none : Cond) ∈ zTab := zmem 61 (by decide +kernel)
theorem zw_62 : (.classLink RX2 7 "ClockworkChess$Game" : Cond) ∈ zTab := zmem 62 (by decide +kernel)
theorem zw_63 : (.instantiable RX1 15 : Cond) ∈ zTab := zmem 63 (by decide +kernel)
theorem zw_64 : (.methodLinkNest RX2 9 yX1_init "ClockworkChess" : Cond) ∈ zTab := zmem 64 (by decide +kernel)
theorem zw_65 : (.instanceMethod yX1_init : Cond) ∈ zTab := zmem 65 (by decide +kernel)
theorem zw_66 : (.code yX1_init cX1_init 1 none : Cond) ∈ zTab := zmem 66 (by decide +kernel)
theorem zw_67 : (.methodLink RX1 3 objectInit : Cond) ∈ zTab := zmem 67 (by decide +kernel)
theorem zw_68 : (.classLink RX1 9 "ClockworkChess$Board" : Cond) ∈ zTab := zmem 68 (by decide +kernel)
theorem zw_69 : (.instantiable RX0 4 : Cond) ∈ zTab := zmem 69 (by decide +kernel)
theorem zw_70 : (.methodLinkNest RX1 11 yX0_init "ClockworkChess" : Cond) ∈ zTab := zmem 70 (by decide +kernel)
theorem zw_71 : (.instanceMethod yX0_init : Cond) ∈ zTab := zmem 71 (by decide +kernel)
theorem zw_72 : (.code yX0_init cX0_init 1 none : Cond) ∈ zTab := zmem 72 (by decide +kernel)
theorem zw_73 : (.methodLink RX0 3 objectInit : Cond) ∈ zTab := zmem 73 (by decide +kernel)
theorem zw_74 : (.fieldLink RX0 9 "ClockworkChess$Board" "sides" "[I" : Cond) ∈ zTab := zmem 74 (by decide +kernel)
theorem zw_75 : (.fieldLink RX0 15 "ClockworkChess$Board" "kinds" "[I" : Cond) ∈ zTab := zmem 75 (by decide +kernel)
theorem zw_76 : (.fieldLink RX0 18 "ClockworkChess$Board" "springs" "[I" : Cond) ∈ zTab := zmem 76 (by decide +kernel)
theorem zw_77 : (.fieldLink RX0 21 "ClockworkChess$Board" "towers" "[I" : Cond) ∈ zTab := zmem 77 (by decide +kernel)
theorem zw_87 : (.arrayClass .int : Cond) ∈ zTab := zmem 87 (by decide +kernel)
theorem zw_88 : (.fieldLink RX1 12 "ClockworkChess$Game" "board" "LClockworkChess$Board;" : Cond) ∈ zTab := zmem 88 (by decide +kernel)
theorem zw_89 : (.fieldLinkNest RX2 40 "ClockworkChess$Game" "board" "LClockworkChess$Board;" "ClockworkChess" : Cond) ∈ zTab := zmem 89 (by decide +kernel)
theorem zw_90 : (.fieldLink RX1 18 "ClockworkChess$Game" "limit" "I" : Cond) ∈ zTab := zmem 90 (by decide +kernel)
theorem zw_91 : (.fieldLinkNest RX2 66 "ClockworkChess$Game" "limit" "I" "ClockworkChess" : Cond) ∈ zTab := zmem 91 (by decide +kernel)
theorem zw_92 : (.fieldLink RX1 22 "ClockworkChess$Game" "bonus" "I" : Cond) ∈ zTab := zmem 92 (by decide +kernel)
theorem zw_93 : (.fieldLink RX1 25 "ClockworkChess$Game" "winding" "I" : Cond) ∈ zTab := zmem 93 (by decide +kernel)
theorem zw_94 : (.fieldLink RX1 35 "ClockworkChess$Game" "mover" "I" : Cond) ∈ zTab := zmem 94 (by decide +kernel)
theorem zw_95 : (.fieldLinkNest RX2 106 "ClockworkChess$Game" "mover" "I" "ClockworkChess" : Cond) ∈ zTab := zmem 95 (by decide +kernel)
theorem zw_96 : (.fieldLink RX1 38 "ClockworkChess$Game" "ending" "I" : Cond) ∈ zTab := zmem 96 (by decide +kernel)
theorem zw_97 : (.fieldLinkNest RX2 109 "ClockworkChess$Game" "ending" "I" "ClockworkChess" : Cond) ∈ zTab := zmem 97 (by decide +kernel)
theorem zw_98 : (.fieldLink RX1 28 "ClockworkChess$Game" "winner" "I" : Cond) ∈ zTab := zmem 98 (by decide +kernel)
theorem zw_99 : (.fieldLinkNest RX2 112 "ClockworkChess$Game" "winner" "I" "ClockworkChess" : Cond) ∈ zTab := zmem 99 (by decide +kernel)
theorem zw_100 : (.fieldLink RX1 41 "ClockworkChess$Game" "turnsMade" "I" : Cond) ∈ zTab := zmem 100 (by decide +kernel)
theorem zw_101 : (.fieldLinkNest RX2 115 "ClockworkChess$Game" "turnsMade" "I" "ClockworkChess" : Cond) ∈ zTab := zmem 101 (by decide +kernel)
theorem zw_102 : (.fieldLink RX1 44 "ClockworkChess$Game" "justPassed" "Z" : Cond) ∈ zTab := zmem 102 (by decide +kernel)
theorem zw_103 : (.fieldLink RX1 48 "ClockworkChess$Game" "atBeginning" "I" : Cond) ∈ zTab := zmem 103 (by decide +kernel)
theorem zw_104 : (.fieldLink RX1 51 "ClockworkChess$Game" "wound" "I" : Cond) ∈ zTab := zmem 104 (by decide +kernel)
theorem zw_105 : (.fieldLink RX1 54 "ClockworkChess$Game" "gainedByBonus" "I" : Cond) ∈ zTab := zmem 105 (by decide +kernel)
theorem zw_106 : (.fieldLink RX1 57 "ClockworkChess$Game" "spent" "I" : Cond) ∈ zTab := zmem 106 (by decide +kernel)
theorem zw_107 : (.fieldLink RX1 60 "ClockworkChess$Game" "lost" "I" : Cond) ∈ zTab := zmem 107 (by decide +kernel)
theorem zw_108 : (.fieldLink RX1 63 "ClockworkChess$Game" "putOn" "I" : Cond) ∈ zTab := zmem 108 (by decide +kernel)
theorem zw_141 : (.methodLinkNest RX2 34 yX1_begin "ClockworkChess" : Cond) ∈ zTab := zmem 141 (by decide +kernel)
theorem zw_143 : (.instanceMethod yX1_begin : Cond) ∈ zTab := zmem 143 (by decide +kernel)
theorem zw_144 : (.code yX1_begin cX1_begin 1 none : Cond) ∈ zTab := zmem 144 (by decide +kernel)
theorem zw_145 : (.methodLinkNest RX1 66 yX0_arrange "ClockworkChess" : Cond) ∈ zTab := zmem 145 (by decide +kernel)
theorem zw_147 : (.instanceMethod yX0_arrange : Cond) ∈ zTab := zmem 147 (by decide +kernel)
theorem zw_148 : (.code yX0_arrange cX0_arrange 3 none : Cond) ∈ zTab := zmem 148 (by decide +kernel)
theorem zw_149 : (.methodLink RX0 30 yX0_empty : Cond) ∈ zTab := zmem 149 (by decide +kernel)
theorem zw_151 : (.instanceMethod yX0_empty : Cond) ∈ zTab := zmem 151 (by decide +kernel)
theorem zw_152 : (.code yX0_empty cX0_empty 2 none : Cond) ∈ zTab := zmem 152 (by decide +kernel)
theorem zw_153 : (.methodLink RX0 41 yX0_place : Cond) ∈ zTab := zmem 153 (by decide +kernel)
theorem zw_155 : (.instanceMethod yX0_place : Cond) ∈ zTab := zmem 155 (by decide +kernel)
theorem zw_156 : (.code yX0_place cX0_place 5 none : Cond) ∈ zTab := zmem 156 (by decide +kernel)
theorem zw_157 : (.methodLinkNest RX0 48 yX2_isCell "ClockworkChess" : Cond) ∈ zTab := zmem 157 (by decide +kernel)
theorem zw_158 : (.static yX2_isCell : Cond) ∈ zTab := zmem 158 (by decide +kernel)
theorem zw_159 : (.code yX2_isCell cX2_isCell 1 (some .boolean) : Cond) ∈ zTab := zmem 159 (by decide +kernel)
theorem zw_160 : (.methodLink RX0 34 yX0_markTower : Cond) ∈ zTab := zmem 160 (by decide +kernel)
theorem zw_162 : (.instanceMethod yX0_markTower : Cond) ∈ zTab := zmem 162 (by decide +kernel)
theorem zw_163 : (.code yX0_markTower cX0_markTower 3 none : Cond) ∈ zTab := zmem 163 (by decide +kernel)
theorem zw_164 : (.fieldLinkNest RX0 38 "ClockworkChess" "FIRST_ROW" "[I" "ClockworkChess" : Cond) ∈ zTab := zmem 164 (by decide +kernel)
theorem zw_166 : (.fieldLinkNest RX0 45 "ClockworkChess" "FIRST_TOWERS" "[I" "ClockworkChess" : Cond) ∈ zTab := zmem 166 (by decide +kernel)
theorem zw_168 : (.methodLinkNest RX1 70 yX0_springsInAll "ClockworkChess" : Cond) ∈ zTab := zmem 168 (by decide +kernel)
theorem zw_170 : (.instanceMethod yX0_springsInAll : Cond) ∈ zTab := zmem 170 (by decide +kernel)
theorem zw_171 : (.code yX0_springsInAll cX0_springsInAll 1 (some .int) : Cond) ∈ zTab := zmem 171 (by decide +kernel)
theorem zw_172 : (.methodLink RX0 56 yX0_springsOf : Cond) ∈ zTab := zmem 172 (by decide +kernel)
theorem zw_174 : (.instanceMethod yX0_springsOf : Cond) ∈ zTab := zmem 174 (by decide +kernel)
theorem zw_175 : (.code yX0_springsOf cX0_springsOf 4 (some .int) : Cond) ∈ zTab := zmem 175 (by decide +kernel)
theorem zw_176 : (.fieldLink RX2 10 "ClockworkChess" "game" "LClockworkChess$Game;" : Cond) ∈ zTab := zmem 176 (by decide +kernel)
theorem zw_177 : (.fieldLink RX2 16 "ClockworkChess" "trial" "LClockworkChess$Game;" : Cond) ∈ zTab := zmem 177 (by decide +kernel)
theorem zw_178 : (.fieldLink RX2 19 "ClockworkChess" "states" "[LClockworkChess$Game;" : Cond) ∈ zTab := zmem 178 (by decide +kernel)
theorem zw_179 : (.fieldLink RX2 124 "ClockworkChess" "stateCount" "I" : Cond) ∈ zTab := zmem 179 (by decide +kernel)
theorem zw_180 : (.fieldLink RX2 23 "ClockworkChess" "text" "[C" : Cond) ∈ zTab := zmem 180 (by decide +kernel)
theorem zw_181 : (.fieldLink RX2 127 "ClockworkChess" "textLength" "I" : Cond) ∈ zTab := zmem 181 (by decide +kernel)
theorem zw_182 : (.fieldLink RX2 27 "ClockworkChess" "springLeft" "[I" : Cond) ∈ zTab := zmem 182 (by decide +kernel)
theorem zw_183 : (.fieldLink RX2 31 "ClockworkChess" "springLeftNext" "[I" : Cond) ∈ zTab := zmem 183 (by decide +kernel)
theorem zw_201 : (.arrayClass .char : Cond) ∈ zTab := zmem 201 (by decide +kernel)
theorem zw_202 : (.methodLink RL 154 yX2_setUp : Cond) ∈ zTab := zmem 202 (by decide +kernel)
theorem zw_203 : (.instanceMethod yX2_setUp : Cond) ∈ zTab := zmem 203 (by decide +kernel)
theorem zw_204 : (.selects yX2_setUp.cls yX2_setUp yX2_setUp : Cond) ∈ zTab := zmem 204 (by decide +kernel)
theorem zw_205 : (.code yX2_setUp cX2_setUp 1 (some .int) : Cond) ∈ zTab := zmem 205 (by decide +kernel)
theorem zw_206 : (.methodLink RX2 37 yX2_record : Cond) ∈ zTab := zmem 206 (by decide +kernel)
theorem zw_208 : (.instanceMethod yX2_record : Cond) ∈ zTab := zmem 208 (by decide +kernel)
theorem zw_209 : (.code yX2_record cX2_record 3 none : Cond) ∈ zTab := zmem 209 (by decide +kernel)
theorem zw_210 : (.methodLink RX2 136 yX2_stateAt : Cond) ∈ zTab := zmem 210 (by decide +kernel)
theorem zw_212 : (.instanceMethod yX2_stateAt : Cond) ∈ zTab := zmem 212 (by decide +kernel)
theorem zw_213 : (.code yX2_stateAt cX2_stateAt 2 (some (.object "ClockworkChess$Game")) : Cond) ∈ zTab := zmem 213 (by decide +kernel)
theorem zw_214 : (.methodLinkNest RX2 140 yX1_copyFrom "ClockworkChess" : Cond) ∈ zTab := zmem 214 (by decide +kernel)
theorem zw_216 : (.instanceMethod yX1_copyFrom : Cond) ∈ zTab := zmem 216 (by decide +kernel)
theorem zw_217 : (.code yX1_copyFrom cX1_copyFrom 2 none : Cond) ∈ zTab := zmem 217 (by decide +kernel)
theorem zw_218 : (.methodLinkNest RX1 31 yX0_copyFrom "ClockworkChess" : Cond) ∈ zTab := zmem 218 (by decide +kernel)
theorem zw_220 : (.instanceMethod yX0_copyFrom : Cond) ∈ zTab := zmem 220 (by decide +kernel)
theorem zw_221 : (.code yX0_copyFrom cX0_copyFrom 2 none : Cond) ∈ zTab := zmem 221 (by decide +kernel)
theorem zw_222 : (.methodLink RX0 24 arraycopyName : Cond) ∈ zTab := zmem 222 (by decide +kernel)
theorem zw_223 : (.static arraycopyName : Cond) ∈ zTab := zmem 223 (by decide +kernel)
theorem zw_224 : (.native arraycopyName : Cond) ∈ zTab := zmem 224 (by decide +kernel)
theorem zw_225 : (.methodLinkNest RX2 44 yX0_springsInAll "ClockworkChess" : Cond) ∈ zTab := zmem 225 (by decide +kernel)
theorem zw_226 : (.methodLink RL 64 yX2_set : Cond) ∈ zTab := zmem 226 (by decide +kernel)
theorem zw_227 : (.instanceMethod yX2_set : Cond) ∈ zTab := zmem 227 (by decide +kernel)
theorem zw_228 : (.selects yX2_set.cls yX2_set yX2_set : Cond) ∈ zTab := zmem 228 (by decide +kernel)
theorem zw_229 : (.code yX2_set cX2_set 4 (some .int) : Cond) ∈ zTab := zmem 229 (by decide +kernel)
theorem zw_230 : (.methodLink RX2 50 yX2_isSetting : Cond) ∈ zTab := zmem 230 (by decide +kernel)
theorem zw_231 : (.static yX2_isSetting : Cond) ∈ zTab := zmem 231 (by decide +kernel)
theorem zw_232 : (.code yX2_isSetting cX2_isSetting 2 (some .boolean) : Cond) ∈ zTab := zmem 232 (by decide +kernel)
theorem zw_233 : (.methodLinkNest RX2 54 yX1_setting "ClockworkChess" : Cond) ∈ zTab := zmem 233 (by decide +kernel)
theorem zw_235 : (.instanceMethod yX1_setting : Cond) ∈ zTab := zmem 235 (by decide +kernel)
theorem zw_236 : (.code yX1_setting cX1_setting 2 (some .int) : Cond) ∈ zTab := zmem 236 (by decide +kernel)
theorem zw_237 : (.methodLinkNest RX2 58 yX1_changeSetting "ClockworkChess" : Cond) ∈ zTab := zmem 237 (by decide +kernel)
theorem zw_239 : (.instanceMethod yX1_changeSetting : Cond) ∈ zTab := zmem 239 (by decide +kernel)
theorem zw_240 : (.code yX1_changeSetting cX1_changeSetting 3 none : Cond) ∈ zTab := zmem 240 (by decide +kernel)
theorem zw_241 : (.methodLink RX1 74 yX1_cutSprings : Cond) ∈ zTab := zmem 241 (by decide +kernel)
theorem zw_243 : (.instanceMethod yX1_cutSprings : Cond) ∈ zTab := zmem 243 (by decide +kernel)
theorem zw_244 : (.code yX1_cutSprings cX1_cutSprings 3 none : Cond) ∈ zTab := zmem 244 (by decide +kernel)
theorem zw_245 : (.methodLinkNest RX1 77 yX0_springOn "ClockworkChess" : Cond) ∈ zTab := zmem 245 (by decide +kernel)
theorem zw_247 : (.instanceMethod yX0_springOn : Cond) ∈ zTab := zmem 247 (by decide +kernel)
theorem zw_248 : (.code yX0_springOn cX0_springOn 2 (some .int) : Cond) ∈ zTab := zmem 248 (by decide +kernel)
theorem zw_249 : (.methodLinkNest RX1 81 yX0_changeSpring "ClockworkChess" : Cond) ∈ zTab := zmem 249 (by decide +kernel)
theorem zw_251 : (.instanceMethod yX0_changeSpring : Cond) ∈ zTab := zmem 251 (by decide +kernel)
theorem zw_252 : (.code yX0_changeSpring cX0_changeSpring 3 none : Cond) ∈ zTab := zmem 252 (by decide +kernel)
theorem zw_253 : (.methodLink RL 33 yX2_put : Cond) ∈ zTab := zmem 253 (by decide +kernel)
theorem zw_254 : (.instanceMethod yX2_put : Cond) ∈ zTab := zmem 254 (by decide +kernel)
theorem zw_255 : (.selects yX2_put.cls yX2_put yX2_put : Cond) ∈ zTab := zmem 255 (by decide +kernel)
theorem zw_256 : (.code yX2_put cX2_put 9 (some .int) : Cond) ∈ zTab := zmem 256 (by decide +kernel)
theorem zw_257 : (.methodLink RX2 62 yX2_isSide : Cond) ∈ zTab := zmem 257 (by decide +kernel)
theorem zw_258 : (.static yX2_isSide : Cond) ∈ zTab := zmem 258 (by decide +kernel)
theorem zw_259 : (.code yX2_isSide cX2_isSide 1 (some .boolean) : Cond) ∈ zTab := zmem 259 (by decide +kernel)
theorem zw_260 : (.methodLink RX2 70 yX2_isCell : Cond) ∈ zTab := zmem 260 (by decide +kernel)
theorem zw_261 : (.methodLinkNest RX2 73 yX1_isOver "ClockworkChess" : Cond) ∈ zTab := zmem 261 (by decide +kernel)
theorem zw_263 : (.instanceMethod yX1_isOver : Cond) ∈ zTab := zmem 263 (by decide +kernel)
theorem zw_264 : (.code yX1_isOver cX1_isOver 1 (some .boolean) : Cond) ∈ zTab := zmem 264 (by decide +kernel)
theorem zw_265 : (.methodLinkNest RX2 77 yX0_hasPiece "ClockworkChess" : Cond) ∈ zTab := zmem 265 (by decide +kernel)
theorem zw_267 : (.instanceMethod yX0_hasPiece : Cond) ∈ zTab := zmem 267 (by decide +kernel)
theorem zw_268 : (.code yX0_hasPiece cX0_hasPiece 2 (some .boolean) : Cond) ∈ zTab := zmem 268 (by decide +kernel)
theorem zw_269 : (.methodLink RX0 52 yX0_sideOn : Cond) ∈ zTab := zmem 269 (by decide +kernel)
theorem zw_271 : (.instanceMethod yX0_sideOn : Cond) ∈ zTab := zmem 271 (by decide +kernel)
theorem zw_272 : (.code yX0_sideOn cX0_sideOn 2 (some .int) : Cond) ∈ zTab := zmem 272 (by decide +kernel)
theorem zw_273 : (.methodLinkNest RX2 80 yX1_putInstead "ClockworkChess" : Cond) ∈ zTab := zmem 273 (by decide +kernel)
theorem zw_275 : (.instanceMethod yX1_putInstead : Cond) ∈ zTab := zmem 275 (by decide +kernel)
theorem zw_276 : (.code yX1_putInstead cX1_putInstead 5 none : Cond) ∈ zTab := zmem 276 (by decide +kernel)
theorem zw_277 : (.methodLinkNest RX1 85 yX0_empty "ClockworkChess" : Cond) ∈ zTab := zmem 277 (by decide +kernel)
theorem zw_278 : (.methodLinkNest RX1 88 yX0_place "ClockworkChess" : Cond) ∈ zTab := zmem 278 (by decide +kernel)
theorem zw_279 : (.methodLink RL 37 yX2_tower : Cond) ∈ zTab := zmem 279 (by decide +kernel)
theorem zw_280 : (.instanceMethod yX2_tower : Cond) ∈ zTab := zmem 280 (by decide +kernel)
theorem zw_281 : (.selects yX2_tower.cls yX2_tower yX2_tower : Cond) ∈ zTab := zmem 281 (by decide +kernel)
theorem zw_282 : (.code yX2_tower cX2_tower 2 (some .int) : Cond) ∈ zTab := zmem 282 (by decide +kernel)
theorem zw_283 : (.methodLinkNest RX2 84 yX0_isTower "ClockworkChess" : Cond) ∈ zTab := zmem 283 (by decide +kernel)
theorem zw_285 : (.instanceMethod yX0_isTower : Cond) ∈ zTab := zmem 285 (by decide +kernel)
theorem zw_286 : (.code yX0_isTower cX0_isTower 2 (some .boolean) : Cond) ∈ zTab := zmem 286 (by decide +kernel)
theorem zw_287 : (.methodLinkNest RX2 87 yX0_towersInAll "ClockworkChess" : Cond) ∈ zTab := zmem 287 (by decide +kernel)
theorem zw_289 : (.instanceMethod yX0_towersInAll : Cond) ∈ zTab := zmem 289 (by decide +kernel)
theorem zw_290 : (.code yX0_towersInAll cX0_towersInAll 3 (some .int) : Cond) ∈ zTab := zmem 290 (by decide +kernel)
theorem zw_291 : (.methodLinkNest RX2 90 yX0_markTower "ClockworkChess" : Cond) ∈ zTab := zmem 291 (by decide +kernel)
theorem zw_292 : (.methodLink RL 13 yX2_count : Cond) ∈ zTab := zmem 292 (by decide +kernel)
theorem zw_293 : (.instanceMethod yX2_count : Cond) ∈ zTab := zmem 293 (by decide +kernel)
theorem zw_294 : (.selects yX2_count.cls yX2_count yX2_count : Cond) ∈ zTab := zmem 294 (by decide +kernel)
theorem zw_295 : (.code yX2_count cX2_count 2 (some .int) : Cond) ∈ zTab := zmem 295 (by decide +kernel)
theorem zw_296 : (.methodLinkNest RX2 118 yX0_piecesInAll "ClockworkChess" : Cond) ∈ zTab := zmem 296 (by decide +kernel)
theorem zw_298 : (.instanceMethod yX0_piecesInAll : Cond) ∈ zTab := zmem 298 (by decide +kernel)
theorem zw_299 : (.code yX0_piecesInAll cX0_piecesInAll 3 (some .int) : Cond) ∈ zTab := zmem 299 (by decide +kernel)
theorem zw_300 : (.methodLinkNest RX2 121 yX0_springsOf "ClockworkChess" : Cond) ∈ zTab := zmem 300 (by decide +kernel)
theorem zw_301 : (.methodLink RX2 130 yX2_isAccount : Cond) ∈ zTab := zmem 301 (by decide +kernel)
theorem zw_302 : (.static yX2_isAccount : Cond) ∈ zTab := zmem 302 (by decide +kernel)
theorem zw_303 : (.code yX2_isAccount cX2_isAccount 1 (some .boolean) : Cond) ∈ zTab := zmem 303 (by decide +kernel)
theorem zw_304 : (.methodLinkNest RX2 133 yX1_account "ClockworkChess" : Cond) ∈ zTab := zmem 304 (by decide +kernel)
theorem zw_306 : (.instanceMethod yX1_account : Cond) ∈ zTab := zmem 306 (by decide +kernel)
theorem zw_307 : (.code yX1_account cX1_account 2 (some .int) : Cond) ∈ zTab := zmem 307 (by decide +kernel)
theorem zw_308 : (.methodLink RL 138 yX2_undo : Cond) ∈ zTab := zmem 308 (by decide +kernel)
theorem zw_309 : (.instanceMethod yX2_undo : Cond) ∈ zTab := zmem 309 (by decide +kernel)
theorem zw_310 : (.selects yX2_undo.cls yX2_undo yX2_undo : Cond) ∈ zTab := zmem 310 (by decide +kernel)
theorem zw_311 : (.code yX2_undo cX2_undo 2 (some .int) : Cond) ∈ zTab := zmem 311 (by decide +kernel)
theorem zw_312 : (.methodLink RL 40 yX2_move : Cond) ∈ zTab := zmem 312 (by decide +kernel)
theorem zw_313 : (.instanceMethod yX2_move : Cond) ∈ zTab := zmem 313 (by decide +kernel)
theorem zw_314 : (.selects yX2_move.cls yX2_move yX2_move : Cond) ∈ zTab := zmem 314 (by decide +kernel)
theorem zw_315 : (.code yX2_move cX2_move 3 (some .int) : Cond) ∈ zTab := zmem 315 (by decide +kernel)
theorem zw_316 : (.methodLinkNest RX2 144 yX1_reasonAgainst "ClockworkChess" : Cond) ∈ zTab := zmem 316 (by decide +kernel)
theorem zw_318 : (.instanceMethod yX1_reasonAgainst : Cond) ∈ zTab := zmem 318 (by decide +kernel)
theorem zw_319 : (.code yX1_reasonAgainst cX1_reasonAgainst 4 (some .int) : Cond) ∈ zTab := zmem 319 (by decide +kernel)
theorem zw_320 : (.methodLink RX1 92 yX1_isOver : Cond) ∈ zTab := zmem 320 (by decide +kernel)
theorem zw_321 : (.methodLinkNest RX1 96 yX0_hasPiece "ClockworkChess" : Cond) ∈ zTab := zmem 321 (by decide +kernel)
theorem zw_322 : (.methodLinkNest RX1 100 yX0_sideOn "ClockworkChess" : Cond) ∈ zTab := zmem 322 (by decide +kernel)
theorem zw_323 : (.methodLinkNest RX1 103 yX0_price "ClockworkChess" : Cond) ∈ zTab := zmem 323 (by decide +kernel)
theorem zw_325 : (.instanceMethod yX0_price : Cond) ∈ zTab := zmem 325 (by decide +kernel)
theorem zw_326 : (.code yX0_price cX0_price 10 (some .int) : Cond) ∈ zTab := zmem 326 (by decide +kernel)
theorem zw_327 : (.methodLink RX0 70 yJ9_abs_0f7a4 : Cond) ∈ zTab := zmem 327 (by decide +kernel)
theorem zw_328 : (.static yJ9_abs_0f7a4 : Cond) ∈ zTab := zmem 328 (by decide +kernel)
theorem zw_329 : (.code yJ9_abs_0f7a4 Lib.Math.abs.code 1 (some .int) : Cond) ∈ zTab := zmem 329 (by decide +kernel)
theorem zw_330 : (.methodLink RX0 75 yX0_kindOn : Cond) ∈ zTab := zmem 330 (by decide +kernel)
theorem zw_332 : (.instanceMethod yX0_kindOn : Cond) ∈ zTab := zmem 332 (by decide +kernel)
theorem zw_333 : (.code yX0_kindOn cX0_kindOn 2 (some .int) : Cond) ∈ zTab := zmem 333 (by decide +kernel)
theorem zw_334 : (.methodLink RX0 78 yJ9_max_7cf53 : Cond) ∈ zTab := zmem 334 (by decide +kernel)
theorem zw_335 : (.static yJ9_max_7cf53 : Cond) ∈ zTab := zmem 335 (by decide +kernel)
theorem zw_336 : (.code yJ9_max_7cf53 Lib.Math.max.code 2 (some .int) : Cond) ∈ zTab := zmem 336 (by decide +kernel)
theorem zw_337 : (.methodLink RX0 81 yX0_priceAlong : Cond) ∈ zTab := zmem 337 (by decide +kernel)
theorem zw_339 : (.instanceMethod yX0_priceAlong : Cond) ∈ zTab := zmem 339 (by decide +kernel)
theorem zw_340 : (.code yX0_priceAlong cX0_priceAlong 8 (some .int) : Cond) ∈ zTab := zmem 340 (by decide +kernel)
theorem zw_341 : (.methodLink RX0 85 yJ6_compare_7cf53 : Cond) ∈ zTab := zmem 341 (by decide +kernel)
theorem zw_342 : (.static yJ6_compare_7cf53 : Cond) ∈ zTab := zmem 342 (by decide +kernel)
theorem zw_343 : (.code yJ6_compare_7cf53 cJ6_compare_7cf53 2 (some .int) : Cond) ∈ zTab := zmem 343 (by decide +kernel)
theorem zw_344 : (.methodLinkNest RX2 148 yX1_makeMove "ClockworkChess" : Cond) ∈ zTab := zmem 344 (by decide +kernel)
theorem zw_346 : (.instanceMethod yX1_makeMove : Cond) ∈ zTab := zmem 346 (by decide +kernel)
theorem zw_347 : (.code yX1_makeMove cX1_makeMove 4 (some .int) : Cond) ∈ zTab := zmem 347 (by decide +kernel)
theorem zw_348 : (.methodLink RX1 110 yX1_carryOut : Cond) ∈ zTab := zmem 348 (by decide +kernel)
theorem zw_350 : (.instanceMethod yX1_carryOut : Cond) ∈ zTab := zmem 350 (by decide +kernel)
theorem zw_351 : (.code yX1_carryOut cX1_carryOut 8 (some .int) : Cond) ∈ zTab := zmem 351 (by decide +kernel)
theorem zw_352 : (.methodLinkNest RX1 116 yX0_kindOn "ClockworkChess" : Cond) ∈ zTab := zmem 352 (by decide +kernel)
theorem zw_353 : (.methodLink RX1 119 yX1_springBehindTaking : Cond) ∈ zTab := zmem 353 (by decide +kernel)
theorem zw_355 : (.instanceMethod yX1_springBehindTaking : Cond) ∈ zTab := zmem 355 (by decide +kernel)
theorem zw_356 : (.code yX1_springBehindTaking cX1_springBehindTaking 6 (some .int) : Cond) ∈ zTab := zmem 356 (by decide +kernel)
theorem zw_357 : (.methodLink RX1 122 yJ9_min_7cf53 : Cond) ∈ zTab := zmem 357 (by decide +kernel)
theorem zw_358 : (.static yJ9_min_7cf53 : Cond) ∈ zTab := zmem 358 (by decide +kernel)
theorem zw_359 : (.code yJ9_min_7cf53 Lib.Math.min.code 2 (some .int) : Cond) ∈ zTab := zmem 359 (by decide +kernel)
theorem zw_360 : (.methodLink RX1 113 yX1_beginTurn : Cond) ∈ zTab := zmem 360 (by decide +kernel)
theorem zw_362 : (.instanceMethod yX1_beginTurn : Cond) ∈ zTab := zmem 362 (by decide +kernel)
theorem zw_363 : (.code yX1_beginTurn cX1_beginTurn 4 none : Cond) ∈ zTab := zmem 363 (by decide +kernel)
theorem zw_364 : (.methodLinkNest RX1 130 yX0_isTower "ClockworkChess" : Cond) ∈ zTab := zmem 364 (by decide +kernel)
theorem zw_365 : (.methodLink RL 151 yX2_pass : Cond) ∈ zTab := zmem 365 (by decide +kernel)
theorem zw_366 : (.instanceMethod yX2_pass : Cond) ∈ zTab := zmem 366 (by decide +kernel)
theorem zw_367 : (.selects yX2_pass.cls yX2_pass yX2_pass : Cond) ∈ zTab := zmem 367 (by decide +kernel)
theorem zw_368 : (.code yX2_pass cX2_pass 1 (some .int) : Cond) ∈ zTab := zmem 368 (by decide +kernel)
theorem zw_369 : (.methodLinkNest RX2 151 yX1_reasonAgainstPass "ClockworkChess" : Cond) ∈ zTab := zmem 369 (by decide +kernel)
theorem zw_371 : (.instanceMethod yX1_reasonAgainstPass : Cond) ∈ zTab := zmem 371 (by decide +kernel)
theorem zw_372 : (.code yX1_reasonAgainstPass cX1_reasonAgainstPass 1 (some .int) : Cond) ∈ zTab := zmem 372 (by decide +kernel)
theorem zw_373 : (.methodLinkNest RX1 107 yX0_movesOf "ClockworkChess" : Cond) ∈ zTab := zmem 373 (by decide +kernel)
theorem zw_375 : (.instanceMethod yX0_movesOf : Cond) ∈ zTab := zmem 375 (by decide +kernel)
theorem zw_376 : (.code yX0_movesOf cX0_movesOf 5 (some .int) : Cond) ∈ zTab := zmem 376 (by decide +kernel)
theorem zw_377 : (.methodLink RX0 59 yX0_canMove : Cond) ∈ zTab := zmem 377 (by decide +kernel)
theorem zw_379 : (.instanceMethod yX0_canMove : Cond) ∈ zTab := zmem 379 (by decide +kernel)
theorem zw_380 : (.code yX0_canMove cX0_canMove 4 (some .boolean) : Cond) ∈ zTab := zmem 380 (by decide +kernel)
theorem zw_381 : (.methodLink RX0 63 yX0_price : Cond) ∈ zTab := zmem 381 (by decide +kernel)
theorem zw_382 : (.methodLink RX0 67 yX0_springOn : Cond) ∈ zTab := zmem 382 (by decide +kernel)
theorem zw_383 : (.methodLinkNest RX2 154 yX1_makePass "ClockworkChess" : Cond) ∈ zTab := zmem 383 (by decide +kernel)
theorem zw_385 : (.instanceMethod yX1_makePass : Cond) ∈ zTab := zmem 385 (by decide +kernel)
theorem zw_386 : (.code yX1_makePass cX1_makePass 2 none : Cond) ∈ zTab := zmem 386 (by decide +kernel)
theorem zw_387 : (.methodLinkNest RX1 127 yX0_springsOf "ClockworkChess" : Cond) ∈ zTab := zmem 387 (by decide +kernel)
theorem zw_388 : (.methodLink RL 55 yX2_moves : Cond) ∈ zTab := zmem 388 (by decide +kernel)
theorem zw_389 : (.instanceMethod yX2_moves : Cond) ∈ zTab := zmem 389 (by decide +kernel)
theorem zw_390 : (.selects yX2_moves.cls yX2_moves yX2_moves : Cond) ∈ zTab := zmem 390 (by decide +kernel)
theorem zw_391 : (.code yX2_moves cX2_moves 2 (some .int) : Cond) ∈ zTab := zmem 391 (by decide +kernel)
theorem zw_392 : (.methodLinkNest RX2 160 yX0_movesOf "ClockworkChess" : Cond) ∈ zTab := zmem 392 (by decide +kernel)
theorem zw_393 : (.methodLink RL 58 yX2_listed : Cond) ∈ zTab := zmem 393 (by decide +kernel)
theorem zw_394 : (.instanceMethod yX2_listed : Cond) ∈ zTab := zmem 394 (by decide +kernel)
theorem zw_395 : (.selects yX2_listed.cls yX2_listed yX2_listed : Cond) ∈ zTab := zmem 395 (by decide +kernel)
theorem zw_396 : (.code yX2_listed cX2_listed 7 (some .int) : Cond) ∈ zTab := zmem 396 (by decide +kernel)
theorem zw_397 : (.methodLinkNest RX2 94 yX0_sideOn "ClockworkChess" : Cond) ∈ zTab := zmem 397 (by decide +kernel)
theorem zw_398 : (.methodLinkNest RX2 163 yX0_canMove "ClockworkChess" : Cond) ∈ zTab := zmem 398 (by decide +kernel)
theorem zw_399 : (.methodLink RL 174 yL_part : Cond) ∈ zTab := zmem 399 (by decide +kernel)
theorem zw_400 : (.static yL_part : Cond) ∈ zTab := zmem 400 (by decide +kernel)
theorem zw_401 : (.code yL_part cL_part 2 (some .int) : Cond) ∈ zTab := zmem 401 (by decide +kernel)
theorem zw_402 : (.constant RL 7 2147483647 : Cond) ∈ zTab := zmem 402 (by decide +kernel)
theorem zw_403 : (.methodLink RL 170 yL_take : Cond) ∈ zTab := zmem 403 (by decide +kernel)
theorem zw_404 : (.static yL_take : Cond) ∈ zTab := zmem 404 (by decide +kernel)
theorem zw_405 : (.code yL_take cL_take 2 (some .int) : Cond) ∈ zTab := zmem 405 (by decide +kernel)
theorem zw_406 : (.constant RL 8 2654435 : Cond) ∈ zTab := zmem 406 (by decide +kernel)
theorem zw_407 : (.methodLink RL 29 yL_state : Cond) ∈ zTab := zmem 407 (by decide +kernel)
theorem zw_408 : (.static yL_state : Cond) ∈ zTab := zmem 408 (by decide +kernel)
theorem zw_409 : (.code yL_state cL_state 4 (some .long) : Cond) ∈ zTab := zmem 409 (by decide +kernel)
theorem zw_410 : (.constantLong RL 11 4 : Cond) ∈ zTab := zmem 410 (by decide +kernel)
theorem zw_411 : (.methodLink RL 19 yL_mixed : Cond) ∈ zTab := zmem 411 (by decide +kernel)
theorem zw_412 : (.static yL_mixed : Cond) ∈ zTab := zmem 412 (by decide +kernel)
theorem zw_413 : (.code yL_mixed cL_mixed 4 (some .long) : Cond) ∈ zTab := zmem 413 (by decide +kernel)
theorem zw_414 : (.constantLong RL 9 31 : Cond) ∈ zTab := zmem 414 (by decide +kernel)
theorem zw_415 : (.methodLink RL 25 yX2_cell : Cond) ∈ zTab := zmem 415 (by decide +kernel)
theorem zw_416 : (.instanceMethod yX2_cell : Cond) ∈ zTab := zmem 416 (by decide +kernel)
theorem zw_417 : (.selects yX2_cell.cls yX2_cell yX2_cell : Cond) ∈ zTab := zmem 417 (by decide +kernel)
theorem zw_418 : (.code yX2_cell cX2_cell 4 (some .int) : Cond) ∈ zTab := zmem 418 (by decide +kernel)
theorem zw_419 : (.methodLinkNest RX2 97 yX0_kindOn "ClockworkChess" : Cond) ∈ zTab := zmem 419 (by decide +kernel)
theorem zw_420 : (.methodLinkNest RX2 100 yX0_springOn "ClockworkChess" : Cond) ∈ zTab := zmem 420 (by decide +kernel)
theorem zw_421 : (.methodLinkNest RX2 103 yX0_movesFrom "ClockworkChess" : Cond) ∈ zTab := zmem 421 (by decide +kernel)
theorem zw_423 : (.instanceMethod yX0_movesFrom : Cond) ∈ zTab := zmem 423 (by decide +kernel)
theorem zw_424 : (.code yX0_movesFrom cX0_movesFrom 4 (some .int) : Cond) ∈ zTab := zmem 424 (by decide +kernel)
theorem zw_425 : (.methodLink RL 147 yL_refused : Cond) ∈ zTab := zmem 425 (by decide +kernel)
theorem zw_426 : (.static yL_refused : Cond) ∈ zTab := zmem 426 (by decide +kernel)
theorem zw_427 : (.code yL_refused cL_refused 6 (some .boolean) : Cond) ∈ zTab := zmem 427 (by decide +kernel)
theorem zw_428 : (.methodLink RL 43 yX2_refusal : Cond) ∈ zTab := zmem 428 (by decide +kernel)
theorem zw_429 : (.instanceMethod yX2_refusal : Cond) ∈ zTab := zmem 429 (by decide +kernel)
theorem zw_430 : (.selects yX2_refusal.cls yX2_refusal yX2_refusal : Cond) ∈ zTab := zmem 430 (by decide +kernel)
theorem zw_431 : (.code yX2_refusal cX2_refusal 3 (some .int) : Cond) ∈ zTab := zmem 431 (by decide +kernel)
theorem zw_432 : (.methodLink RL 46 yX2_cost : Cond) ∈ zTab := zmem 432 (by decide +kernel)
theorem zw_433 : (.instanceMethod yX2_cost : Cond) ∈ zTab := zmem 433 (by decide +kernel)
theorem zw_434 : (.selects yX2_cost.cls yX2_cost yX2_cost : Cond) ∈ zTab := zmem 434 (by decide +kernel)
theorem zw_435 : (.code yX2_cost cX2_cost 4 (some .int) : Cond) ∈ zTab := zmem 435 (by decide +kernel)
theorem zw_436 : (.methodLinkNest RX2 157 yX0_price "ClockworkChess" : Cond) ∈ zTab := zmem 436 (by decide +kernel)
theorem zw_437 : (.methodLink RL 49 yX2_struck : Cond) ∈ zTab := zmem 437 (by decide +kernel)
theorem zw_438 : (.instanceMethod yX2_struck : Cond) ∈ zTab := zmem 438 (by decide +kernel)
theorem zw_439 : (.selects yX2_struck.cls yX2_struck yX2_struck : Cond) ∈ zTab := zmem 439 (by decide +kernel)
theorem zw_440 : (.code yX2_struck cX2_struck 6 (some .int) : Cond) ∈ zTab := zmem 440 (by decide +kernel)
theorem zw_441 : (.methodLinkNest RX2 166 yX0_copyFrom "ClockworkChess" : Cond) ∈ zTab := zmem 441 (by decide +kernel)
theorem zw_442 : (.methodLinkNest RX2 169 yX0_place "ClockworkChess" : Cond) ∈ zTab := zmem 442 (by decide +kernel)
theorem zw_443 : (.methodLink RL 52 yX2_reach : Cond) ∈ zTab := zmem 443 (by decide +kernel)
theorem zw_444 : (.instanceMethod yX2_reach : Cond) ∈ zTab := zmem 444 (by decide +kernel)
theorem zw_445 : (.selects yX2_reach.cls yX2_reach yX2_reach : Cond) ∈ zTab := zmem 445 (by decide +kernel)
theorem zw_446 : (.code yX2_reach cX2_reach 6 (some .int) : Cond) ∈ zTab := zmem 446 (by decide +kernel)
theorem zw_447 : (.methodLinkNest RX2 172 yX0_empty "ClockworkChess" : Cond) ∈ zTab := zmem 447 (by decide +kernel)
theorem zw_448 : (.methodLink RX2 176 yX2_makeReachWider : Cond) ∈ zTab := zmem 448 (by decide +kernel)
theorem zw_450 : (.instanceMethod yX2_makeReachWider : Cond) ∈ zTab := zmem 450 (by decide +kernel)
theorem zw_451 : (.code yX2_makeReachWider cX2_makeReachWider 5 none : Cond) ∈ zTab := zmem 451 (by decide +kernel)
theorem zw_452 : (.methodLink RX2 194 arraycopyName : Cond) ∈ zTab := zmem 452 (by decide +kernel)
theorem zw_453 : (.methodLink RX2 200 yX2_leaveFrom : Cond) ∈ zTab := zmem 453 (by decide +kernel)
theorem zw_455 : (.instanceMethod yX2_leaveFrom : Cond) ∈ zTab := zmem 455 (by decide +kernel)
theorem zw_456 : (.code yX2_leaveFrom cX2_leaveFrom 5 none : Cond) ∈ zTab := zmem 456 (by decide +kernel)
theorem zw_457 : (.methodLink RX2 203 yJ9_max_7cf53 : Cond) ∈ zTab := zmem 457 (by decide +kernel)
theorem zw_458 : (.methodLink RX2 179 yX2_cellsReached : Cond) ∈ zTab := zmem 458 (by decide +kernel)
theorem zw_460 : (.instanceMethod yX2_cellsReached : Cond) ∈ zTab := zmem 460 (by decide +kernel)
theorem zw_461 : (.code yX2_cellsReached cX2_cellsReached 3 (some .int) : Cond) ∈ zTab := zmem 461 (by decide +kernel)
theorem zw_462 : (.methodLink RL 61 yX2_fault : Cond) ∈ zTab := zmem 462 (by decide +kernel)
theorem zw_463 : (.instanceMethod yX2_fault : Cond) ∈ zTab := zmem 463 (by decide +kernel)
theorem zw_464 : (.selects yX2_fault.cls yX2_fault yX2_fault : Cond) ∈ zTab := zmem 464 (by decide +kernel)
theorem zw_465 : (.code yX2_fault cX2_fault 3 (some .int) : Cond) ∈ zTab := zmem 465 (by decide +kernel)
theorem zw_466 : (.methodLink RX2 188 yX2_tryText : Cond) ∈ zTab := zmem 466 (by decide +kernel)
theorem zw_468 : (.instanceMethod yX2_tryText : Cond) ∈ zTab := zmem 468 (by decide +kernel)
theorem zw_469 : (.code yX2_tryText cX2_tryText 7 (some .int) : Cond) ∈ zTab := zmem 469 (by decide +kernel)
theorem zw_470 : (.methodLink RX2 211 yX2_signsOfForm : Cond) ∈ zTab := zmem 470 (by decide +kernel)
theorem zw_472 : (.instanceMethod yX2_signsOfForm : Cond) ∈ zTab := zmem 472 (by decide +kernel)
theorem zw_473 : (.code yX2_signsOfForm cX2_signsOfForm 3 (some .int) : Cond) ∈ zTab := zmem 473 (by decide +kernel)
theorem zw_474 : (.methodLink RX2 217 yX2_signAt : Cond) ∈ zTab := zmem 474 (by decide +kernel)
theorem zw_476 : (.instanceMethod yX2_signAt : Cond) ∈ zTab := zmem 476 (by decide +kernel)
theorem zw_477 : (.code yX2_signAt cX2_signAt 2 (some .char) : Cond) ∈ zTab := zmem 477 (by decide +kernel)
theorem zw_478 : (.methodLink RX2 214 yX2_cellAt : Cond) ∈ zTab := zmem 478 (by decide +kernel)
theorem zw_480 : (.instanceMethod yX2_cellAt : Cond) ∈ zTab := zmem 480 (by decide +kernel)
theorem zw_481 : (.code yX2_cellAt cX2_cellAt 5 (some .int) : Cond) ∈ zTab := zmem 481 (by decide +kernel)
theorem zw_482 : (.methodLink RL 67 yX2_type : Cond) ∈ zTab := zmem 482 (by decide +kernel)
theorem zw_483 : (.instanceMethod yX2_type : Cond) ∈ zTab := zmem 483 (by decide +kernel)
theorem zw_484 : (.selects yX2_type.cls yX2_type yX2_type : Cond) ∈ zTab := zmem 484 (by decide +kernel)
theorem zw_485 : (.code yX2_type cX2_type 2 (some .int) : Cond) ∈ zTab := zmem 485 (by decide +kernel)
theorem zw_486 : (.methodLink RL 160 yL_texts : Cond) ∈ zTab := zmem 486 (by decide +kernel)
theorem zw_487 : (.static yL_texts : Cond) ∈ zTab := zmem 487 (by decide +kernel)
theorem zw_488 : (.code yL_texts cL_texts 4 (some .boolean) : Cond) ∈ zTab := zmem 488 (by decide +kernel)
theorem zw_489 : (.methodLink RL 81 yX2_play : Cond) ∈ zTab := zmem 489 (by decide +kernel)
theorem zw_490 : (.instanceMethod yX2_play : Cond) ∈ zTab := zmem 490 (by decide +kernel)
theorem zw_491 : (.selects yX2_play.cls yX2_play yX2_play : Cond) ∈ zTab := zmem 491 (by decide +kernel)
theorem zw_492 : (.code yX2_play cX2_play 1 (some .int) : Cond) ∈ zTab := zmem 492 (by decide +kernel)
theorem zw_493 : (.methodLink RX2 191 yX2_movesInText : Cond) ∈ zTab := zmem 493 (by decide +kernel)
theorem zw_495 : (.instanceMethod yX2_movesInText : Cond) ∈ zTab := zmem 495 (by decide +kernel)
theorem zw_496 : (.code yX2_movesInText cX2_movesInText 3 (some .int) : Cond) ∈ zTab := zmem 496 (by decide +kernel)
theorem zw_497 : (.constantLong RL 84 417457058619 : Cond) ∈ zTab := zmem 497 (by decide +kernel)
theorem zw_498 : (.methodLink RL 86 yL_isFault : Cond) ∈ zTab := zmem 498 (by decide +kernel)
theorem zw_499 : (.static yL_isFault : Cond) ∈ zTab := zmem 499 (by decide +kernel)
theorem zw_500 : (.code yL_isFault cL_isFault 7 (some .boolean) : Cond) ∈ zTab := zmem 500 (by decide +kernel)
theorem zw_501 : (.methodLink RL 72 yX2_clearText : Cond) ∈ zTab := zmem 501 (by decide +kernel)
theorem zw_502 : (.instanceMethod yX2_clearText : Cond) ∈ zTab := zmem 502 (by decide +kernel)
theorem zw_503 : (.selects yX2_clearText.cls yX2_clearText yX2_clearText : Cond) ∈ zTab := zmem 503 (by decide +kernel)
theorem zw_504 : (.code yX2_clearText cX2_clearText 2 (some .int) : Cond) ∈ zTab := zmem 504 (by decide +kernel)
theorem zw_505 : (.methodLink RL 76 yL_types : Cond) ∈ zTab := zmem 505 (by decide +kernel)
theorem zw_506 : (.static yL_types : Cond) ∈ zTab := zmem 506 (by decide +kernel)
theorem zw_507 : (.code yL_types cL_types 5 none : Cond) ∈ zTab := zmem 507 (by decide +kernel)
theorem zw_508 : (.constantLong RL 70 255 : Cond) ∈ zTab := zmem 508 (by decide +kernel)
theorem zw_509 : (.constantLong RL 90 1630691635 : Cond) ∈ zTab := zmem 509 (by decide +kernel)
theorem zw_510 : (.constantLong RL 92 443210084667 : Cond) ∈ zTab := zmem 510 (by decide +kernel)
theorem zw_511 : (.constantLong RL 94 417540944187 : Cond) ∈ zTab := zmem 511 (by decide +kernel)
theorem zw_512 : (.constantLong RL 96 417473836091 : Cond) ∈ zTab := zmem 512 (by decide +kernel)
theorem zw_513 : (.constantLong RL 98 417507390523 : Cond) ∈ zTab := zmem 513 (by decide +kernel)
theorem zw_514 : (.constantLong RL 100 417440281147 : Cond) ∈ zTab := zmem 514 (by decide +kernel)
theorem zw_515 : (.constantLong RL 102 417440280891 : Cond) ∈ zTab := zmem 515 (by decide +kernel)
theorem zw_516 : (.constantLong RL 104 417457058875 : Cond) ∈ zTab := zmem 516 (by decide +kernel)
theorem zw_517 : (.constantLong RL 106 417440281403 : Cond) ∈ zTab := zmem 517 (by decide +kernel)
theorem zw_518 : (.constantLong RL 108 11579 : Cond) ∈ zTab := zmem 518 (by decide +kernel)
theorem zw_519 : (.constantLong RL 110 45 : Cond) ∈ zTab := zmem 519 (by decide +kernel)
theorem zw_520 : (.constantLong RL 112 7003767243181995361 : Cond) ∈ zTab := zmem 520 (by decide +kernel)
theorem zw_521 : (.constantLong RL 114 13371 : Cond) ∈ zTab := zmem 521 (by decide +kernel)
theorem zw_522 : (.constantLong RL 116 7003767243181994849 : Cond) ∈ zTab := zmem 522 (by decide +kernel)
theorem zw_523 : (.constantLong RL 118 7003767243182061155 : Cond) ∈ zTab := zmem 523 (by decide +kernel)
theorem zw_524 : (.constantLong RL 120 106869007006584 : Cond) ∈ zTab := zmem 524 (by decide +kernel)
theorem zw_525 : (.constantLong RL 122 27358465793666363 : Cond) ∈ zTab := zmem 525 (by decide +kernel)
theorem zw_526 : (.constantLong RL 124 280018105147 : Cond) ∈ zTab := zmem 526 (by decide +kernel)
theorem zw_527 : (.constantLong RL 126 106869007006523 : Cond) ∈ zTab := zmem 527 (by decide +kernel)
theorem zw_528 : (.constantLong RL 128 106867919500091 : Cond) ∈ zTab := zmem 528 (by decide +kernel)
theorem zw_529 : (.constantLong RL 130 7075543362243212642 : Cond) ∈ zTab := zmem 529 (by decide +kernel)
theorem zw_530 : (.constantLong RL 132 7075545561266468193 : Cond) ∈ zTab := zmem 530 (by decide +kernel)
theorem zw_531 : (.constantLong RL 134 14701996038960443 : Cond) ∈ zTab := zmem 531 (by decide +kernel)
theorem zw_532 : (.constantLong RL 136 14701987448828475 : Cond) ∈ zTab := zmem 532 (by decide +kernel)
theorem zw_533 : (.methodLink RL 164 yL_begins : Cond) ∈ zTab := zmem 533 (by decide +kernel)
theorem zw_534 : (.static yL_begins : Cond) ∈ zTab := zmem 534 (by decide +kernel)
theorem zw_535 : (.code yL_begins cL_begins 1 (some .boolean) : Cond) ∈ zTab := zmem 535 (by decide +kernel)
theorem zw_536 : (.methodLink RL 141 yX2_replies : Cond) ∈ zTab := zmem 536 (by decide +kernel)
theorem zw_537 : (.instanceMethod yX2_replies : Cond) ∈ zTab := zmem 537 (by decide +kernel)
theorem zw_538 : (.selects yX2_replies.cls yX2_replies yX2_replies : Cond) ∈ zTab := zmem 538 (by decide +kernel)
theorem zw_539 : (.code yX2_replies cX2_replies 4 (some .int) : Cond) ∈ zTab := zmem 539 (by decide +kernel)
theorem zw_540 : (.methodLink RX2 182 yX2_gamesBehind : Cond) ∈ zTab := zmem 540 (by decide +kernel)
theorem zw_542 : (.instanceMethod yX2_gamesBehind : Cond) ∈ zTab := zmem 542 (by decide +kernel)
theorem zw_543 : (.code yX2_gamesBehind cX2_gamesBehind 3 (some .int) : Cond) ∈ zTab := zmem 543 (by decide +kernel)
theorem zw_544 : (.methodLink RL 144 yX2_best : Cond) ∈ zTab := zmem 544 (by decide +kernel)
theorem zw_545 : (.instanceMethod yX2_best : Cond) ∈ zTab := zmem 545 (by decide +kernel)
theorem zw_546 : (.selects yX2_best.cls yX2_best yX2_best : Cond) ∈ zTab := zmem 546 (by decide +kernel)
theorem zw_547 : (.code yX2_best cX2_best 6 (some .int) : Cond) ∈ zTab := zmem 547 (by decide +kernel)
theorem zw_548 : (.methodLink RX2 185 yX2_worthOf : Cond) ∈ zTab := zmem 548 (by decide +kernel)
theorem zw_550 : (.instanceMethod yX2_worthOf : Cond) ∈ zTab := zmem 550 (by decide +kernel)
theorem zw_551 : (.code yX2_worthOf cX2_worthOf 5 (some .int) : Cond) ∈ zTab := zmem 551 (by decide +kernel)
theorem zw_552 : (.methodLinkNest RX2 208 yX1_carryOut "ClockworkChess" : Cond) ∈ zTab := zmem 552 (by decide +kernel)
theorem zw_553 : (.methodLink RL 167 yL_known : Cond) ∈ zTab := zmem 553 (by decide +kernel)
theorem zw_554 : (.static yL_known : Cond) ∈ zTab := zmem 554 (by decide +kernel)
theorem zw_555 : (.code yL_known cL_known 1 (some .boolean) : Cond) ∈ zTab := zmem 555 (by decide +kernel)
theorem zw_556 : (.methodLink RL 157 yL_isCleared : Cond) ∈ zTab := zmem 556 (by decide +kernel)
theorem zw_557 : (.static yL_isCleared : Cond) ∈ zTab := zmem 557 (by decide +kernel)
theorem zw_558 : (.code yL_isCleared cL_isCleared 3 (some .boolean) : Cond) ∈ zTab := zmem 558 (by decide +kernel)
theorem zw_559 : (.arrayClass .long : Cond) ∈ zTab := zmem 559 (by decide +kernel)
theorem zy_X1_begin : zY yX1_begin cX1_begin 1 none 0 := ⟨zw_143, zw_0, zw_49, zw_144, by decide +kernel⟩
theorem zy_X0_arrange : zY yX0_arrange cX0_arrange 3 none 1 := ⟨zw_147, zw_1, zw_50, zw_148, by decide +kernel⟩
theorem zy_X0_empty : zY yX0_empty cX0_empty 2 none 1 := ⟨zw_151, zw_2, zw_50, zw_152, by decide +kernel⟩
theorem zy_X0_place : zY yX0_place cX0_place 5 none 4 := ⟨zw_155, zw_3, zw_50, zw_156, by decide +kernel⟩
theorem zy_X2_isCell : zYS yX2_isCell cX2_isCell 1 (some .boolean) 1 := ⟨zw_158, zw_48, zw_159, by decide +kernel⟩
theorem zy_X0_markTower : zY yX0_markTower cX0_markTower 3 none 2 := ⟨zw_162, zw_4, zw_50, zw_163, by decide +kernel⟩
theorem zy_X0_springsInAll : zY yX0_springsInAll cX0_springsInAll 1 (some .int) 0 := ⟨zw_170, zw_5, zw_50, zw_171, by decide +kernel⟩
theorem zy_X0_springsOf : zY yX0_springsOf cX0_springsOf 4 (some .int) 1 := ⟨zw_174, zw_6, zw_50, zw_175, by decide +kernel⟩
theorem zy_X2_setUp : zY yX2_setUp cX2_setUp 1 (some .int) 0 := ⟨zw_203, zw_204, zw_48, zw_205, by decide +kernel⟩
theorem zy_X2_record : zY yX2_record cX2_record 3 none 0 := ⟨zw_208, zw_7, zw_48, zw_209, by decide +kernel⟩
theorem zy_X2_stateAt : zY yX2_stateAt cX2_stateAt 2 (some (.object "ClockworkChess$Game")) 1 := ⟨zw_212, zw_8, zw_48, zw_213, by decide +kernel⟩
theorem zy_X1_copyFrom : zY yX1_copyFrom cX1_copyFrom 2 none 1 := ⟨zw_216, zw_9, zw_49, zw_217, by decide +kernel⟩
theorem zy_X0_copyFrom : zY yX0_copyFrom cX0_copyFrom 2 none 1 := ⟨zw_220, zw_10, zw_50, zw_221, by decide +kernel⟩
theorem zy_X2_set : zY yX2_set cX2_set 4 (some .int) 2 := ⟨zw_227, zw_228, zw_48, zw_229, by decide +kernel⟩
theorem zy_X2_isSetting : zYS yX2_isSetting cX2_isSetting 2 (some .boolean) 2 := ⟨zw_231, zw_48, zw_232, by decide +kernel⟩
theorem zy_X1_setting : zY yX1_setting cX1_setting 2 (some .int) 1 := ⟨zw_235, zw_11, zw_49, zw_236, by decide +kernel⟩
theorem zy_X1_changeSetting : zY yX1_changeSetting cX1_changeSetting 3 none 2 := ⟨zw_239, zw_12, zw_49, zw_240, by decide +kernel⟩
theorem zy_X1_cutSprings : zY yX1_cutSprings cX1_cutSprings 3 none 0 := ⟨zw_243, zw_13, zw_49, zw_244, by decide +kernel⟩
theorem zy_X0_springOn : zY yX0_springOn cX0_springOn 2 (some .int) 1 := ⟨zw_247, zw_14, zw_50, zw_248, by decide +kernel⟩
theorem zy_X0_changeSpring : zY yX0_changeSpring cX0_changeSpring 3 none 2 := ⟨zw_251, zw_15, zw_50, zw_252, by decide +kernel⟩
theorem zy_X2_put : zY yX2_put cX2_put 9 (some .int) 4 := ⟨zw_254, zw_255, zw_48, zw_256, by decide +kernel⟩
theorem zy_X2_isSide : zYS yX2_isSide cX2_isSide 1 (some .boolean) 1 := ⟨zw_258, zw_48, zw_259, by decide +kernel⟩
theorem zy_X1_isOver : zY yX1_isOver cX1_isOver 1 (some .boolean) 0 := ⟨zw_263, zw_16, zw_49, zw_264, by decide +kernel⟩
theorem zy_X0_hasPiece : zY yX0_hasPiece cX0_hasPiece 2 (some .boolean) 1 := ⟨zw_267, zw_17, zw_50, zw_268, by decide +kernel⟩
theorem zy_X0_sideOn : zY yX0_sideOn cX0_sideOn 2 (some .int) 1 := ⟨zw_271, zw_18, zw_50, zw_272, by decide +kernel⟩
theorem zy_X1_putInstead : zY yX1_putInstead cX1_putInstead 5 none 4 := ⟨zw_275, zw_19, zw_49, zw_276, by decide +kernel⟩
theorem zy_X2_tower : zY yX2_tower cX2_tower 2 (some .int) 1 := ⟨zw_280, zw_281, zw_48, zw_282, by decide +kernel⟩
theorem zy_X0_isTower : zY yX0_isTower cX0_isTower 2 (some .boolean) 1 := ⟨zw_285, zw_20, zw_50, zw_286, by decide +kernel⟩
theorem zy_X0_towersInAll : zY yX0_towersInAll cX0_towersInAll 3 (some .int) 0 := ⟨zw_289, zw_21, zw_50, zw_290, by decide +kernel⟩
theorem zy_X2_count : zY yX2_count cX2_count 2 (some .int) 1 := ⟨zw_293, zw_294, zw_48, zw_295, by decide +kernel⟩
theorem zy_X0_piecesInAll : zY yX0_piecesInAll cX0_piecesInAll 3 (some .int) 0 := ⟨zw_298, zw_22, zw_50, zw_299, by decide +kernel⟩
theorem zy_X2_isAccount : zYS yX2_isAccount cX2_isAccount 1 (some .boolean) 1 := ⟨zw_302, zw_48, zw_303, by decide +kernel⟩
theorem zy_X1_account : zY yX1_account cX1_account 2 (some .int) 1 := ⟨zw_306, zw_23, zw_49, zw_307, by decide +kernel⟩
theorem zy_X2_undo : zY yX2_undo cX2_undo 2 (some .int) 0 := ⟨zw_309, zw_310, zw_48, zw_311, by decide +kernel⟩
theorem zy_X2_move : zY yX2_move cX2_move 3 (some .int) 2 := ⟨zw_313, zw_314, zw_48, zw_315, by decide +kernel⟩
theorem zy_X1_reasonAgainst : zY yX1_reasonAgainst cX1_reasonAgainst 4 (some .int) 2 := ⟨zw_318, zw_24, zw_49, zw_319, by decide +kernel⟩
theorem zy_X0_price : zY yX0_price cX0_price 10 (some .int) 2 := ⟨zw_325, zw_25, zw_50, zw_326, by decide +kernel⟩
theorem zy_X0_kindOn : zY yX0_kindOn cX0_kindOn 2 (some .int) 1 := ⟨zw_332, zw_26, zw_50, zw_333, by decide +kernel⟩
theorem zy_X0_priceAlong : zY yX0_priceAlong cX0_priceAlong 8 (some .int) 3 := ⟨zw_339, zw_27, zw_50, zw_340, by decide +kernel⟩
theorem zy_J6_compare_7cf53 : zYS yJ6_compare_7cf53 cJ6_compare_7cf53 2 (some .int) 2 := ⟨zw_342, zw_53, zw_343, by decide +kernel⟩
theorem zy_X1_makeMove : zY yX1_makeMove cX1_makeMove 4 (some .int) 2 := ⟨zw_346, zw_28, zw_49, zw_347, by decide +kernel⟩
theorem zy_X1_carryOut : zY yX1_carryOut cX1_carryOut 8 (some .int) 2 := ⟨zw_350, zw_29, zw_49, zw_351, by decide +kernel⟩
theorem zy_X1_springBehindTaking : zY yX1_springBehindTaking cX1_springBehindTaking 6 (some .int) 2 := ⟨zw_355, zw_30, zw_49, zw_356, by decide +kernel⟩
theorem zy_X1_beginTurn : zY yX1_beginTurn cX1_beginTurn 4 none 1 := ⟨zw_362, zw_31, zw_49, zw_363, by decide +kernel⟩
theorem zy_X2_pass : zY yX2_pass cX2_pass 1 (some .int) 0 := ⟨zw_366, zw_367, zw_48, zw_368, by decide +kernel⟩
theorem zy_X1_reasonAgainstPass : zY yX1_reasonAgainstPass cX1_reasonAgainstPass 1 (some .int) 0 := ⟨zw_371, zw_32, zw_49, zw_372, by decide +kernel⟩
theorem zy_X0_movesOf : zY yX0_movesOf cX0_movesOf 5 (some .int) 1 := ⟨zw_375, zw_33, zw_50, zw_376, by decide +kernel⟩
theorem zy_X0_canMove : zY yX0_canMove cX0_canMove 4 (some .boolean) 2 := ⟨zw_379, zw_34, zw_50, zw_380, by decide +kernel⟩
theorem zy_X1_makePass : zY yX1_makePass cX1_makePass 2 none 0 := ⟨zw_385, zw_35, zw_49, zw_386, by decide +kernel⟩
theorem zy_X2_moves : zY yX2_moves cX2_moves 2 (some .int) 1 := ⟨zw_389, zw_390, zw_48, zw_391, by decide +kernel⟩
theorem zy_X2_listed : zY yX2_listed cX2_listed 7 (some .int) 2 := ⟨zw_394, zw_395, zw_48, zw_396, by decide +kernel⟩
theorem zy_L_part : zYS yL_part cL_part 2 (some .int) 2 := ⟨zw_400, zw_47, zw_401, by decide +kernel⟩
theorem zy_L_take : zYS yL_take cL_take 2 (some .int) 2 := ⟨zw_404, zw_47, zw_405, by decide +kernel⟩
theorem zy_L_state : zYS yL_state cL_state 4 (some .long) 1 := ⟨zw_408, zw_47, zw_409, by decide +kernel⟩
theorem zy_L_mixed : zYS yL_mixed cL_mixed 4 (some .long) 2 := ⟨zw_412, zw_47, zw_413, by decide +kernel⟩
theorem zy_X2_cell : zY yX2_cell cX2_cell 4 (some .int) 2 := ⟨zw_416, zw_417, zw_48, zw_418, by decide +kernel⟩
theorem zy_X0_movesFrom : zY yX0_movesFrom cX0_movesFrom 4 (some .int) 1 := ⟨zw_423, zw_36, zw_50, zw_424, by decide +kernel⟩
theorem zy_L_refused : zYS yL_refused cL_refused 6 (some .boolean) 1 := ⟨zw_426, zw_47, zw_427, by decide +kernel⟩
theorem zy_X2_refusal : zY yX2_refusal cX2_refusal 3 (some .int) 2 := ⟨zw_429, zw_430, zw_48, zw_431, by decide +kernel⟩
theorem zy_X2_cost : zY yX2_cost cX2_cost 4 (some .int) 2 := ⟨zw_433, zw_434, zw_48, zw_435, by decide +kernel⟩
theorem zy_X2_struck : zY yX2_struck cX2_struck 6 (some .int) 2 := ⟨zw_438, zw_439, zw_48, zw_440, by decide +kernel⟩
theorem zy_X2_reach : zY yX2_reach cX2_reach 6 (some .int) 2 := ⟨zw_444, zw_445, zw_48, zw_446, by decide +kernel⟩
theorem zy_X2_makeReachWider : zY yX2_makeReachWider cX2_makeReachWider 5 none 2 := ⟨zw_450, zw_37, zw_48, zw_451, by decide +kernel⟩
theorem zy_X2_leaveFrom : zY yX2_leaveFrom cX2_leaveFrom 5 none 1 := ⟨zw_455, zw_38, zw_48, zw_456, by decide +kernel⟩
theorem zy_X2_cellsReached : zY yX2_cellsReached cX2_cellsReached 3 (some .int) 0 := ⟨zw_460, zw_39, zw_48, zw_461, by decide +kernel⟩
theorem zy_X2_fault : zY yX2_fault cX2_fault 3 (some .int) 1 := ⟨zw_463, zw_464, zw_48, zw_465, by decide +kernel⟩
theorem zy_X2_tryText : zY yX2_tryText cX2_tryText 7 (some .int) 0 := ⟨zw_468, zw_40, zw_48, zw_469, by decide +kernel⟩
theorem zy_X2_signsOfForm : zY yX2_signsOfForm cX2_signsOfForm 3 (some .int) 1 := ⟨zw_472, zw_41, zw_48, zw_473, by decide +kernel⟩
theorem zy_X2_signAt : zY yX2_signAt cX2_signAt 2 (some .char) 1 := ⟨zw_476, zw_42, zw_48, zw_477, by decide +kernel⟩
theorem zy_X2_cellAt : zY yX2_cellAt cX2_cellAt 5 (some .int) 1 := ⟨zw_480, zw_43, zw_48, zw_481, by decide +kernel⟩
theorem zy_X2_type : zY yX2_type cX2_type 2 (some .int) 1 := ⟨zw_483, zw_484, zw_48, zw_485, by decide +kernel⟩
theorem zy_L_texts : zYS yL_texts cL_texts 4 (some .boolean) 0 := ⟨zw_487, zw_47, zw_488, by decide +kernel⟩
theorem zy_X2_play : zY yX2_play cX2_play 1 (some .int) 0 := ⟨zw_490, zw_491, zw_48, zw_492, by decide +kernel⟩
theorem zy_X2_movesInText : zY yX2_movesInText cX2_movesInText 3 (some .int) 0 := ⟨zw_495, zw_44, zw_48, zw_496, by decide +kernel⟩
theorem zy_L_isFault : zYS yL_isFault cL_isFault 7 (some .boolean) 5 := ⟨zw_499, zw_47, zw_500, by decide +kernel⟩
theorem zy_X2_clearText : zY yX2_clearText cX2_clearText 2 (some .int) 0 := ⟨zw_502, zw_503, zw_48, zw_504, by decide +kernel⟩
theorem zy_L_types : zYS yL_types cL_types 5 none 2 := ⟨zw_506, zw_47, zw_507, by decide +kernel⟩
theorem zy_L_begins : zYS yL_begins cL_begins 1 (some .boolean) 0 := ⟨zw_534, zw_47, zw_535, by decide +kernel⟩
theorem zy_X2_replies : zY yX2_replies cX2_replies 4 (some .int) 0 := ⟨zw_537, zw_538, zw_48, zw_539, by decide +kernel⟩
theorem zy_X2_gamesBehind : zY yX2_gamesBehind cX2_gamesBehind 3 (some .int) 2 := ⟨zw_542, zw_45, zw_48, zw_543, by decide +kernel⟩
theorem zy_X2_best : zY yX2_best cX2_best 6 (some .int) 0 := ⟨zw_545, zw_546, zw_48, zw_547, by decide +kernel⟩
theorem zy_X2_worthOf : zY yX2_worthOf cX2_worthOf 5 (some .int) 2 := ⟨zw_550, zw_46, zw_48, zw_551, by decide +kernel⟩
theorem zy_L_known : zYS yL_known cL_known 1 (some .boolean) 0 := ⟨zw_554, zw_47, zw_555, by decide +kernel⟩
theorem zy_L_isCleared : zYS yL_isCleared cL_isCleared 3 (some .boolean) 1 := ⟨zw_557, zw_47, zw_558, by decide +kernel⟩
theorem zu_X0 : ∀ w ∈ u_ws RX0 TX0 4, w ∈ zTab := by decide +kernel
theorem zu_X1 : ∀ w ∈ u_ws RX1 TX1 15, w ∈ zTab := by decide +kernel
theorem zu_X2 : ∀ w ∈ u_ws RX2 TX2 8, w ∈ zTab := by decide +kernel
end
section
/-! the world: one object of the class as numbers X v j and two small tables of places; a row of long numbers (the law's) behind it -/
abbrev xW : Type := (Nat → Nat → Int32) × (Nat → Nat)
def xg (w : xW) (v j : Nat) : Int32 := w.1 v j
def xs (w : xW) (v j : Nat) (x : Int32) : xW := (fun a b => if a = v ∧ b = j then x else w.1 a b, w.2)
/-- a whole vector in place of another -/
def xv (w : xW) (v : Nat) (f : Nat → Int32) : xW := (fun a b => if a = v then f b else w.1 a b, w.2)
/-- a place of the small table -/
def xp (w : xW) (j k : Nat) : xW := (w.1, fun a => if a = j then k else w.2 a)
abbrev zG : Type := va_G × ClassId × ClassId × ClassId × ClassId × (Nat → Nat)
def zad (G : zG) (i : Nat) : Nat := G.2.2.2.2.2 i
def zb (x : Int32) : Int32 := if x = 0 then 0 else 1
def zc (x : Int32) : Int32 := vp_nar .char x
def zArr (cA : ClassId) (n v o : Nat) (w : xW) : va_E := .inl (cA, n, .inl (fun j => if j < n then xg w v (o + j) else 0))
def zArc (cA : ClassId) (n v : Nat) (w : xW) : va_E := .inl (cA, n, .inl (fun j => if j < n then zc (xg w v j) else 0))
def zGame (G : zG) (w : xW) (g : Nat) : va_E := .inr (1, [.ref (zad G (6 + 6 * g)), .int (xg w g 149), .int (xg w g 150), .int (xg w g 151), .int (xg w g 144), .int (xg w g 145), .int (xg w g 146), .int (xg w g 147), .int (zb (xg w g 148)), .int (xg w g 152), .int (xg w g 153), .int (xg w g 154), .int (xg w g 155), .int (xg w g 156), .int (xg w g 158)])
def zBoard (G : zG) (g : Nat) : va_E := .inr (0, [.ref (zad G (7 + 6 * g)), .ref (zad G (8 + 6 * g)), .ref (zad G (9 + 6 * g)), .ref (zad G (10 + 6 * g))])
/-- the game that stands at a place of the history's row -/
def zpg (w : xW) (j : Nat) : Nat := w.2 j % 7
/-- which of the two rows a name of the class means -/
def zpr (w : xW) (j : Nat) : Nat := 3 + w.2 j % 2
def zOuter (G : zG) (w : xW) : va_E := .inr (2, [.ref (zad G 5), .ref (zad G 11), .ref (zad G 1), .int (xg w 10 0), .ref (zad G 2), .int (xg w 10 1), .ref (zad G (zpr w 5)), .ref (zad G (zpr w 6))])
def zRefs (G : zG) (w : xW) : va_E := .inl (G.2.2.2.1, 5, .inr (.inr (.inr (.inr (fun j => if j < 5 then some (zad G (5 + 6 * zpg w j)) else none)))))
/-- a long number as it lies in the second table -/
def zLg (q : Nat) : Int64 := Int64.ofBitVec (BitVec.ofNat 64 q)
def zLf (w : xW) : Nat → Int64 := fun j => if j < 48 then zLg (w.2 (100 + j)) else 0
def zLong (G : zG) (w : xW) : va_E := .inl (G.2.2.2.2.1, 48, .inr (.inl (zLf w)))
def zE (G : zG) (w : xW) (i : Nat) : va_E :=
  if i = 0 then zOuter G w
  else if i = 1 then zRefs G w
  else if i = 2 then zArc G.2.2.1 80 7 w
  else if i = 3 then zArr G.2.1 36 8 0 w
  else if i = 4 then zArr G.2.1 36 9 0 w
  else if i = 47 then zLong G w
  else if (i - 5) % 6 = 0 then zGame G w ((i - 5) / 6)
  else if (i - 5) % 6 = 1 then zBoard G ((i - 5) / 6)
  else zArr G.2.1 36 ((i - 5) / 6) (36 * ((i - 5) % 6 - 2)) w
theorem zE_game (G : zG) (w : xW) {g : Nat} (hg : g < 7) : zE G w (5 + 6 * g) = zGame G w g := by
  have h1 : (5 + 6 * g - 5) % 6 = 0 := by omega
  have h2 : (5 + 6 * g - 5) / 6 = g := by omega
  simp only [zE, h1, h2]
  repeat (first | rw [if_pos rfl] | rw [if_pos trivial] | rw [if_neg (by omega)])
theorem zE_board (G : zG) (w : xW) {g : Nat} (hg : g < 7) : zE G w (6 + 6 * g) = zBoard G g := by
  have h1 : (6 + 6 * g - 5) % 6 = 1 := by omega
  have h2 : (6 + 6 * g - 5) / 6 = g := by omega
  simp only [zE, h1, h2]
  repeat (first | rw [if_pos rfl] | rw [if_pos trivial] | rw [if_neg (by omega)])
theorem zE_arr (G : zG) (w : xW) {g r : Nat} (hg : g < 7) (hr : r < 4) : zE G w (7 + r + 6 * g) = zArr G.2.1 36 g (36 * r) w := by
  have h1 : (7 + r + 6 * g - 5) % 6 = r + 2 := by omega
  have h2 : (7 + r + 6 * g - 5) / 6 = g := by omega
  have h3 : r + 2 - 2 = r := by omega
  simp only [zE, h1, h2, h3]
  repeat (first | rw [if_pos rfl] | rw [if_pos trivial] | rw [if_neg (by omega)])
theorem zE_0 (G : zG) (w : xW) : zE G w 0 = zOuter G w := rfl
theorem zE_1 (G : zG) (w : xW) : zE G w 1 = zRefs G w := rfl
theorem zE_2 (G : zG) (w : xW) : zE G w 2 = zArc G.2.2.1 80 7 w := rfl
theorem zE_3 (G : zG) (w : xW) : zE G w 3 = zArr G.2.1 36 8 0 w := rfl
theorem zE_4 (G : zG) (w : xW) : zE G w 4 = zArr G.2.1 36 9 0 w := rfl
theorem zE_47 (G : zG) (w : xW) : zE G w 47 = zLong G w := rfl
theorem zE_row (G : zG) (w u : xW) (j : Nat) : zE G u (zpr w j) = zArr G.2.1 36 (5 + zpr w j) 0 u := by
  have h : zpr w j = 3 ∨ zpr w j = 4 := by unfold zpr; omega
  rcases h with h | h <;> rw [h] <;> rfl
theorem zpr_lt (w : xW) (j : Nat) : zpr w j < 5 := by unfold zpr; omega
theorem zpg_lt (w : xW) (j : Nat) : zpg w j < 7 := by unfold zpg; omega
/-- the cell in which a number of the world lies -/
def zown (v j : Nat) : Nat :=
  if v < 7 then (if j < 144 then 7 + j / 36 + 6 * v else 5 + 6 * v)
  else if v = 7 then 2 else if v = 8 then 3 else if v = 9 then 4 else if v = 10 then 0
  else 99
theorem zown_arr {g r c : Nat} (hg : g < 7) (hr : r < 4) (hc : c < 36) : zown g (36 * r + c) = 7 + r + 6 * g := by
  unfold zown
  rw [if_pos hg, if_pos (by omega)]
  omega
theorem zown_game {g j : Nat} (hg : g < 7) (hj : 144 ≤ j) : zown g j = 5 + 6 * g := by
  unfold zown
  rw [if_pos hg, if_neg (by omega)]
theorem zArr_congr {cA : ClassId} {n v o : Nat} {w u : xW} (h : ∀ j, j < n → xg w v (o + j) = xg u v (o + j)) : zArr cA n v o w = zArr cA n v o u := by
  unfold zArr
  have : (fun j => if j < n then xg w v (o + j) else 0) = (fun j => if j < n then xg u v (o + j) else 0) := by
    funext j
    by_cases hj : j < n
    · simp only [hj, if_true]; exact h j hj
    · simp only [hj, if_false]
  rw [this]
theorem zArc_congr {cA : ClassId} {n v : Nat} {w u : xW} (h : ∀ j, j < n → xg w v j = xg u v j) : zArc cA n v w = zArc cA n v u := by
  unfold zArc
  have : (fun j => if j < n then zc (xg w v j) else 0) = (fun j => if j < n then zc (xg u v j) else 0) := by
    funext j
    by_cases hj : j < n
    · simp only [hj, if_true]; rw [h j hj]
    · simp only [hj, if_false]
  rw [this]
/-- a cell is what its own numbers say -/
theorem zE_congr {G : zG} {w u : xW} {i : Nat} (hi : i < 48) (hp : w.2 = u.2) (h : ∀ v j, zown v j = i → xg w v j = xg u v j) : zE G w i = zE G u i := by
  by_cases h0 : i = 0
  · subst h0
    simp only [zE_0, zOuter, zpr, hp, h 10 0 rfl, h 10 1 rfl]
  by_cases h1 : i = 1
  · subst h1
    simp only [zE_1, zRefs, zpg, hp]
  by_cases h2 : i = 2
  · subst h2
    exact zArc_congr fun j _ => h 7 j rfl
  by_cases h3 : i = 3
  · subst h3
    exact zArr_congr fun j _ => h 8 _ rfl
  by_cases h4 : i = 4
  · subst h4
    exact zArr_congr fun j _ => h 9 _ rfl
  by_cases h47 : i = 47
  · subst h47
    simp only [zE_47, zLong, zLf, hp]
  obtain ⟨g, r, hg, hr, e⟩ : ∃ g r, g < 7 ∧ r < 6 ∧ i = 5 + r + 6 * g := ⟨(i - 5) / 6, (i - 5) % 6, by omega, by omega, by omega⟩
  subst e
  by_cases r0 : r = 0
  · subst r0
    rw [show 5 + 0 + 6 * g = 5 + 6 * g by omega, zE_game _ _ hg, zE_game _ _ hg]
    have q : ∀ j, 144 ≤ j → xg w g j = xg u g j := fun j hj => h g j (zown_game hg hj)
    simp only [zGame, q 149 (by decide), q 150 (by decide), q 151 (by decide), q 144 (by decide), q 145 (by decide), q 146 (by decide), q 147 (by decide), q 148 (by decide), q 152 (by decide), q 153 (by decide), q 154 (by decide), q 155 (by decide), q 156 (by decide), q 158 (by decide)]
  by_cases r1 : r = 1
  · subst r1
    rw [show 5 + 1 + 6 * g = 6 + 6 * g by omega, zE_board _ _ hg, zE_board _ _ hg]
  obtain ⟨r', e⟩ : ∃ r', r = r' + 2 := ⟨r - 2, by omega⟩
  subst e
  rw [show 5 + (r' + 2) + 6 * g = 7 + r' + 6 * g by omega, zE_arr _ _ hg (by omega), zE_arr _ _ hg (by omega)]
  exact zArr_congr fun j hj => h g _ (by rw [zown_arr hg (by omega) hj]; omega)
theorem xg_xs (w : xW) (v j : Nat) (x : Int32) (a b : Nat) : xg (xs w v j x) a b = if a = v ∧ b = j then x else xg w a b := rfl
theorem xg_same (w : xW) (v j : Nat) (x : Int32) : xg (xs w v j x) v j = x := by simp [xg_xs]
theorem xg_ne (w : xW) {v j a b : Nat} (x : Int32) (h : ¬ (a = v ∧ b = j)) : xg (xs w v j x) a b = xg w a b := by rw [xg_xs, if_neg h]
theorem xg_xp (w : xW) (j k : Nat) (a b : Nat) : xg (xp w j k) a b = xg w a b := rfl
theorem xg_xv (w : xW) (v : Nat) (f : Nat → Int32) (a b : Nat) : xg (xv w v f) a b = if a = v then f b else xg w a b := rfl
theorem zE_xs {G : zG} {w : xW} {v j i : Nat} {x : Int32} (hi : i < 48) (h : i ≠ zown v j) : zE G (xs w v j x) i = zE G w i :=
  zE_congr hi rfl fun a b e => xg_ne w x (fun q => h (by rw [← e, q.1, q.2]))
/-- the cells as the kit has them -/
def zws (G : zG) (N : Nat) (w : xW) : va_W := (List.range N).map (fun i => (zad G i, zE G w i))
theorem zws_get {G : zG} {N : Nat} (w : xW) {i : Nat} (h : i < N) : (zws G N w)[i]? = some (zad G i, zE G w i) := by
  simp [zws, h]
theorem zws_set {G : zG} {N : Nat} {w u : xW} {i : Nat} {e : va_E} (hi : i < N) (he : zE G u i = e) (ho : ∀ j, j < N → j ≠ i → zE G u j = zE G w j) : (zws G N w).set i (zad G i, e) = zws G N u := by
  apply List.ext_getElem?
  intro k
  by_cases hk : k < N
  · by_cases hki : k = i
    · subst hki
      rw [List.getElem?_set_self (by simp [zws, hk]), zws_get u hk, he]
    · rw [List.getElem?_set_ne (Ne.symm hki), zws_get w hk, zws_get u hk, ho k hk hki]
  · rw [List.getElem?_eq_none (by simp [zws]; omega), List.getElem?_eq_none (by simp [zws]; omega)]
theorem zArr_set {cA : ClassId} {n v o c : Nat} {w : xW} {x : Int32} (hc : c < n) : zArr cA n v o (xs w v (o + c) x) = .inl (cA, n, .inl (upd (fun j => if j < n then xg w v (o + j) else 0) c x)) := by
  unfold zArr
  have : (fun j => if j < n then xg (xs w v (o + c) x) v (o + j) else 0) = upd (fun j => if j < n then xg w v (o + j) else 0) c x := by
    funext j
    by_cases hj : j = c
    · subst hj
      simp [upd, hc, xg_xs]
    · simp [upd, hj, xg_xs]
  rw [this]
theorem zArc_set {cA : ClassId} {n v c : Nat} {w : xW} {x : Int32} (hc : c < n) : zArc cA n v (xs w v c x) = .inl (cA, n, .inl (upd (fun j => if j < n then zc (xg w v j) else 0) c (zc x))) := by
  unfold zArc
  have : (fun j => if j < n then zc (xg (xs w v c x) v j) else 0) = upd (fun j => if j < n then zc (xg w v j) else 0) c (zc x) := by
    funext j
    by_cases hj : j = c
    · subst hj
      simp [upd, hc, xg_xs]
    · simp [upd, hj, xg_xs]
  rw [this]
theorem zcl {c : Nat} (h : c < 2147483648) : (nI c).toNatClampNeg = c := nI_clamp h
theorem zin {c n : Nat} (h : c < n) (hn : n < 2147483648) : vp_in (nI c) n := vp_in_nI h hn
theorem zbz (x : Int32) : zb (zb x) = zb x := by unfold zb; by_cases h : x = 0 <;> simp [h]
theorem zb_nar (x : Int32) : narrow .boolean (.int (zb x)) = .int (zb x) := by unfold zb; by_cases h : x = 0 <;> simp [h] <;> rfl
theorem zb_fit (x : Int32) : fits .boolean (.int (zb x)) = true := by unfold zb; by_cases h : x = 0 <;> simp [h] <;> rfl
theorem zc_eq (x : Int32) : zc x = (x.toUInt32 % 65536).toInt32 := vp_nar_char x
theorem zc_nar (x : Int32) : narrow .char (.int (zc x)) = .int (zc x) := by rw [zc_eq]; exact pk_nc x
end
section
/-! walking over worlds: a method's setting k, and 'from this world, place, locals and stack the machine comes to its end' -/
/-- the static rows of the class: what FIRST_ROW and FIRST_TOWERS hold -/
def zRow0 : Nat → Int32 := fun j => [1, 3, 0, 2, 3, 1].getD j 0
def zRow1n : Nat → Nat := fun j => [0, 5, 14, 21, 30, 35].getD j 0
def zRow1 : Nat → Int32 := fun j => nI (zRow1n j)
theorem zRow1_lt (j : Nat) : zRow1n j < 36 := by
  by_cases h : j < 6
  · rcases (by omega : j = 0 ∨ j = 1 ∨ j = 2 ∨ j = 3 ∨ j = 4 ∨ j = 5) with rfl | rfl | rfl | rfl | rfl | rfl <;> decide
  · have : zRow1n j = 0 := by unfold zRow1n; simp [List.getD, List.getElem?_eq_none (show [0, 5, 14, 21, 30, 35].length ≤ j by simp; omega)]
    omega
def zStat (A : Nat → Prop) (U : State) (H : Heap) : Prop :=
  (∃ t, va_Z RX2 "FIRST_ROW" "[I" (.ref t) A U H ∧ va_T .int t 6 (fun j => .int (zRow0 j)) A U H) ∧ (∃ t, va_Z RX2 "FIRST_TOWERS" "[I" (.ref t) A U H ∧ va_T .int t 6 (fun j => .int (zRow1 j)) A U H)
theorem zStat.moved {A : Nat → Prop} {u U : State} {H H1 : Heap} (hvm : u.vm.Alike U.vm) (hq : ∀ a : Nat, a < H.size → ¬ A a → H1[a]? = H[a]?) (h : zStat A u H) : zStat A U H1 := by
  obtain ⟨⟨t, h1, h2⟩, ⟨r, h3, h4⟩⟩ := h
  exact ⟨⟨t, (h1.moved hvm).kept hq, (h2.moved hvm).kept hq⟩, ⟨r, (h3.moved hvm).kept hq, (h4.moved hvm).kept hq⟩⟩
def zA (G : zG) (N : Nat) : Nat → Prop := fun q => ∃ i, i < N ∧ q = zad G i
def zTys (G : zG) : List (ClassId × FieldType) := [(G.2.1, .int), (G.2.2.1, .char), (G.2.2.2.1, .object RX1), (G.2.2.2.2.1, .long)]
def zK (G : zG) (N : Nat) (U : State) (H : Heap) : Prop := va_K G.1 vwCl (zTys G) U ∧ zWs U ∧ zStat (zA G N) U H
theorem zK.moved {G : zG} {N : Nat} {u U : State} {H H1 : Heap} (hW : u.WarmedH U.vm) (hq : ∀ a : Nat, a < H.size → ¬ zA G N a → H1[a]? = H[a]?) (h : zK G N u H) : zK G N U H1 :=
  ⟨va_K.moved hW.alike h.1, zWs_move hW h.2.1, h.2.2.moved hW.alike hq⟩
def zGeo (G : zG) (N : Nat) : Prop := N ≤ 48 ∧ ∀ i j, i < N → j < N → zad G i = zad G j → i = j
theorem zGeo.D {G : zG} {N : Nat} {A : Nat → Prop} (h : zGeo G N) (hA : ∀ i, i < N → A (zad G i)) (w : xW) : va_D A (zws G N w) := by
  have key : ∀ (i : Nat) (p : Nat × va_E), (zws G N w)[i]? = some p → i < N ∧ p.1 = zad G i := by
    intro i p hp
    by_cases hi : i < N
    · rw [zws_get w hi] at hp
      cases hp
      exact ⟨hi, rfl⟩
    · rw [List.getElem?_eq_none (by simp [zws]; omega)] at hp
      cases hp
  refine ⟨fun i j p q hi hj e => ?_, fun i q hi => ?_⟩
  · obtain ⟨h1, h2⟩ := key i p hi
    obtain ⟨h3, h4⟩ := key j q hj
    exact h.2 i j h1 h3 (by rw [← h2, ← h4, e])
  · obtain ⟨h1, h2⟩ := key i q hi
    rw [h2]
    exact hA i h1
abbrev zC : Type := Program × Launch × Env × Room × State × MethodId × Array Value × List Frame × Method × Code × (State → Prop) × (Nat → Prop) × Nat × Nat × Nat
/-- the slot is one of the frame's: it was asked of the method's locals -/
def zIn (k : zC) (i : Nat) : Prop := i < k.2.2.2.2.2.2.2.2.2.2.2.2.1
def zZ (k : zC) (G : zG) (N : Nat) (w : xW) (pc : Nat) (lv : List (Nat × Value)) (st : List Value) : Prop := match k with
  | (p, l, e, R, s, m, args, below, meth, c, Q, A, nL, cells, slots) => ∀ (H : Heap) (locs : List Loc) (ls : Array Slot), va_P G.1 vwCl (zws G N w) H → va_S A s.heap H locs → lv_has ls nL lv → W p l e R s m args below meth c H locs cells slots Q (F0 m pc ls st)
/-- the setting: its code, its class, the frames and words that it has left -/
def zOk (k : zC) (G : zG) (N : Nat) (cc : ByteArray) (own : String) (fr lo : Nat) : Prop := match k with
  | (p, _, _, R, s, m, _, _, meth, c, _, A, nL, cells, slots) => p.tables.exec = Jvm.exec ∧ c.code = cc ∧ s.vm.findClass own = some m.cls ∧ c.maxLocals = nL ∧ zK G N s s.heap ∧ zGeo G N ∧ meth.locks = false ∧ R.frames = fr ∧ R.locals = lo ∧ cells ≤ R.cells ∧ slots ≤ R.slots ∧ (∀ i, i < N → A (zad G i)) ∧ nL < 1000
/-- how the setting ends: it answers r and leaves the world u -/
def zEnd (k : zC) (G : zG) (N : Nat) (ret : Option FieldType) (r : Option Int32) (u : xW) : Prop := match k with
  | (_, _, _, _, s, _, args, below, meth, _, Q, A, _, cells, slots) => meth.sig.returnType = ret ∧ A = zA G N ∧ cells = 0 ∧ slots = 0 ∧ Q = MQ below (fun _ st o t => (o = .returned (r.map Value.int) ∧ va_P G.1 vwCl (zws G N u) t.heap) ∧ va_F (zA G N) st t) args s 0 0 (zA G N)
def zPc (G : zG) (N : Nat) (w : xW) (args : List Value) : Array Value → State → Prop := va_Pc args (fun U => va_P G.1 vwCl (zws G N w) U.heap ∧ zK G N U U.heap)
/-- a method's contract: from the world w it answers r (or nothing) and leaves the world u -/
def zM (y : MethodName) (cc : ByteArray) (maxL : Nat) (ret : Option FieldType) (fr lo : Nat) (G : zG) (N : Nat) (args : List Value) (w : xW) (r : Option Int32) (u : xW) : Prop :=
  ∀ l : Launch, Met l y [.code y cc maxL ret] { frames := fr, cells := 0, slots := 0, locals := lo } (zPc G N w args) (fun _ st o t => (o = .returned (r.map Value.int) ∧ va_P G.1 vwCl (zws G N u) t.heap) ∧ va_F (zA G N) st t) 0 0 (zA G N)
theorem zM_of {y : MethodName} {cc : ByteArray} {maxL : Nat} {ret : Option FieldType} {fr lo : Nat} {G : zG} {N : Nat} {args : List Value} {w : xW} {r : Option Int32} {u : xW} {lv : List (Nat × Value)} (hy : plainName y.cls = true) (hg : zGeo G N) (hn : (lg_sl args).length ≤ maxL ∧ maxL < 1000) (hlv : lv_args 0 args = lv)
    (body : ∀ k : zC, zOk k G N cc y.cls fr lo → zEnd k G N ret r u → (∀ i, i < maxL → zIn k i) → zZ k G N w 0 lv []) : zM y cc maxL ret fr lo G N args w r u := by
  intro l
  refine Met.ofW (cc := cc) (maxL := maxL) (ret := ret) hy rfl ?_
  intro p e s m args' below meth c s₁ B hml hv
  obtain ⟨rfl, hP, hK⟩ := hv
  have hx := B.exec
  have hb := B.bytes
  have hr := B.returns
  have hown : s.vm.findClass y.cls = some m.cls := findClass_of_methodNamed B.named
  have hlocks := B.notSynchronized
  have hl := lv_entry args (n := maxL) hn.1
  rw [hlv] at hl
  rw [lg_entry_eq]
  exact body (p, l, e, (headSpec [.code y cc maxL ret] { frames := fr, cells := 0, slots := 0, locals := lo }).room, s, m, args.toArray, below, meth, c, _, zA G N, maxL, 0, 0) ⟨hx, hb, hown, hml, hK, hg, hlocks, rfl, rfl, Nat.zero_le _, Nat.zero_le _, fun i hi => ⟨i, hi, rfl⟩, hn.2⟩ ⟨hr, rfl, rfl, rfl, rfl⟩ (fun _ h => h) s.heap [] _ hP va_S.rf hl
section ZR
variable {k : zC} {G : zG} {N : Nat} {cc : ByteArray} {own : String} {fr lo : Nat} {w u : xW} {pc tgt : Nat} {lv lv' : List (Nat × Value)} {st : List Value} {x y : Int32} {i j c n a b : Nat} {off : Int}
theorem zOk.word (ok : zOk k G N cc own fr lo) {c : Cond} (h : c ∈ zTab) : c.before (k.2.2.2.2.2.2.1) (k.2.2.2.2.1) = true := by
  obtain ⟨p, l, e, R, s, m, args, below, meth, c0, Q, A, nL, cells, slots⟩ := k
  exact ok.2.2.2.2.1.2.1 _ h _
theorem z_locs (ks : List Nat) (h : lv_pick lv ks = lv') (kk : zZ k G N w pc lv' st) : zZ k G N w pc lv st := by
  obtain ⟨p, l, e, R, s, m, args, below, meth, c0, Q, A, nL, cells, slots⟩ := k
  exact fun H locs ls hP hS hl => kk H locs ls hP hS (lv_sub hl ks h)
theorem z_eq {w' : xW} {lv' : List (Nat × Value)} {st' : List Value} (kk : zZ k G N w' pc lv' st') (hw : w = w') (hl : lv = lv') (hs : st = st') : zZ k G N w pc lv st := by subst hw; subst hl; subst hs; exact kk
theorem z_iload_n (ok : zOk k G N cc own fr lo) {q : Fin 4} (d : decode cc pc = .ok (.iload_n q, 1)) (t : Nat) (h : lv[t]? = some (q.val, .int x)) (kk : zZ k G N w (pc + 1) lv (.int x :: st)) : zZ k G N w pc lv st := by
  obtain ⟨p, l, e, R, s, m, args, below, meth, c0, Q, A, nL, cells, slots⟩ := k
  exact fun H locs ls hP hS hl => lv_iload_n ok.1 ok.2.1 d rfl (lv_at hl t h) (kk H locs ls hP hS hl)
theorem z_iload (ok : zOk k G N cc own fr lo) (d : decode cc pc = .ok (.iload i, 2)) (t : Nat) (h : lv[t]? = some (i, .int x)) (kk : zZ k G N w (pc + 2) lv (.int x :: st)) : zZ k G N w pc lv st := by
  obtain ⟨p, l, e, R, s, m, args, below, meth, c0, Q, A, nL, cells, slots⟩ := k
  exact fun H locs ls hP hS hl => lv_iload ok.1 ok.2.1 d (lv_at hl t h) (kk H locs ls hP hS hl)
theorem z_aload_n (ok : zOk k G N cc own fr lo) {q : Fin 4} (d : decode cc pc = .ok (.aload_n q, 1)) (t : Nat) (h : lv[t]? = some (q.val, .ref a)) (kk : zZ k G N w (pc + 1) lv (.ref a :: st)) : zZ k G N w pc lv st := by
  obtain ⟨p, l, e, R, s, m, args, below, meth, c0, Q, A, nL, cells, slots⟩ := k
  exact fun H locs ls hP hS hl => lv_aload_n ok.1 ok.2.1 d rfl (lv_at hl t h) (kk H locs ls hP hS hl)
theorem z_aload (ok : zOk k G N cc own fr lo) (d : decode cc pc = .ok (.aload i, 2)) (t : Nat) (h : lv[t]? = some (i, .ref a)) (kk : zZ k G N w (pc + 2) lv (.ref a :: st)) : zZ k G N w pc lv st := by
  obtain ⟨p, l, e, R, s, m, args, below, meth, c0, Q, A, nL, cells, slots⟩ := k
  exact fun H locs ls hP hS hl => lv_aload ok.1 ok.2.1 d (lv_at hl t h) (kk H locs ls hP hS hl)
theorem z_istore_n (ok : zOk k G N cc own fr lo) {q : Fin 4} (d : decode cc pc = .ok (.istore_n q, 1)) (hi : zIn k q.val) (h : (q.val, Value.int x) :: lv.filter (fun z => !(z.1 == q.val) && !(z.1 + 1 == q.val && z.2.category == 2)) = lv') (kk : zZ k G N w (pc + 1) lv' st) : zZ k G N w pc lv (.int x :: st) := by
  obtain ⟨p, l, e, R, s, m, args, below, meth, c0, Q, A, nL, cells, slots⟩ := k
  exact fun H locs ls hP hS hl => lv_istore_n ok.1 ok.2.1 d rfl hl hi h (fun ls' hl' => kk H locs ls' hP hS hl')
theorem z_istore (ok : zOk k G N cc own fr lo) (d : decode cc pc = .ok (.istore i, 2)) (hi : zIn k i) (h : (i, Value.int x) :: lv.filter (fun z => !(z.1 == i) && !(z.1 + 1 == i && z.2.category == 2)) = lv') (kk : zZ k G N w (pc + 2) lv' st) : zZ k G N w pc lv (.int x :: st) := by
  obtain ⟨p, l, e, R, s, m, args, below, meth, c0, Q, A, nL, cells, slots⟩ := k
  exact fun H locs ls hP hS hl => lv_istore ok.1 ok.2.1 d hl hi h (fun ls' hl' => kk H locs ls' hP hS hl')
theorem z_astore_n (ok : zOk k G N cc own fr lo) {q : Fin 4} (d : decode cc pc = .ok (.astore_n q, 1)) (hi : zIn k q.val) (h : (q.val, Value.ref a) :: lv.filter (fun z => !(z.1 == q.val) && !(z.1 + 1 == q.val && z.2.category == 2)) = lv') (kk : zZ k G N w (pc + 1) lv' st) : zZ k G N w pc lv (.ref a :: st) := by
  obtain ⟨p, l, e, R, s, m, args, below, meth, c0, Q, A, nL, cells, slots⟩ := k
  exact fun H locs ls hP hS hl => lv_astore_n ok.1 ok.2.1 d rfl hl hi h (fun ls' hl' => kk H locs ls' hP hS hl')
theorem z_astore (ok : zOk k G N cc own fr lo) (d : decode cc pc = .ok (.astore i, 2)) (hi : zIn k i) (h : (i, Value.ref a) :: lv.filter (fun z => !(z.1 == i) && !(z.1 + 1 == i && z.2.category == 2)) = lv') (kk : zZ k G N w (pc + 2) lv' st) : zZ k G N w pc lv (.ref a :: st) := by
  obtain ⟨p, l, e, R, s, m, args, below, meth, c0, Q, A, nL, cells, slots⟩ := k
  exact fun H locs ls hP hS hl => lv_astore ok.1 ok.2.1 d hl hi h (fun ls' hl' => kk H locs ls' hP hS hl')
theorem z_iinc (ok : zOk k G N cc own fr lo) {z : Int} (d : decode cc pc = .ok (.iinc i z, 3)) (hi : zIn k i) (t : Nat) (h1 : lv[t]? = some (i, .int x)) (hv : x + Int32.ofInt z = y) (h : (i, Value.int y) :: lv.filter (fun z => !(z.1 == i) && !(z.1 + 1 == i && z.2.category == 2)) = lv') (kk : zZ k G N w (pc + 3) lv' st) : zZ k G N w pc lv st := by
  obtain ⟨p, l, e, R, s, m, args, below, meth, c0, Q, A, nL, cells, slots⟩ := k
  exact fun H locs ls hP hS hl => lv_iinc ok.1 ok.2.1 d hl h1 hv hi h (fun ls' hl' => kk H locs ls' hP hS hl')
theorem z_iconst (ok : zOk k G N cc own fr lo) {z : Int} (d : decode cc pc = .ok (.iconst z, 1)) (hv : Int32.ofInt z = x) (kk : zZ k G N w (pc + 1) lv (.int x :: st)) : zZ k G N w pc lv st := by
  obtain ⟨p, l, e, R, s, m, args, below, meth, c0, Q, A, nL, cells, slots⟩ := k
  exact fun H locs ls hP hS hl => lv_iconst ok.1 ok.2.1 d hv (kk H locs ls hP hS hl)
theorem z_bipush (ok : zOk k G N cc own fr lo) {z : Int} (d : decode cc pc = .ok (.bipush z, 2)) (hv : (Int8.ofInt z).toInt32 = x) (kk : zZ k G N w (pc + 2) lv (.int x :: st)) : zZ k G N w pc lv st := by
  obtain ⟨p, l, e, R, s, m, args, below, meth, c0, Q, A, nL, cells, slots⟩ := k
  exact fun H locs ls hP hS hl => lv_bipush ok.1 ok.2.1 d hv (kk H locs ls hP hS hl)
theorem z_sipush (ok : zOk k G N cc own fr lo) {z : Int} (d : decode cc pc = .ok (.sipush z, 3)) (hv : (Int16.ofInt z).toInt32 = x) (kk : zZ k G N w (pc + 3) lv (.int x :: st)) : zZ k G N w pc lv st := by
  obtain ⟨p, l, e, R, s, m, args, below, meth, c0, Q, A, nL, cells, slots⟩ := k
  exact fun H locs ls hP hS hl => lv_sipush ok.1 ok.2.1 d hv (kk H locs ls hP hS hl)
theorem z_iadd (ok : zOk k G N cc own fr lo) (d : decode cc pc = .ok (.iadd, 1)) (kk : zZ k G N w (pc + 1) lv (.int (x + y) :: st)) : zZ k G N w pc lv (.int y :: .int x :: st) := by
  obtain ⟨p, l, e, R, s, m, args, below, meth, c0, Q, A, nL, cells, slots⟩ := k
  exact fun H locs ls hP hS hl => lv_iadd ok.1 ok.2.1 d (kk H locs ls hP hS hl)
theorem z_iadd_n (ok : zOk k G N cc own fr lo) (d : decode cc pc = .ok (.iadd, 1)) (a b : Nat) (hx : x = nI a) (hy : y = nI b) (kk : zZ k G N w (pc + 1) lv (.int (nI (a + b)) :: st)) : zZ k G N w pc lv (.int y :: .int x :: st) := by
  subst hx; subst hy
  exact z_iadd ok d (by rw [nI_add]; exact kk)
theorem z_isub (ok : zOk k G N cc own fr lo) (d : decode cc pc = .ok (.isub, 1)) (kk : zZ k G N w (pc + 1) lv (.int (x - y) :: st)) : zZ k G N w pc lv (.int y :: .int x :: st) := by
  obtain ⟨p, l, e, R, s, m, args, below, meth, c0, Q, A, nL, cells, slots⟩ := k
  exact fun H locs ls hP hS hl => lv_isub ok.1 ok.2.1 d (kk H locs ls hP hS hl)
theorem z_isub_n (ok : zOk k G N cc own fr lo) (d : decode cc pc = .ok (.isub, 1)) (a b : Nat) (hx : x = nI a) (hy : y = nI b) (h : b ≤ a) (kk : zZ k G N w (pc + 1) lv (.int (nI (a - b)) :: st)) : zZ k G N w pc lv (.int y :: .int x :: st) := by
  subst hx; subst hy
  exact z_isub ok d (by rw [pk_sub h]; exact kk)
theorem z_imul (ok : zOk k G N cc own fr lo) (d : decode cc pc = .ok (.imul, 1)) (kk : zZ k G N w (pc + 1) lv (.int (x * y) :: st)) : zZ k G N w pc lv (.int y :: .int x :: st) := by
  obtain ⟨p, l, e, R, s, m, args, below, meth, c0, Q, A, nL, cells, slots⟩ := k
  exact fun H locs ls hP hS hl => lv_imul ok.1 ok.2.1 d (kk H locs ls hP hS hl)
theorem z_imul_n (ok : zOk k G N cc own fr lo) (d : decode cc pc = .ok (.imul, 1)) (a b : Nat) (hx : x = nI a) (hy : y = nI b) (kk : zZ k G N w (pc + 1) lv (.int (nI (a * b)) :: st)) : zZ k G N w pc lv (.int y :: .int x :: st) := by
  subst hx; subst hy
  exact z_imul ok d (by rw [pk_mul]; exact kk)
theorem z_iand (ok : zOk k G N cc own fr lo) (d : decode cc pc = .ok (.iand, 1)) (kk : zZ k G N w (pc + 1) lv (.int (x &&& y) :: st)) : zZ k G N w pc lv (.int y :: .int x :: st) := by
  obtain ⟨p, l, e, R, s, m, args, below, meth, c0, Q, A, nL, cells, slots⟩ := k
  exact fun H locs ls hP hS hl => lv_iand ok.1 ok.2.1 d (kk H locs ls hP hS hl)
theorem z_ineg (ok : zOk k G N cc own fr lo) (d : decode cc pc = .ok (.ineg, 1)) (kk : zZ k G N w (pc + 1) lv (.int (-x) :: st)) : zZ k G N w pc lv (.int x :: st) := by
  obtain ⟨p, l, e, R, s, m, args, below, meth, c0, Q, A, nL, cells, slots⟩ := k
  exact fun H locs ls hP hS hl => lv_ineg ok.1 ok.2.1 d (kk H locs ls hP hS hl)
theorem z_idiv (ok : zOk k G N cc own fr lo) (d : decode cc pc = .ok (.idiv, 1)) (h : ¬ y = 0) (kk : zZ k G N w (pc + 1) lv (.int (x / y) :: st)) : zZ k G N w pc lv (.int y :: .int x :: st) := by
  obtain ⟨p, l, e, R, s, m, args, below, meth, c0, Q, A, nL, cells, slots⟩ := k
  exact fun H locs ls hP hS hl => lv_idiv ok.1 ok.2.1 d h (kk H locs ls hP hS hl)
theorem z_idiv_n (ok : zOk k G N cc own fr lo) (d : decode cc pc = .ok (.idiv, 1)) (a b : Nat) (hx : x = nI a) (hy : y = nI b) (ha : a < 2147483648) (h0 : 0 < b) (hb : b < 2147483648) (kk : zZ k G N w (pc + 1) lv (.int (nI (a / b)) :: st)) : zZ k G N w pc lv (.int y :: .int x :: st) := by
  subst hx; subst hy
  exact z_idiv ok d (nI_ne0 h0 hb) (by rw [pk_div ha h0 hb]; exact kk)
theorem z_irem_n (ok : zOk k G N cc own fr lo) (d : decode cc pc = .ok (.irem, 1)) (a b : Nat) (hx : x = nI a) (hy : y = nI b) (ha : a < 2147483648) (h0 : 0 < b) (hb : b < 2147483648) (kk : zZ k G N w (pc + 1) lv (.int (nI (a % b)) :: st)) : zZ k G N w pc lv (.int y :: .int x :: st) := by
  subst hx; subst hy
  rw [← pk_rem ha h0 hb] at kk
  obtain ⟨p, l, e, R, s, m, args, below, meth, c0, Q, A, nL, cells, slots⟩ := k
  exact fun H locs ls hP hS hl => lv_irem ok.1 ok.2.1 d (nI_ne0 h0 hb) (kk H locs ls hP hS hl)
theorem z_irem (ok : zOk k G N cc own fr lo) (d : decode cc pc = .ok (.irem, 1)) (h : ¬ y = 0) (kk : zZ k G N w (pc + 1) lv (.int (x - x / y * y) :: st)) : zZ k G N w pc lv (.int y :: .int x :: st) := by
  obtain ⟨p, l, e, R, s, m, args, below, meth, c0, Q, A, nL, cells, slots⟩ := k
  exact fun H locs ls hP hS hl => lv_irem ok.1 ok.2.1 d h (kk H locs ls hP hS hl)
theorem z_i2c (ok : zOk k G N cc own fr lo) (d : decode cc pc = .ok (.i2c, 1)) (kk : zZ k G N w (pc + 1) lv (.int (zc x) :: st)) : zZ k G N w pc lv (.int x :: st) := by
  obtain ⟨p, l, e, R, s, m, args, below, meth, c0, Q, A, nL, cells, slots⟩ := k
  exact fun H locs ls hP hS hl => lv_i2c ok.1 ok.2.1 d (zc_eq x).symm (kk H locs ls hP hS hl)
theorem z_dup (ok : zOk k G N cc own fr lo) {va : Value} (d : decode cc pc = .ok (.dup, 1)) (h : va.category = 1) (kk : zZ k G N w (pc + 1) lv (va :: va :: st)) : zZ k G N w pc lv (va :: st) := by
  obtain ⟨p, l, e, R, s, m, args, below, meth, c0, Q, A, nL, cells, slots⟩ := k
  exact fun H locs ls hP hS hl => lv_dup ok.1 ok.2.1 d h (kk H locs ls hP hS hl)
theorem z_dup2 (ok : zOk k G N cc own fr lo) {va vb : Value} (d : decode cc pc = .ok (.dup2, 1)) (h : va.category = 1) (h2 : vb.category = 1) (kk : zZ k G N w (pc + 1) lv (va :: vb :: va :: vb :: st)) : zZ k G N w pc lv (va :: vb :: st) := by
  obtain ⟨p, l, e, R, s, m, args, below, meth, c0, Q, A, nL, cells, slots⟩ := k
  exact fun H locs ls hP hS hl => lv_dup2_11 ok.1 ok.2.1 d h h2 (kk H locs ls hP hS hl)
theorem z_pop (ok : zOk k G N cc own fr lo) {va : Value} (d : decode cc pc = .ok (.pop, 1)) (h : va.category = 1) (kk : zZ k G N w (pc + 1) lv st) : zZ k G N w pc lv (va :: st) := by
  obtain ⟨p, l, e, R, s, m, args, below, meth, c0, Q, A, nL, cells, slots⟩ := k
  exact fun H locs ls hP hS hl => lv_pop ok.1 ok.2.1 d h (kk H locs ls hP hS hl)
theorem z_goto (ok : zOk k G N cc own fr lo) (d : decode cc pc = .ok (.goto off, 3)) (tgt : Nat) (ht : (pc : Int) + off = (tgt : Int)) (kk : zZ k G N w tgt lv st) : zZ k G N w pc lv st := by
  obtain ⟨p, l, e, R, s, m, args, below, meth, c0, Q, A, nL, cells, slots⟩ := k
  exact fun H locs ls hP hS hl => lv_goto ok.1 ok.2.1 d ht (kk H locs ls hP hS hl)
theorem z_if_eq (ok : zOk k G N cc own fr lo) (d : decode cc pc = .ok (.ifCond .eq off, 3)) (tgt : Nat) (ht : (pc : Int) + off = (tgt : Int)) (kt : x = 0 → zZ k G N w tgt lv st) (kf : ¬ x = 0 → zZ k G N w (pc + 3) lv st) : zZ k G N w pc lv (.int x :: st) := by
  obtain ⟨p, l, e, R, s, m, args, below, meth, c0, Q, A, nL, cells, slots⟩ := k
  exact fun H locs ls hP hS hl => lv_if_eq ok.1 ok.2.1 d ht (fun q => kt q H locs ls hP hS hl) (fun q => kf q H locs ls hP hS hl)
theorem z_if_ne (ok : zOk k G N cc own fr lo) (d : decode cc pc = .ok (.ifCond .ne off, 3)) (tgt : Nat) (ht : (pc : Int) + off = (tgt : Int)) (kt : ¬ x = 0 → zZ k G N w tgt lv st) (kf : x = 0 → zZ k G N w (pc + 3) lv st) : zZ k G N w pc lv (.int x :: st) := by
  obtain ⟨p, l, e, R, s, m, args, below, meth, c0, Q, A, nL, cells, slots⟩ := k
  exact fun H locs ls hP hS hl => lv_if_ne ok.1 ok.2.1 d ht (fun q => kt q H locs ls hP hS hl) (fun q => kf q H locs ls hP hS hl)
theorem z_if_lt (ok : zOk k G N cc own fr lo) (d : decode cc pc = .ok (.ifCond .lt off, 3)) (tgt : Nat) (ht : (pc : Int) + off = (tgt : Int)) (kt : x < 0 → zZ k G N w tgt lv st) (kf : ¬ x < 0 → zZ k G N w (pc + 3) lv st) : zZ k G N w pc lv (.int x :: st) := by
  obtain ⟨p, l, e, R, s, m, args, below, meth, c0, Q, A, nL, cells, slots⟩ := k
  exact fun H locs ls hP hS hl => lv_if_lt ok.1 ok.2.1 d ht (fun q => kt q H locs ls hP hS hl) (fun q => kf q H locs ls hP hS hl)
theorem z_if_ge (ok : zOk k G N cc own fr lo) (d : decode cc pc = .ok (.ifCond .ge off, 3)) (tgt : Nat) (ht : (pc : Int) + off = (tgt : Int)) (kt : 0 ≤ x → zZ k G N w tgt lv st) (kf : ¬ 0 ≤ x → zZ k G N w (pc + 3) lv st) : zZ k G N w pc lv (.int x :: st) := by
  obtain ⟨p, l, e, R, s, m, args, below, meth, c0, Q, A, nL, cells, slots⟩ := k
  exact fun H locs ls hP hS hl => lv_if_ge ok.1 ok.2.1 d ht (fun q => kt q H locs ls hP hS hl) (fun q => kf q H locs ls hP hS hl)
theorem z_if_gt (ok : zOk k G N cc own fr lo) (d : decode cc pc = .ok (.ifCond .gt off, 3)) (tgt : Nat) (ht : (pc : Int) + off = (tgt : Int)) (kt : 0 < x → zZ k G N w tgt lv st) (kf : ¬ 0 < x → zZ k G N w (pc + 3) lv st) : zZ k G N w pc lv (.int x :: st) := by
  obtain ⟨p, l, e, R, s, m, args, below, meth, c0, Q, A, nL, cells, slots⟩ := k
  exact fun H locs ls hP hS hl => lv_if_gt ok.1 ok.2.1 d ht (fun q => kt q H locs ls hP hS hl) (fun q => kf q H locs ls hP hS hl)
theorem z_if_le (ok : zOk k G N cc own fr lo) (d : decode cc pc = .ok (.ifCond .le off, 3)) (tgt : Nat) (ht : (pc : Int) + off = (tgt : Int)) (kt : x ≤ 0 → zZ k G N w tgt lv st) (kf : ¬ x ≤ 0 → zZ k G N w (pc + 3) lv st) : zZ k G N w pc lv (.int x :: st) := by
  obtain ⟨p, l, e, R, s, m, args, below, meth, c0, Q, A, nL, cells, slots⟩ := k
  exact fun H locs ls hP hS hl => lv_if_le ok.1 ok.2.1 d ht (fun q => kt q H locs ls hP hS hl) (fun q => kf q H locs ls hP hS hl)
theorem z_icmp_eq (ok : zOk k G N cc own fr lo) (d : decode cc pc = .ok (.if_icmp .eq off, 3)) (tgt : Nat) (ht : (pc : Int) + off = (tgt : Int)) (kt : x = y → zZ k G N w tgt lv st) (kf : ¬ x = y → zZ k G N w (pc + 3) lv st) : zZ k G N w pc lv (.int y :: .int x :: st) := by
  obtain ⟨p, l, e, R, s, m, args, below, meth, c0, Q, A, nL, cells, slots⟩ := k
  exact fun H locs ls hP hS hl => lv_icmp_eq ok.1 ok.2.1 d ht (fun q => kt q H locs ls hP hS hl) (fun q => kf q H locs ls hP hS hl)
theorem z_icmp_ne (ok : zOk k G N cc own fr lo) (d : decode cc pc = .ok (.if_icmp .ne off, 3)) (tgt : Nat) (ht : (pc : Int) + off = (tgt : Int)) (kt : ¬ x = y → zZ k G N w tgt lv st) (kf : x = y → zZ k G N w (pc + 3) lv st) : zZ k G N w pc lv (.int y :: .int x :: st) := by
  obtain ⟨p, l, e, R, s, m, args, below, meth, c0, Q, A, nL, cells, slots⟩ := k
  exact fun H locs ls hP hS hl => lv_icmp_ne ok.1 ok.2.1 d ht (fun q => kt q H locs ls hP hS hl) (fun q => kf q H locs ls hP hS hl)
theorem z_icmp_lt (ok : zOk k G N cc own fr lo) (d : decode cc pc = .ok (.if_icmp .lt off, 3)) (tgt : Nat) (ht : (pc : Int) + off = (tgt : Int)) (kt : x < y → zZ k G N w tgt lv st) (kf : ¬ x < y → zZ k G N w (pc + 3) lv st) : zZ k G N w pc lv (.int y :: .int x :: st) := by
  obtain ⟨p, l, e, R, s, m, args, below, meth, c0, Q, A, nL, cells, slots⟩ := k
  exact fun H locs ls hP hS hl => lv_icmp_lt ok.1 ok.2.1 d ht (fun q => kt q H locs ls hP hS hl) (fun q => kf q H locs ls hP hS hl)
theorem z_icmp_ge (ok : zOk k G N cc own fr lo) (d : decode cc pc = .ok (.if_icmp .ge off, 3)) (tgt : Nat) (ht : (pc : Int) + off = (tgt : Int)) (kt : y ≤ x → zZ k G N w tgt lv st) (kf : ¬ y ≤ x → zZ k G N w (pc + 3) lv st) : zZ k G N w pc lv (.int y :: .int x :: st) := by
  obtain ⟨p, l, e, R, s, m, args, below, meth, c0, Q, A, nL, cells, slots⟩ := k
  exact fun H locs ls hP hS hl => lv_icmp_ge ok.1 ok.2.1 d ht (fun q => kt q H locs ls hP hS hl) (fun q => kf q H locs ls hP hS hl)
theorem z_icmp_gt (ok : zOk k G N cc own fr lo) (d : decode cc pc = .ok (.if_icmp .gt off, 3)) (tgt : Nat) (ht : (pc : Int) + off = (tgt : Int)) (kt : y < x → zZ k G N w tgt lv st) (kf : ¬ y < x → zZ k G N w (pc + 3) lv st) : zZ k G N w pc lv (.int y :: .int x :: st) := by
  obtain ⟨p, l, e, R, s, m, args, below, meth, c0, Q, A, nL, cells, slots⟩ := k
  exact fun H locs ls hP hS hl => lv_icmp_gt ok.1 ok.2.1 d ht (fun q => kt q H locs ls hP hS hl) (fun q => kf q H locs ls hP hS hl)
theorem z_icmp_le (ok : zOk k G N cc own fr lo) (d : decode cc pc = .ok (.if_icmp .le off, 3)) (tgt : Nat) (ht : (pc : Int) + off = (tgt : Int)) (kt : x ≤ y → zZ k G N w tgt lv st) (kf : ¬ x ≤ y → zZ k G N w (pc + 3) lv st) : zZ k G N w pc lv (.int y :: .int x :: st) := by
  obtain ⟨p, l, e, R, s, m, args, below, meth, c0, Q, A, nL, cells, slots⟩ := k
  exact fun H locs ls hP hS hl => lv_icmp_le ok.1 ok.2.1 d ht (fun q => kt q H locs ls hP hS hl) (fun q => kf q H locs ls hP hS hl)
/-! the same of counts -/
theorem z_icmp_eq_n (ok : zOk k G N cc own fr lo) (d : decode cc pc = .ok (.if_icmp .eq off, 3)) (tgt : Nat) (ht : (pc : Int) + off = (tgt : Int)) (a b : Nat) (hx : x = nI a) (hy : y = nI b) (ha : a < 2147483648 ∧ b < 2147483648) (kt : a = b → zZ k G N w tgt lv st) (kf : ¬ a = b → zZ k G N w (pc + 3) lv st) : zZ k G N w pc lv (.int y :: .int x :: st) := by
  subst hx; subst hy
  exact z_icmp_eq ok d tgt ht (fun q => kt ((nI_eq ha.1 ha.2).mp q)) (fun q => kf (fun h => q ((nI_eq ha.1 ha.2).mpr h)))
theorem z_icmp_ne_n (ok : zOk k G N cc own fr lo) (d : decode cc pc = .ok (.if_icmp .ne off, 3)) (tgt : Nat) (ht : (pc : Int) + off = (tgt : Int)) (a b : Nat) (hx : x = nI a) (hy : y = nI b) (ha : a < 2147483648 ∧ b < 2147483648) (kt : ¬ a = b → zZ k G N w tgt lv st) (kf : a = b → zZ k G N w (pc + 3) lv st) : zZ k G N w pc lv (.int y :: .int x :: st) := by
  subst hx; subst hy
  exact z_icmp_ne ok d tgt ht (fun q => kt (fun h => q ((nI_eq ha.1 ha.2).mpr h))) (fun q => kf ((nI_eq ha.1 ha.2).mp q))
theorem z_icmp_lt_n (ok : zOk k G N cc own fr lo) (d : decode cc pc = .ok (.if_icmp .lt off, 3)) (tgt : Nat) (ht : (pc : Int) + off = (tgt : Int)) (a b : Nat) (hx : x = nI a) (hy : y = nI b) (ha : a < 2147483648 ∧ b < 2147483648) (kt : a < b → zZ k G N w tgt lv st) (kf : ¬ a < b → zZ k G N w (pc + 3) lv st) : zZ k G N w pc lv (.int y :: .int x :: st) := by
  subst hx; subst hy
  exact z_icmp_lt ok d tgt ht (fun q => kt ((nI_ltI ha.1 ha.2).mp q)) (fun q => kf (fun h => q ((nI_ltI ha.1 ha.2).mpr h)))
theorem z_icmp_ge_n (ok : zOk k G N cc own fr lo) (d : decode cc pc = .ok (.if_icmp .ge off, 3)) (tgt : Nat) (ht : (pc : Int) + off = (tgt : Int)) (a b : Nat) (hx : x = nI a) (hy : y = nI b) (ha : a < 2147483648 ∧ b < 2147483648) (kt : b ≤ a → zZ k G N w tgt lv st) (kf : ¬ b ≤ a → zZ k G N w (pc + 3) lv st) : zZ k G N w pc lv (.int y :: .int x :: st) := by
  subst hx; subst hy
  exact z_icmp_ge ok d tgt ht (fun q => kt ((nI_leI ha.2 ha.1).mp q)) (fun q => kf (fun h => q ((nI_leI ha.2 ha.1).mpr h)))
theorem z_icmp_gt_n (ok : zOk k G N cc own fr lo) (d : decode cc pc = .ok (.if_icmp .gt off, 3)) (tgt : Nat) (ht : (pc : Int) + off = (tgt : Int)) (a b : Nat) (hx : x = nI a) (hy : y = nI b) (ha : a < 2147483648 ∧ b < 2147483648) (kt : b < a → zZ k G N w tgt lv st) (kf : ¬ b < a → zZ k G N w (pc + 3) lv st) : zZ k G N w pc lv (.int y :: .int x :: st) := by
  subst hx; subst hy
  exact z_icmp_gt ok d tgt ht (fun q => kt ((nI_ltI ha.2 ha.1).mp q)) (fun q => kf (fun h => q ((nI_ltI ha.2 ha.1).mpr h)))
theorem z_icmp_le_n (ok : zOk k G N cc own fr lo) (d : decode cc pc = .ok (.if_icmp .le off, 3)) (tgt : Nat) (ht : (pc : Int) + off = (tgt : Int)) (a b : Nat) (hx : x = nI a) (hy : y = nI b) (ha : a < 2147483648 ∧ b < 2147483648) (kt : a ≤ b → zZ k G N w tgt lv st) (kf : ¬ a ≤ b → zZ k G N w (pc + 3) lv st) : zZ k G N w pc lv (.int y :: .int x :: st) := by
  subst hx; subst hy
  exact z_icmp_le ok d tgt ht (fun q => kt ((nI_leI ha.1 ha.2).mp q)) (fun q => kf (fun h => q ((nI_leI ha.1 ha.2).mpr h)))
theorem z_tableIn (ok : zOk k G N cc own fr lo) {df lo' hi : Int} {offs : Array Int} {len : Nat} (d : decode cc pc = .ok (.tableswitch df lo' hi offs, len)) (tgt : Nat) (off : Int) (h1 : ¬ x.toInt < lo' ∧ ¬ hi < x.toInt ∧ offs[(x.toInt - lo').toNat]? = some off ∧ (pc : Int) + off = (tgt : Int)) (kk : zZ k G N w tgt lv st) : zZ k G N w pc lv (.int x :: st) := by
  obtain ⟨p, l, e, R, s, m, args, below, meth, c0, Q, A, nL, cells, slots⟩ := k
  exact fun H locs ls hP hS hl => lv_tableIn ok.1 ok.2.1 d h1.1 h1.2.1 h1.2.2.1 h1.2.2.2 (kk H locs ls hP hS hl)
theorem z_tableOut (ok : zOk k G N cc own fr lo) {df lo' hi : Int} {offs : Array Int} {len : Nat} (d : decode cc pc = .ok (.tableswitch df lo' hi offs, len)) (tgt : Nat) (h1 : x.toInt < lo' ∨ hi < x.toInt) (ht : (pc : Int) + df = (tgt : Int)) (kk : zZ k G N w tgt lv st) : zZ k G N w pc lv (.int x :: st) := by
  obtain ⟨p, l, e, R, s, m, args, below, meth, c0, Q, A, nL, cells, slots⟩ := k
  exact fun H locs ls hP hS hl => lv_tableOut ok.1 ok.2.1 d h1 ht (kk H locs ls hP hS hl)
theorem z_lookup (ok : zOk k G N cc own fr lo) {df : Int} {ps : Array (Int × Int)} {len : Nat} (d : decode cc pc = .ok (.lookupswitch df ps, len)) (tgt : Nat) (off : Int) (hp : (ps.toList.zip (ps.toList.drop 1)).all (fun (a, next) => a.1 < next.1) = true) (ho : Op.lookupswitch.offset ps.toList df x.toInt = off) (ht : (pc : Int) + off = (tgt : Int)) (kk : zZ k G N w tgt lv st) : zZ k G N w pc lv (.int x :: st) := by
  obtain ⟨p, l, e, R, s, m, args, below, meth, c0, Q, A, nL, cells, slots⟩ := k
  exact fun H locs ls hP hS hl => lv_lookup ok.1 ok.2.1 d hp ho ht (kk H locs ls hP hS hl)
/-! cells -/
theorem z_get (ok : zOk k G N cc own fr lo) {ref C : String} {T : u_T} {n ci index : Nat} {fs : List Value} {v : Value} (d : decode cc pc = .ok (.getfield index, 3)) (i : Nat) (hi : i < N) (he : zE G w i = .inr (ci, fs)) (hc : vwCl[ci]? = some (C, T, n)) (hin : ∀ w ∈ u_ws C T n, w ∈ zTab) (j : Nat) (hj : j < n) (hw : Cond.fieldLink own index ref (T j).2.1 (T j).2.2.1 ∈ zTab) (hs : ref = (T j).1) (hv : fs[j]? = some v) (kk : zZ k G N w (pc + 3) lv (v :: st)) : zZ k G N w pc lv (.ref (zad G i) :: st) := by
  subst hs
  have hl := ok.word hw
  obtain ⟨p, l, e, R, s, m, args, below, meth, c0, Q, A, nL, cells, slots⟩ := k
  exact fun H locs ls hP hS hl' => va_get ok.1 ok.2.1 (Ts := zTab) (fun _ h => ok.word h) hin ok.2.2.1 ok.2.2.2.2.1.1 hP i (by rw [zws_get w hi, he]) hc j hj hl (fun _ h => h) hv d (kk H locs ls hP hS hl')
theorem z_getN (ok : zOk k G N cc own fr lo) {ref C host : String} {T : u_T} {n ci index : Nat} {fs : List Value} {v : Value} (d : decode cc pc = .ok (.getfield index, 3)) (i : Nat) (hi : i < N) (he : zE G w i = .inr (ci, fs)) (hc : vwCl[ci]? = some (C, T, n)) (hin : ∀ w ∈ u_ws C T n, w ∈ zTab) (j : Nat) (hj : j < n) (hw : Cond.fieldLinkNest own index ref (T j).2.1 (T j).2.2.1 host ∈ zTab) (hs : ref = (T j).1) (hv : fs[j]? = some v) (kk : zZ k G N w (pc + 3) lv (v :: st)) : zZ k G N w pc lv (.ref (zad G i) :: st) := by
  subst hs
  have hl := ok.word hw
  obtain ⟨p, l, e, R, s, m, args, below, meth, c0, Q, A, nL, cells, slots⟩ := k
  exact fun H locs ls hP hS hl' => va_getN ok.1 ok.2.1 (Ts := zTab) (fun _ h => ok.word h) hin ok.2.2.1 ok.2.2.2.2.1.1 hP i (by rw [zws_get w hi, he]) hc j hj hl (fun _ h => h) hv d (kk H locs ls hP hS hl')
/-- a field is written: the new world u has the cell as it is then, and all others -/
theorem z_put (ok : zOk k G N cc own fr lo) {ref C : String} {T : u_T} {n ci index : Nat} {fs : List Value} {v : Value} {ty : FieldType} (d : decode cc pc = .ok (.putfield index, 3)) (u : xW) (i : Nat) (hi : i < N) (he : zE G w i = .inr (ci, fs)) (hc : vwCl[ci]? = some (C, T, n)) (hin : ∀ w ∈ u_ws C T n, w ∈ zTab) (ty0 : Nat → FieldType) (hty : ∀ k, k < n → parseFieldDescriptor (T k).2.2.1 = some (ty0 k)) (hnm : ∀ a, a < n → ∀ b, b < n → a ≠ b → (T a).2.1 ≠ (T b).2.1) (j : Nat) (hj : j < n) (hw : Cond.fieldLink own index ref (T j).2.1 (T j).2.2.1 ∈ zTab) (hs : ref = (T j).1 ∧ (T j).2.2.2 = false) (hd : parseFieldDescriptor (T j).2.2.1 = some ty) (hn : narrow ty v = v) (hf : fits ty v = true) (hlen : j < fs.length)
    (hu : zE G u i = .inr (ci, fs.set j v)) (ho : ∀ q, q < N → q ≠ i → zE G u q = zE G w q) (kk : zZ k G N u (pc + 3) lv st) : zZ k G N w pc lv (v :: .ref (zad G i) :: st) := by
  obtain ⟨hs, hfin⟩ := hs
  subst hs
  have hl := ok.word hw
  obtain ⟨p, l, e, R, s, m, args, below, meth, c0, Q, A, nL, cells, slots⟩ := k
  intro H locs ls hP hS hl'
  refine va_put ok.1 ok.2.1 (Ts := zTab) (fun _ h => ok.word h) hin ty0 hty hnm ok.2.2.1 ok.2.2.2.2.1.1 hP (ok.2.2.2.2.2.1.D ok.2.2.2.2.2.2.2.2.2.2.2.1 w) hS i (by rw [zws_get w hi, he]) hc j hj hl (fun _ h => h) hfin hd hn hf hlen d (fun H1 locs1 hP1 hD1 hS1 => ?_)
  rw [zws_set hi hu ho] at hP1
  exact kk H1 locs1 ls hP1 hS1 hl'
theorem z_iald (ok : zOk k G N cc own fr lo) {v o : Nat} (d : decode cc pc = .ok (.iaload, 1)) (i : Nat) (hi : i < N) (he : zE G w i = zArr G.2.1 n v o w) (c : Nat) (hx : x = nI c) (hc : c < n) (hn : n < 2147483648) (kk : zZ k G N w (pc + 1) lv (.int (xg w v (o + c)) :: st)) : zZ k G N w pc lv (.int x :: .ref (zad G i) :: st) := by
  subst hx
  obtain ⟨p, l, e, R, s, m, args, below, meth, c0, Q, A, nL, cells, slots⟩ := k
  refine fun H locs ls hP hS hl' => va_iald (cA := G.2.1) (n := n) (f := fun j => if j < n then xg w v (o + j) else 0) ok.1 ok.2.1 ok.2.2.2.2.1.1 hP i 0 (by rw [zws_get w hi, he]; rfl) rfl (zin hc hn) d ?_
  rw [zcl (by omega), if_pos hc]
  exact kk H locs ls hP hS hl'
theorem z_cald (ok : zOk k G N cc own fr lo) {v : Nat} (d : decode cc pc = .ok (.caload, 1)) (i : Nat) (hi : i < N) (he : zE G w i = zArc G.2.2.1 n v w) (c : Nat) (hx : x = nI c) (hc : c < n) (hn : n < 2147483648) (kk : zZ k G N w (pc + 1) lv (.int (zc (xg w v c)) :: st)) : zZ k G N w pc lv (.int x :: .ref (zad G i) :: st) := by
  subst hx
  obtain ⟨p, l, e, R, s, m, args, below, meth, c0, Q, A, nL, cells, slots⟩ := k
  refine fun H locs ls hP hS hl' => va_cald (cA := G.2.2.1) (n := n) (f := fun j => if j < n then zc (xg w v j) else 0) ok.1 ok.2.1 ok.2.2.2.2.1.1 hP i 1 (by rw [zws_get w hi, he]; rfl) rfl (zin hc hn) d ?_
  rw [zcl (by omega), if_pos hc]
  exact kk H locs ls hP hS hl'
theorem z_iast (ok : zOk k G N cc own fr lo) {v o : Nat} (d : decode cc pc = .ok (.iastore, 1)) (i : Nat) (hi : i < N) (he : ∀ u, zE G u i = zArr G.2.1 n v o u) (c : Nat) (hx : x = nI c) (hc : c < n) (hn : n < 2147483648) (hw : zown v (o + c) = i) (kk : zZ k G N (xs w v (o + c) y) (pc + 1) lv st) : zZ k G N w pc lv (.int y :: .int x :: .ref (zad G i) :: st) := by
  subst hx
  obtain ⟨p, l, e, R, s, m, args, below, meth, c0, Q, A, nL, cells, slots⟩ := k
  intro H locs ls hP hS hl'
  refine va_iast (cA := G.2.1) (n := n) (f := fun j => if j < n then xg w v (o + j) else 0) ok.1 ok.2.1 ok.2.2.2.2.1.1 hP (ok.2.2.2.2.2.1.D ok.2.2.2.2.2.2.2.2.2.2.2.1 w) hS i 0 (by rw [zws_get w hi, he]; rfl) rfl (zin hc hn) d (fun H1 locs1 hP1 hD1 hS1 => ?_)
  rw [zcl (by omega), zws_set (u := xs w v (o + c) y) hi ((he _).trans (zArr_set hc)) (fun q hq hne => zE_xs (by have := ok.2.2.2.2.2.1.1; omega) (by rw [hw]; exact hne))] at hP1
  exact kk H1 locs1 ls hP1 hS1 hl'
theorem z_cast (ok : zOk k G N cc own fr lo) {v : Nat} (d : decode cc pc = .ok (.castore, 1)) (i : Nat) (hi : i < N) (he : ∀ u, zE G u i = zArc G.2.2.1 n v u) (c : Nat) (hx : x = nI c) (hc : c < n) (hn : n < 2147483648) (hw : zown v c = i) (kk : zZ k G N (xs w v c y) (pc + 1) lv st) : zZ k G N w pc lv (.int y :: .int x :: .ref (zad G i) :: st) := by
  subst hx
  obtain ⟨p, l, e, R, s, m, args, below, meth, c0, Q, A, nL, cells, slots⟩ := k
  intro H locs ls hP hS hl'
  refine va_cast (cA := G.2.2.1) (n := n) (f := fun j => if j < n then zc (xg w v j) else 0) ok.1 ok.2.1 ok.2.2.2.2.1.1 hP (ok.2.2.2.2.2.1.D ok.2.2.2.2.2.2.2.2.2.2.2.1 w) hS i 1 (by rw [zws_get w hi, he]; rfl) rfl (zin hc hn) d (fun H1 locs1 hP1 hD1 hS1 => ?_)
  rw [zcl (by omega)] at hP1
  have e1 := zws_set (G := G) (N := N) (u := xs w v c y) hi ((he _).trans (zArc_set hc)) (fun q hq hne => zE_xs (by have := ok.2.2.2.2.2.1.1; omega) (by rw [hw]; exact hne))
  rw [show (vp_nar .char y) = zc y from rfl, e1] at hP1
  exact kk H1 locs1 ls hP1 hS1 hl'
theorem z_alen (ok : zOk k G N cc own fr lo) {cA : ClassId} {t : Nat} {ty : FieldType} {q : vp_A} (d : decode cc pc = .ok (.arraylength, 1)) (i : Nat) (hi : i < N) (he : zE G w i = .inl (cA, q)) (ht : (zTys G)[t]? = some (cA, ty)) (hv : Int32.ofNat q.1 = x) (kk : zZ k G N w (pc + 1) lv (.int x :: st)) : zZ k G N w pc lv (.ref (zad G i) :: st) := by
  obtain ⟨p, l, e, R, s, m, args, below, meth, c0, Q, A, nL, cells, slots⟩ := k
  exact fun H locs ls hP hS hl' => va_alen ok.1 ok.2.1 ok.2.2.2.2.1.1 hP i t (by rw [zws_get w hi, he]) ht hv d (kk H locs ls hP hS hl')
/-- the history's row -/
theorem z_aald (ok : zOk k G N cc own fr lo) (d : decode cc pc = .ok (.aaload, 1)) (hi : 1 < N) (c : Nat) (hx : x = nI c) (hc : c < 5) (kk : zZ k G N w (pc + 1) lv (.ref (zad G (5 + 6 * zpg w c)) :: st)) : zZ k G N w pc lv (.int x :: .ref (zad G 1) :: st) := by
  subst hx
  obtain ⟨p, l, e, R, s, m, args, below, meth, c0, Q, A, nL, cells, slots⟩ := k
  refine fun H locs ls hP hS hl' => va_aldq (cA := G.2.2.2.1) (C := RX1) (n := 5) (f := fun j => if j < 5 then some (zad G (5 + 6 * zpg w j)) else none) ok.1 ok.2.1 ok.2.2.2.2.1.1 hP 1 2 (by rw [zws_get w hi, zE_1]; rfl) rfl (zin hc (by omega)) d ?_
  rw [zcl (by omega), if_pos hc]
  exact kk H locs ls hP hS hl'
theorem z_aast (ok : zOk k G N cc own fr lo) (d : decode cc pc = .ok (.aastore, 1)) (hi : 1 < N) (g : Nat) (hg : g < 7) (hgN : 5 + 6 * g < N) (c : Nat) (hx : x = nI c) (hc : c < 5) (kk : zZ k G N (xp w c g) (pc + 1) lv st) : zZ k G N w pc lv (.ref (zad G (5 + 6 * g)) :: .int x :: .ref (zad G 1) :: st) := by
  subst hx
  obtain ⟨p, l, e, R, s, m, args, below, meth, c0, Q, A, nL, cells, slots⟩ := k
  intro H locs ls hP hS hl'
  refine va_astq (cA := G.2.2.2.1) (r := (RX1, TX1, 15)) (n := 5) (f := fun j => if j < 5 then some (zad G (5 + 6 * zpg w j)) else none) ok.1 ok.2.1 ok.2.2.2.2.1.1 hP (ok.2.2.2.2.2.1.D ok.2.2.2.2.2.2.2.2.2.2.2.1 w) hS 1 2 (5 + 6 * g) 1 (by rw [zws_get w hi, zE_1]; rfl) rfl (by rw [zws_get w hgN, zE_game G w hg]; rfl) rfl (zin hc (by omega)) d (fun H1 locs1 hP1 hD1 hS1 => ?_)
  rw [zcl (by omega), zws_set (u := xp w c g) hi ?_ ?_] at hP1
  · exact kk H1 locs1 ls hP1 hS1 hl'
  · rw [zE_1]
    unfold zRefs
    have : (fun j => if j < 5 then some (zad G (5 + 6 * zpg (xp w c g) j)) else none) = va_up (fun j => if j < 5 then some (zad G (5 + 6 * zpg w j)) else none) c (some (zad G (5 + 6 * g))) := by
      funext j
      by_cases hj : j = c
      · subst hj
        simp [va_up, hc, zpg, xp, Nat.mod_eq_of_lt hg]
      · simp [va_up, hj, zpg, xp]
    rw [this]
  · intro q hq hne
    by_cases h0 : q = 0
    · subst h0
      have : ∀ j, 5 ≤ j → zpr (xp w c g) j = zpr w j := fun j hj => by
        have : j ≠ c := by omega
        simp [zpr, xp, this]
      rw [zE_0, zE_0, zOuter, zOuter, this 5 (by omega), this 6 (by omega)]
      rfl
    by_cases h47 : q = 47
    · subst h47
      rw [zE_47, zE_47, zLong, zLong]
      have : zLf (xp w c g) = zLf w := by
        funext j
        have : ¬ 100 + j = c := by omega
        simp [zLf, xp, this]
      rw [this]
    · have : ∀ (a : va_E) (b : va_E), (if q = 0 then a else if q = 1 then b else zE G w q) = zE G w q := fun a b => by rw [if_neg h0, if_neg hne]
      unfold zE
      simp only [h0, hne, h47, if_false]
      rfl
/-! calls -/
theorem z_blind {G : zG} {N : Nat} {w : xW} {args : List Value} : FrameBlind (zPc G N w args) := fun a U g mk q => ⟨q.1, q.2.1, zK.moved (State.WarmedH.refl U) (fun _ _ _ => rfl) q.2.2⟩
theorem z_pre {s : State} {A : Nat → Prop} {H : Heap} {locs : List Loc} {args : List Value} (hK : zK G N s s.heap) (hS : va_S A s.heap H locs) (hAd : ∀ q, q < s.heap.size → A q → zA G N q) (hP : va_P G.1 vwCl (zws G N w) H) : ∀ U : State, U.heap = H → s.WarmedH U.vm → zPc G N w args args.toArray U := by
  intro U hU hW
  subst hU
  exact ⟨rfl, hP, zK.moved hW (fun a h1 h2 => hS.2.1 a h1 (fun h => h2 (hAd a h1 h))) hK⟩
/-- what a setting may change of the old cells lies in the world: true of a method's setting and of the law's -/
def zOld (k : zC) (G : zG) (N : Nat) : Prop := match k with
  | (_, _, _, _, s, _, _, _, _, _, _, A, _, _, _) => ∀ q, q < s.heap.size → A q → zA G N q
theorem zEnd.old {ret : Option FieldType} {r : Option Int32} (h : zEnd k G N ret r u) : zOld k G N := by
  obtain ⟨p, l, e, R, s, m, args, below, meth, c0, Q, A, nL, cells, slots⟩ := k
  intro q _ hq
  rw [h.2.1] at hq
  exact hq
theorem z_after {p : Program} {l : Launch} {e : Env} {R : Room} {s : State} {m : MethodId} {args : Array Value} {below : List Frame} {meth : Method} {c0 : Code} {Q : State → Prop} {A : Nat → Prop} {nL cells slots : Nat} {H : Heap} {locs : List Loc} {ls : Array Slot} {st0 rest : List Value} {r : Option Int32}
    (hg : zGeo G N) (hA : ∀ i, i < N → A (zad G i)) (hS : va_S A s.heap H locs) (hl : lv_has ls nL lv)
    (hr : va_Run p l e R s m args below meth c0 H locs cells slots 0 0 (F0 m pc ls st0) rest (fun st o t => (o = .returned (r.map Value.int) ∧ va_P G.1 vwCl (zws G N u) t.heap) ∧ va_F (zA G N) st t) (zA G N))
    (kk : zZ (p, l, e, R, s, m, args, below, meth, c0, Q, A, nL, cells, slots) G N u (pc + 3) lv ((r.map Value.int).toList ++ rest)) : W p l e R s m args below meth c0 H locs cells slots Q (F0 m pc ls st0) := by
  have hAz : ∀ q, zA G N q → A q := fun q ⟨i, hi, e⟩ => by rw [e]; exact hA i hi
  intro T hT X
  obtain ⟨v, st₀, t, T', L, h0, X', hL, e1, e2, ⟨⟨hv, hp⟩, hz, hk⟩, stp⟩ := hr T hT X
  cases hv
  rw [h0] at hz hk
  have hS' : va_S A s.heap T'.heap (locs ++ L) := ⟨Nat.le_trans hS.1 (by rw [e1]; exact hz), fun q h1 h2 => by rw [e1, hk q (Nat.lt_of_lt_of_le h1 hS.1) (fun z => h2 (hAz q z))]; exact hS.2.1 q h1 h2, fun q hq => by
      rcases List.mem_append.mp hq with h | h
      · exact hS.2.2 q h
      · exact hAz _ (hL q h)⟩
  obtain ⟨t2, a1, b1⟩ := kk T'.heap (locs ++ L) ls (by rw [e1]; exact hp) hS' hl T' rfl X'
  exact ⟨t2, stp t2 a1, b1⟩
theorem z_callV (ok : zOk k G N cc own fr lo) (old : zOld k G N) {y : MethodName} {cy : ByteArray} {maxL ny fy ly index ci : Nat} {ret : Option FieldType} {fs As rest st0 args : List Value} {r : Option Int32} {C : String} {T : u_T} {n : Nat} (d : decode cc pc = .ok (.invokevirtual index, 3)) (hM : zM y cy maxL ret fy ly G N args w r u) (hY : zY y cy maxL ret ny) (hw : Cond.methodLink own index y ∈ zTab) (i : Nat) (hi : i < N) (he : zE G w i = .inr (ci, fs)) (hc : vwCl[ci]? = some (C, T, n)) (hC : C = y.cls) (ha : args = .ref (zad G i) :: As) (hst : st0 = As.reverse ++ .ref (zad G i) :: rest) (hn : As.length = ny) (hroom : fy + 1 ≤ fr ∧ 8 + (maxL + 11) + ly ≤ lo) (hrest : (rest.map fun v => v.category).sum ≤ 8) (kk : zZ k G N u (pc + 3) lv ((r.map Value.int).toList ++ rest)) : zZ k G N w pc lv st0 := by
  subst hC; subst ha; subst hst
  obtain ⟨p, l, e, R, s, m, args, below, meth, c0, Q, A, nL, cells, slots⟩ := k
  intro H locs ls hP hS hl
  obtain ⟨y1, y2, y3, y4, y5, y6, y7, -⟩ := hY
  obtain ⟨hx, hb, hown, hml, hK, hg, -, rfl, rfl, hc1, hs1, hA, -⟩ := id ok
  refine z_after hg hA hS hl (va_runV (nL := nL) (Ts := zTab) (own := own) (C := y.cls) (b := zad G i) (As := As) (rest := rest) (n := ny) ⟨hx, hb, hml, hown, fun _ h => ok.word h⟩ (hM l) ⟨callB_of ny (Ts := zTab) (fun _ h => ok.word h) (fun w hw => ?_) rfl rfl rfl (ok.word y3) (ok.word hw) ⟨y5, y6, y7⟩ hroom, ok.word y1, ok.word y2⟩ ⟨z_blind, va_recv hK.1 hP (ci := ci) (q0 := i) hc (by rw [zws_get w hi, he]), z_pre hK hS old hP⟩ rfl hn hl.1 rfl (lv_room hrest) d ⟨hc1, hs1⟩) kk
  rw [List.mem_singleton.mp hw]
  exact ⟨y4, Or.inl rfl⟩
theorem z_callVN (ok : zOk k G N cc own fr lo) (old : zOld k G N) {y : MethodName} {cy : ByteArray} {maxL ny fy ly index ci : Nat} {ret : Option FieldType} {fs As rest st0 args : List Value} {r : Option Int32} {C host : String} {T : u_T} {n : Nat} (d : decode cc pc = .ok (.invokevirtual index, 3)) (hM : zM y cy maxL ret fy ly G N args w r u) (hY : zY y cy maxL ret ny) (hw : Cond.methodLinkNest own index y host ∈ zTab) (i : Nat) (hi : i < N) (he : zE G w i = .inr (ci, fs)) (hc : vwCl[ci]? = some (C, T, n)) (hC : C = y.cls) (ha : args = .ref (zad G i) :: As) (hst : st0 = As.reverse ++ .ref (zad G i) :: rest) (hn : As.length = ny) (hroom : fy + 1 ≤ fr ∧ 8 + (maxL + 11) + ly ≤ lo) (hrest : (rest.map fun v => v.category).sum ≤ 8) (kk : zZ k G N u (pc + 3) lv ((r.map Value.int).toList ++ rest)) : zZ k G N w pc lv st0 := by
  subst hC; subst ha; subst hst
  obtain ⟨p, l, e, R, s, m, args, below, meth, c0, Q, A, nL, cells, slots⟩ := k
  intro H locs ls hP hS hl
  obtain ⟨y1, y2, y3, y4, y5, y6, y7, -⟩ := hY
  obtain ⟨hx, hb, hown, hml, hK, hg, -, rfl, rfl, hc1, hs1, hA, -⟩ := id ok
  refine z_after hg hA hS hl (va_runVN (nL := nL) (Ts := zTab) (own := own) (host := host) (C := y.cls) (b := zad G i) (As := As) (rest := rest) (n := ny) ⟨hx, hb, hml, hown, fun _ h => ok.word h⟩ (hM l) ⟨va_cnB ny (Ts := zTab) (fun _ h => ok.word h) (fun w hw => ?_) rfl rfl rfl (va_Nw.of rfl (ok.word hw)) (ok.word y3) ⟨y5, y6, y7⟩ hroom, ok.word y1, ok.word y2⟩ ⟨z_blind, va_recv hK.1 hP (ci := ci) (q0 := i) hc (by rw [zws_get w hi, he]), z_pre hK hS old hP⟩ rfl hn hl.1 rfl (lv_room hrest) d ⟨hc1, hs1⟩) kk
  rw [List.mem_singleton.mp hw]
  exact ⟨y4, Or.inl rfl⟩
theorem z_callS (ok : zOk k G N cc own fr lo) (old : zOld k G N) {y : MethodName} {cy : ByteArray} {maxL ny fy ly index : Nat} {ret : Option FieldType} {rest st0 args : List Value} {r : Option Int32} (d : decode cc pc = .ok (.invokestatic index, 3)) (hM : zM y cy maxL ret fy ly G N args w r u) (hY : zYS y cy maxL ret ny) (hw : Cond.methodLink own index y ∈ zTab) (hst : st0 = args.reverse ++ rest) (hn : args.length = ny) (hroom : fy + 1 ≤ fr ∧ 8 + (maxL + 11) + ly ≤ lo) (hrest : (rest.map fun v => v.category).sum ≤ 8) (kk : zZ k G N u (pc + 3) lv ((r.map Value.int).toList ++ rest)) : zZ k G N w pc lv st0 := by
  subst hst
  obtain ⟨p, l, e, R, s, m, args', below, meth, c0, Q, A, nL, cells, slots⟩ := k
  intro H locs ls hP hS hl
  obtain ⟨y1, y3, y4, y5, y6, y7, -⟩ := hY
  obtain ⟨hx, hb, hown, hml, hK, hg, -, rfl, rfl, hc1, hs1, hA, -⟩ := id ok
  refine z_after hg hA hS hl (va_runS (nL := nL) (Ts := zTab) (own := own) (As := args) (rest := rest) (n := ny) ⟨hx, hb, hml, hown, fun _ h => ok.word h⟩ (hM l) ⟨callB_of ny (Ts := zTab) (fun _ h => ok.word h) (fun w hw => ?_) rfl rfl rfl (ok.word y3) (ok.word hw) ⟨y5, y6, y7⟩ hroom, ok.word y1⟩ ⟨z_blind, z_pre hK hS old hP⟩ rfl hn hl.1 rfl (lv_room hrest) d ⟨hc1, hs1⟩) kk
  rw [List.mem_singleton.mp hw]
  exact ⟨y4, Or.inl rfl⟩
theorem z_callSN (ok : zOk k G N cc own fr lo) (old : zOld k G N) {y : MethodName} {cy : ByteArray} {maxL ny fy ly index : Nat} {ret : Option FieldType} {rest st0 args : List Value} {r : Option Int32} {host : String} (d : decode cc pc = .ok (.invokestatic index, 3)) (hM : zM y cy maxL ret fy ly G N args w r u) (hY : zYS y cy maxL ret ny) (hw : Cond.methodLinkNest own index y host ∈ zTab) (hst : st0 = args.reverse ++ rest) (hn : args.length = ny) (hroom : fy + 1 ≤ fr ∧ 8 + (maxL + 11) + ly ≤ lo) (hrest : (rest.map fun v => v.category).sum ≤ 8) (kk : zZ k G N u (pc + 3) lv ((r.map Value.int).toList ++ rest)) : zZ k G N w pc lv st0 := by
  subst hst
  obtain ⟨p, l, e, R, s, m, args', below, meth, c0, Q, A, nL, cells, slots⟩ := k
  intro H locs ls hP hS hl
  obtain ⟨y1, y3, y4, y5, y6, y7, -⟩ := hY
  obtain ⟨hx, hb, hown, hml, hK, hg, -, rfl, rfl, hc1, hs1, hA, -⟩ := id ok
  refine z_after hg hA hS hl (va_runSN (nL := nL) (Ts := zTab) (own := own) (host := host) (As := args) (rest := rest) (n := ny) ⟨hx, hb, hml, hown, fun _ h => ok.word h⟩ (hM l) ⟨va_cnB ny (Ts := zTab) (fun _ h => ok.word h) (fun w hw => ?_) rfl rfl rfl (va_Nw.of rfl (ok.word hw)) (ok.word y3) ⟨y5, y6, y7⟩ hroom, ok.word y1, trivial⟩ ⟨z_blind, z_pre hK hS old hP⟩ rfl hn hl.1 rfl (lv_room hrest) d ⟨hc1, hs1⟩) kk
  rw [List.mem_singleton.mp hw]
  exact ⟨y4, Or.inl rfl⟩
/-! ends -/
theorem z_iret (ok : zOk k G N cc own fr lo) {ty : FieldType} {r : Int32} (hE : zEnd k G N (some ty) (some r) u) (d : decode cc pc = .ok (.ireturn, 1)) (hn : narrow ty (.int x) = .int x) (hr : x = r ∧ w = u) : zZ k G N w pc lv [.int x] := by
  obtain ⟨rfl, rfl⟩ := hr
  obtain ⟨p, l, e, R, s, m, args, below, meth, c0, Q, A, nL, cells, slots⟩ := k
  obtain ⟨h1, rfl, rfl, rfl, rfl⟩ := hE
  exact fun H locs ls hP hS hl => W.zret ok.1 ok.2.1 h1 hn (fun t ht _ => ⟨⟨rfl, by rw [ht]; exact hP⟩, hS.F ht⟩) hS.2.2 d ok.2.2.2.2.2.2.1
theorem z_vret (ok : zOk k G N cc own fr lo) (hE : zEnd k G N none none u) (d : decode cc pc = .ok (.return_, 1)) (hr : w = u) : zZ k G N w pc lv [] := by
  subst hr
  obtain ⟨p, l, e, R, s, m, args, below, meth, c0, Q, A, nL, cells, slots⟩ := k
  obtain ⟨h1, rfl, rfl, rfl, rfl⟩ := hE
  exact fun H locs ls hP hS hl => W.vret ok.1 ok.2.1 h1 (fun t ht _ => ⟨⟨rfl, by rw [ht]; exact hP⟩, hS.F ht⟩) hS.2.2 d ok.2.2.2.2.2.2.1
/-! Math, arraycopy, static rows -/
theorem z_max (ok : zOk k G N cc own fr lo) {index : Nat} (d : decode cc pc = .ok (.invokestatic index, 3)) (h1 : Cond.methodLink own index Lib.Math.max.name ∈ zTab) (h2 : Cond.static Lib.Math.max.name ∈ zTab) (h3 : Cond.initialized RJ9 ∈ zTab) (h4 : Cond.code Lib.Math.max.name Lib.Math.max.code 2 (some .int) ∈ zTab) (hroom : 1 ≤ fr ∧ (st.map fun v => v.category).sum + 13 ≤ lo) (kk : zZ k G N w (pc + 3) lv (.int (if x < y then y else x) :: st)) : zZ k G N w pc lv (.int y :: .int x :: st) := by
  have w1 := ok.word h1; have w2 := ok.word h2; have w3 := ok.word h3; have w4 := ok.word h4
  obtain ⟨p, l, e, R, s, m, args, below, meth, c0, Q, A, nL, cells, slots⟩ := k
  obtain ⟨hx, hb, hown, hml, hK, hg, -, rfl, rfl, hc1, hs1, hA, -⟩ := id ok
  exact fun H locs ls hP hS hl => va_mmax hx hb (by rw [hl.1]; exact hml) hown w1 w2 w3 w4 hroom.1 hroom.2 hc1 hs1 d (kk H locs ls hP hS hl)
theorem z_min (ok : zOk k G N cc own fr lo) {index : Nat} (d : decode cc pc = .ok (.invokestatic index, 3)) (h1 : Cond.methodLink own index Lib.Math.min.name ∈ zTab) (h2 : Cond.static Lib.Math.min.name ∈ zTab) (h3 : Cond.initialized RJ9 ∈ zTab) (h4 : Cond.code Lib.Math.min.name Lib.Math.min.code 2 (some .int) ∈ zTab) (hroom : 1 ≤ fr ∧ (st.map fun v => v.category).sum + 13 ≤ lo) (kk : zZ k G N w (pc + 3) lv (.int (if y < x then y else x) :: st)) : zZ k G N w pc lv (.int y :: .int x :: st) := by
  have w1 := ok.word h1; have w2 := ok.word h2; have w3 := ok.word h3; have w4 := ok.word h4
  obtain ⟨p, l, e, R, s, m, args, below, meth, c0, Q, A, nL, cells, slots⟩ := k
  obtain ⟨hx, hb, hown, hml, hK, hg, -, rfl, rfl, hc1, hs1, hA, -⟩ := id ok
  exact fun H locs ls hP hS hl => va_mmin hx hb (by rw [hl.1]; exact hml) hown w1 w2 w3 w4 hroom.1 hroom.2 hc1 hs1 d (kk H locs ls hP hS hl)
theorem z_abs (ok : zOk k G N cc own fr lo) {index : Nat} (d : decode cc pc = .ok (.invokestatic index, 3)) (h1 : Cond.methodLink own index Lib.Math.abs.name ∈ zTab) (h2 : Cond.static Lib.Math.abs.name ∈ zTab) (h3 : Cond.initialized RJ9 ∈ zTab) (h4 : Cond.code Lib.Math.abs.name Lib.Math.abs.code 1 (some .int) ∈ zTab) (hroom : 1 ≤ fr ∧ (st.map fun v => v.category).sum + 13 ≤ lo) (kk : zZ k G N w (pc + 3) lv (.int (if 0 ≤ x then x else 0 - x) :: st)) : zZ k G N w pc lv (.int x :: st) := by
  have w1 := ok.word h1; have w2 := ok.word h2; have w3 := ok.word h3; have w4 := ok.word h4
  obtain ⟨p, l, e, R, s, m, args, below, meth, c0, Q, A, nL, cells, slots⟩ := k
  obtain ⟨hx, hb, hown, hml, hK, hg, -, rfl, rfl, hc1, hs1, hA, -⟩ := id ok
  exact fun H locs ls hP hS hl => va_mabs hx hb (by rw [hl.1]; exact hml) hown w1 w2 w3 w4 hroom.1 hroom.2 hc1 hs1 d (kk H locs ls hP hS hl)
/-- a static row of the class, as the setting's start has it -/
def zSr (k : zC) (G : zG) (N : Nat) (nm : String) (t : Nat) (f : Nat → Int32) : Prop := match k with
  | (_, _, _, _, s, _, _, _, _, _, _, _, _, _, _) => va_Z RX2 nm "[I" (.ref t) (zA G N) s s.heap ∧ va_T .int t 6 (fun j => .int (f j)) (zA G N) s s.heap
theorem zSr_0 (ok : zOk k G N cc own fr lo) : ∃ t, zSr k G N "FIRST_ROW" t zRow0 := by
  obtain ⟨p, l, e, R, s, m, args, below, meth, c0, Q, A, nL, cells, slots⟩ := k
  exact ok.2.2.2.2.1.2.2.1
theorem zSr_1 (ok : zOk k G N cc own fr lo) : ∃ t, zSr k G N "FIRST_TOWERS" t zRow1 := by
  obtain ⟨p, l, e, R, s, m, args, below, meth, c0, Q, A, nL, cells, slots⟩ := k
  exact ok.2.2.2.2.1.2.2.2
theorem z_gets (ok : zOk k G N cc own fr lo) {ret : Option FieldType} {r : Option Int32} (hE : zEnd k G N ret r u) {index t : Nat} {nm host : String} {f : Nat → Int32} (d : decode cc pc = .ok (.getstatic index, 3)) (hs : zSr k G N nm t f) (h1 : Cond.fieldLinkNest own index RX2 nm "[I" host ∈ zTab) (kk : zZ k G N w (pc + 3) lv (.ref t :: st)) : zZ k G N w pc lv st := by
  have w1 := ok.word h1
  obtain ⟨p, l, e, R, s, m, args, below, meth, c0, Q, A, nL, cells, slots⟩ := k
  obtain ⟨-, rfl, -⟩ := hE
  exact fun H locs ls hP hS hl => va_getsN ok.1 ok.2.1 hs.1 hS ok.2.2.1 w1 (fun _ h => h) d (kk H locs ls hP hS hl)
theorem z_tald (ok : zOk k G N cc own fr lo) {ret : Option FieldType} {r : Option Int32} (hE : zEnd k G N ret r u) {t : Nat} {nm : String} {f : Nat → Int32} (d : decode cc pc = .ok (.iaload, 1)) (hs : zSr k G N nm t f) (c : Nat) (hx : x = nI c) (hc : c < 6) (kk : zZ k G N w (pc + 1) lv (.int (f c) :: st)) : zZ k G N w pc lv (.int x :: .ref t :: st) := by
  subst hx
  obtain ⟨p, l, e, R, s, m, args, below, meth, c0, Q, A, nL, cells, slots⟩ := k
  obtain ⟨-, rfl, -⟩ := hE
  exact fun H locs ls hP hS hl => va_ti ok.1 ok.2.1 hs.2 hS (zin hc (by omega)) (by rw [zcl (by omega)]) d (kk H locs ls hP hS hl)
theorem z_tlen (ok : zOk k G N cc own fr lo) {ret : Option FieldType} {r : Option Int32} (hE : zEnd k G N ret r u) {t : Nat} {nm : String} {f : Nat → Int32} (d : decode cc pc = .ok (.arraylength, 1)) (hs : zSr k G N nm t f) (kk : zZ k G N w (pc + 1) lv (.int 6 :: st)) : zZ k G N w pc lv (.ref t :: st) := by
  obtain ⟨p, l, e, R, s, m, args, below, meth, c0, Q, A, nL, cells, slots⟩ := k
  obtain ⟨-, rfl, -⟩ := hE
  exact fun H locs ls hP hS hl => va_tlen ok.1 ok.2.1 hs.2 hS rfl d (kk H locs ls hP hS hl)
/-- System.arraycopy of whole rows of n numbers: the row of i0 comes into the row of i -/
theorem z_copy (ok : zOk k G N cc own fr lo) {index : Nat} {v o v0 o0 : Nat} (d : decode cc pc = .ok (.invokestatic index, 3)) (h1 : Cond.methodLink own index arraycopyName ∈ zTab) (h2 : Cond.native arraycopyName ∈ zTab) (h3 : Cond.static arraycopyName ∈ zTab) (h4 : Cond.initialized RJ10 ∈ zTab) (i0 i : Nat) (hi0 : i0 < N) (hi : i < N) (he0 : zE G w i0 = zArr G.2.1 n v0 o0 w) (he : ∀ u, zE G u i = zArr G.2.1 n v o u) (hx : x = nI n) (hn : n < 2147483648) (hu : ∀ a b, xg u a b = if a = v ∧ o ≤ b ∧ b < o + n then xg w v0 (o0 + (b - o)) else xg w a b) (hu2 : u.2 = w.2) (hw : ∀ b, o ≤ b → b < o + n → zown v b = i)
    (hroom : 1 ≤ fr ∧ (st.map fun v => v.category).sum + (nativeFrameWords "java/lang/System" "arraycopy" 5 + 11) ≤ lo) (kk : zZ k G N u (pc + 3) lv st) : zZ k G N w pc lv (.int x :: .int 0 :: .ref (zad G i) :: .int 0 :: .ref (zad G i0) :: st) := by
  subst hx
  have w1 := ok.word h1; have w2 := ok.word h2; have w3 := ok.word h3; have w4 := ok.word h4
  obtain ⟨p, l, e, R, s, m, args, below, meth, c0, Q, A, nL, cells, slots⟩ := k
  obtain ⟨hx, hb, hown, hml, hK, hg, -, rfl, rfl, hc1, hs1, hA, -⟩ := id ok
  intro H locs ls hP hS hl
  refine va_copyi (c0 := G.2.1) (c1 := G.2.1) (n0 := n) (n1 := n) (ty := .int) (f := fun j => if j < n then xg w v0 (o0 + j) else 0) (g := fun j => if j < n then xg w v (o + j) else 0) hx hb (by rw [hl.1]; exact hml) hown w1 w2 w3 w4 hK.1 hP (hg.D hA w) hS i0 i 0 0 (by rw [zws_get w hi0, he0]; rfl) (by rw [zws_get w hi, he]; rfl) rfl rfl rfl (by decide) (by decide) (nI_nlt (Nat.zero_le _) hn) ?_ ?_ (fun _ _ => rfl) hroom.1 hroom.2 d (fun H1 locs1 hP1 hD1 hS1 => ?_)
  · rw [zcl hn]; show 0 + n ≤ n; omega
  · rw [zcl hn]; show 0 + n ≤ n; omega
  · rw [zcl hn] at hP1
    have e1 : va_cpy (fun j => if j < n then xg w v0 (o0 + j) else 0) (fun j => if j < n then xg w v (o + j) else 0) (0 : Int32).toNatClampNeg (0 : Int32).toNatClampNeg n = (fun j => if j < n then xg u v (o + j) else 0) := by
      have z0 : (0 : Int32).toNatClampNeg = 0 := rfl
      funext j
      simp only [va_cpy, z0]
      by_cases hj : j < n
      · simp only [Nat.zero_le, true_and, Nat.zero_add, Nat.sub_zero, hj, if_true]
        rw [hu, if_pos ⟨rfl, by omega, by omega⟩, show o + j - o = j by omega]
      · simp only [Nat.zero_le, true_and, Nat.zero_add, hj, if_false]
    rw [e1] at hP1
    have e2 := zws_set (G := G) (N := N) (w := w) (u := u) hi (he u) (fun q hq hne => zE_congr (by have := hg.1; omega) hu2 fun a b hab => by
      rw [hu]
      by_cases hc : a = v ∧ o ≤ b ∧ b < o + n
      · exact absurd (hab.symm.trans (by rw [hc.1]; exact hw b hc.2.1 hc.2.2)) hne
      · rw [if_neg hc])
    have hP2 : va_P G.1 vwCl ((zws G N w).set i (zad G i, zArr G.2.1 n v o u)) H1 := hP1
    rw [e2] at hP2
    exact kk H1 locs1 ls hP2 hS1 hl
end ZR
/-! naming what is worked out on the way -/
def zlet {α β : Type} (e : α) (f : α → β) : β := f e
theorem zlet_open {α β : Type} {e : α} {f : α → β} {T : β} (h : zlet e f = T) : ∃ x, x = e ∧ f x = T := ⟨e, rfl, h⟩
theorem zcell {x : Int32} {n : Nat} (h : vp_in x n) (hn : n < 2147483648) : ∃ c, c < n ∧ x = nI c ∧ (nI c).toNatClampNeg = c := by
  obtain ⟨c, h1, h2⟩ := vp_in_of h hn
  exact ⟨c, h1, h2, zcl (by omega)⟩
end
section
theorem zE_xp5 {G : zG} {w : xW} {i j k : Nat} (hi : i < 48) (h0 : i ≠ 0) (hj : 5 ≤ j ∧ j < 100) : zE G (xp w j k) i = zE G w i := by
  have h : zE G (xp w j k) i = zE G (w.1, w.2) i := by
    unfold zE
    rw [if_neg h0, if_neg h0]
    have : zRefs G (xp w j k) = zRefs G (w.1, w.2) := by
      unfold zRefs
      have : (fun q => if q < 5 then some (zad G (5 + 6 * zpg (xp w j k) q)) else none) = (fun q => if q < 5 then some (zad G (5 + 6 * zpg (w.1, w.2) q)) else none) := by
        funext q
        by_cases hq : q < 5
        · have : q ≠ j := by omega
          simp [hq, zpg, xp, this]
        · simp [hq]
      rw [this]
    have hl : zLong G (xp w j k) = zLong G (w.1, w.2) := by
      unfold zLong
      have : zLf (xp w j k) = zLf (w.1, w.2) := by
        funext q
        have : ¬ 100 + q = j := by omega
        simp [zLf, xp, this]
      rw [this]
    rw [this, hl]
    rfl
  exact h
/-! rows for each field and array of the world, by name -/
section ZF
variable {k : zC} {G : zG} {N : Nat} {cc : ByteArray} {own : String} {fr lo : Nat} {w u : xW} {pc : Nat} {lv : List (Nat × Value)} {st : List Value} {x y : Int32}
theorem z_get_X0_sides (ok : zOk k G N cc own fr lo) {index : Nat} (d : decode cc pc = .ok (.getfield index, 3)) (g : Nat) (hgi : g < 7) (hN : 47 ≤ N) (hw : Cond.fieldLink own index "ClockworkChess$Board" "sides" "[I" ∈ zTab) (kk : zZ k G N w (pc + 3) lv (.ref (zad G (7 + 6 * g)) :: st)) : zZ k G N w pc lv (.ref (zad G (6 + 6 * g)) :: st) :=
  z_get ok d (6 + 6 * g) (by omega) (zE_board G w hgi) rfl zu_X0 0 (by decide) hw rfl rfl kk
theorem z_getN_X0_sides (ok : zOk k G N cc own fr lo) {index : Nat} {host : String} (d : decode cc pc = .ok (.getfield index, 3)) (g : Nat) (hgi : g < 7) (hN : 47 ≤ N) (hw : Cond.fieldLinkNest own index "ClockworkChess$Board" "sides" "[I" host ∈ zTab) (kk : zZ k G N w (pc + 3) lv (.ref (zad G (7 + 6 * g)) :: st)) : zZ k G N w pc lv (.ref (zad G (6 + 6 * g)) :: st) :=
  z_getN ok d (6 + 6 * g) (by omega) (zE_board G w hgi) rfl zu_X0 0 (by decide) hw rfl rfl kk
theorem z_get_X0_kinds (ok : zOk k G N cc own fr lo) {index : Nat} (d : decode cc pc = .ok (.getfield index, 3)) (g : Nat) (hgi : g < 7) (hN : 47 ≤ N) (hw : Cond.fieldLink own index "ClockworkChess$Board" "kinds" "[I" ∈ zTab) (kk : zZ k G N w (pc + 3) lv (.ref (zad G (8 + 6 * g)) :: st)) : zZ k G N w pc lv (.ref (zad G (6 + 6 * g)) :: st) :=
  z_get ok d (6 + 6 * g) (by omega) (zE_board G w hgi) rfl zu_X0 1 (by decide) hw rfl rfl kk
theorem z_getN_X0_kinds (ok : zOk k G N cc own fr lo) {index : Nat} {host : String} (d : decode cc pc = .ok (.getfield index, 3)) (g : Nat) (hgi : g < 7) (hN : 47 ≤ N) (hw : Cond.fieldLinkNest own index "ClockworkChess$Board" "kinds" "[I" host ∈ zTab) (kk : zZ k G N w (pc + 3) lv (.ref (zad G (8 + 6 * g)) :: st)) : zZ k G N w pc lv (.ref (zad G (6 + 6 * g)) :: st) :=
  z_getN ok d (6 + 6 * g) (by omega) (zE_board G w hgi) rfl zu_X0 1 (by decide) hw rfl rfl kk
theorem z_get_X0_springs (ok : zOk k G N cc own fr lo) {index : Nat} (d : decode cc pc = .ok (.getfield index, 3)) (g : Nat) (hgi : g < 7) (hN : 47 ≤ N) (hw : Cond.fieldLink own index "ClockworkChess$Board" "springs" "[I" ∈ zTab) (kk : zZ k G N w (pc + 3) lv (.ref (zad G (9 + 6 * g)) :: st)) : zZ k G N w pc lv (.ref (zad G (6 + 6 * g)) :: st) :=
  z_get ok d (6 + 6 * g) (by omega) (zE_board G w hgi) rfl zu_X0 2 (by decide) hw rfl rfl kk
theorem z_getN_X0_springs (ok : zOk k G N cc own fr lo) {index : Nat} {host : String} (d : decode cc pc = .ok (.getfield index, 3)) (g : Nat) (hgi : g < 7) (hN : 47 ≤ N) (hw : Cond.fieldLinkNest own index "ClockworkChess$Board" "springs" "[I" host ∈ zTab) (kk : zZ k G N w (pc + 3) lv (.ref (zad G (9 + 6 * g)) :: st)) : zZ k G N w pc lv (.ref (zad G (6 + 6 * g)) :: st) :=
  z_getN ok d (6 + 6 * g) (by omega) (zE_board G w hgi) rfl zu_X0 2 (by decide) hw rfl rfl kk
theorem z_get_X0_towers (ok : zOk k G N cc own fr lo) {index : Nat} (d : decode cc pc = .ok (.getfield index, 3)) (g : Nat) (hgi : g < 7) (hN : 47 ≤ N) (hw : Cond.fieldLink own index "ClockworkChess$Board" "towers" "[I" ∈ zTab) (kk : zZ k G N w (pc + 3) lv (.ref (zad G (10 + 6 * g)) :: st)) : zZ k G N w pc lv (.ref (zad G (6 + 6 * g)) :: st) :=
  z_get ok d (6 + 6 * g) (by omega) (zE_board G w hgi) rfl zu_X0 3 (by decide) hw rfl rfl kk
theorem z_getN_X0_towers (ok : zOk k G N cc own fr lo) {index : Nat} {host : String} (d : decode cc pc = .ok (.getfield index, 3)) (g : Nat) (hgi : g < 7) (hN : 47 ≤ N) (hw : Cond.fieldLinkNest own index "ClockworkChess$Board" "towers" "[I" host ∈ zTab) (kk : zZ k G N w (pc + 3) lv (.ref (zad G (10 + 6 * g)) :: st)) : zZ k G N w pc lv (.ref (zad G (6 + 6 * g)) :: st) :=
  z_getN ok d (6 + 6 * g) (by omega) (zE_board G w hgi) rfl zu_X0 3 (by decide) hw rfl rfl kk
theorem z_get_X1_board (ok : zOk k G N cc own fr lo) {index : Nat} (d : decode cc pc = .ok (.getfield index, 3)) (g : Nat) (hgi : g < 7) (hN : 47 ≤ N) (hw : Cond.fieldLink own index "ClockworkChess$Game" "board" "LClockworkChess$Board;" ∈ zTab) (kk : zZ k G N w (pc + 3) lv (.ref (zad G (6 + 6 * g)) :: st)) : zZ k G N w pc lv (.ref (zad G (5 + 6 * g)) :: st) :=
  z_get ok d (5 + 6 * g) (by omega) (zE_game G w hgi) rfl zu_X1 0 (by decide) hw rfl rfl kk
theorem z_getN_X1_board (ok : zOk k G N cc own fr lo) {index : Nat} {host : String} (d : decode cc pc = .ok (.getfield index, 3)) (g : Nat) (hgi : g < 7) (hN : 47 ≤ N) (hw : Cond.fieldLinkNest own index "ClockworkChess$Game" "board" "LClockworkChess$Board;" host ∈ zTab) (kk : zZ k G N w (pc + 3) lv (.ref (zad G (6 + 6 * g)) :: st)) : zZ k G N w pc lv (.ref (zad G (5 + 6 * g)) :: st) :=
  z_getN ok d (5 + 6 * g) (by omega) (zE_game G w hgi) rfl zu_X1 0 (by decide) hw rfl rfl kk
theorem z_get_X1_limit (ok : zOk k G N cc own fr lo) {index : Nat} (d : decode cc pc = .ok (.getfield index, 3)) (g : Nat) (hgi : g < 7) (hN : 47 ≤ N) (hw : Cond.fieldLink own index "ClockworkChess$Game" "limit" "I" ∈ zTab) (kk : zZ k G N w (pc + 3) lv (.int (xg w g 149) :: st)) : zZ k G N w pc lv (.ref (zad G (5 + 6 * g)) :: st) :=
  z_get ok d (5 + 6 * g) (by omega) (zE_game G w hgi) rfl zu_X1 1 (by decide) hw rfl rfl kk
theorem z_getN_X1_limit (ok : zOk k G N cc own fr lo) {index : Nat} {host : String} (d : decode cc pc = .ok (.getfield index, 3)) (g : Nat) (hgi : g < 7) (hN : 47 ≤ N) (hw : Cond.fieldLinkNest own index "ClockworkChess$Game" "limit" "I" host ∈ zTab) (kk : zZ k G N w (pc + 3) lv (.int (xg w g 149) :: st)) : zZ k G N w pc lv (.ref (zad G (5 + 6 * g)) :: st) :=
  z_getN ok d (5 + 6 * g) (by omega) (zE_game G w hgi) rfl zu_X1 1 (by decide) hw rfl rfl kk
theorem z_get_X1_bonus (ok : zOk k G N cc own fr lo) {index : Nat} (d : decode cc pc = .ok (.getfield index, 3)) (g : Nat) (hgi : g < 7) (hN : 47 ≤ N) (hw : Cond.fieldLink own index "ClockworkChess$Game" "bonus" "I" ∈ zTab) (kk : zZ k G N w (pc + 3) lv (.int (xg w g 150) :: st)) : zZ k G N w pc lv (.ref (zad G (5 + 6 * g)) :: st) :=
  z_get ok d (5 + 6 * g) (by omega) (zE_game G w hgi) rfl zu_X1 2 (by decide) hw rfl rfl kk
theorem z_getN_X1_bonus (ok : zOk k G N cc own fr lo) {index : Nat} {host : String} (d : decode cc pc = .ok (.getfield index, 3)) (g : Nat) (hgi : g < 7) (hN : 47 ≤ N) (hw : Cond.fieldLinkNest own index "ClockworkChess$Game" "bonus" "I" host ∈ zTab) (kk : zZ k G N w (pc + 3) lv (.int (xg w g 150) :: st)) : zZ k G N w pc lv (.ref (zad G (5 + 6 * g)) :: st) :=
  z_getN ok d (5 + 6 * g) (by omega) (zE_game G w hgi) rfl zu_X1 2 (by decide) hw rfl rfl kk
theorem z_get_X1_winding (ok : zOk k G N cc own fr lo) {index : Nat} (d : decode cc pc = .ok (.getfield index, 3)) (g : Nat) (hgi : g < 7) (hN : 47 ≤ N) (hw : Cond.fieldLink own index "ClockworkChess$Game" "winding" "I" ∈ zTab) (kk : zZ k G N w (pc + 3) lv (.int (xg w g 151) :: st)) : zZ k G N w pc lv (.ref (zad G (5 + 6 * g)) :: st) :=
  z_get ok d (5 + 6 * g) (by omega) (zE_game G w hgi) rfl zu_X1 3 (by decide) hw rfl rfl kk
theorem z_getN_X1_winding (ok : zOk k G N cc own fr lo) {index : Nat} {host : String} (d : decode cc pc = .ok (.getfield index, 3)) (g : Nat) (hgi : g < 7) (hN : 47 ≤ N) (hw : Cond.fieldLinkNest own index "ClockworkChess$Game" "winding" "I" host ∈ zTab) (kk : zZ k G N w (pc + 3) lv (.int (xg w g 151) :: st)) : zZ k G N w pc lv (.ref (zad G (5 + 6 * g)) :: st) :=
  z_getN ok d (5 + 6 * g) (by omega) (zE_game G w hgi) rfl zu_X1 3 (by decide) hw rfl rfl kk
theorem z_get_X1_mover (ok : zOk k G N cc own fr lo) {index : Nat} (d : decode cc pc = .ok (.getfield index, 3)) (g : Nat) (hgi : g < 7) (hN : 47 ≤ N) (hw : Cond.fieldLink own index "ClockworkChess$Game" "mover" "I" ∈ zTab) (kk : zZ k G N w (pc + 3) lv (.int (xg w g 144) :: st)) : zZ k G N w pc lv (.ref (zad G (5 + 6 * g)) :: st) :=
  z_get ok d (5 + 6 * g) (by omega) (zE_game G w hgi) rfl zu_X1 4 (by decide) hw rfl rfl kk
theorem z_getN_X1_mover (ok : zOk k G N cc own fr lo) {index : Nat} {host : String} (d : decode cc pc = .ok (.getfield index, 3)) (g : Nat) (hgi : g < 7) (hN : 47 ≤ N) (hw : Cond.fieldLinkNest own index "ClockworkChess$Game" "mover" "I" host ∈ zTab) (kk : zZ k G N w (pc + 3) lv (.int (xg w g 144) :: st)) : zZ k G N w pc lv (.ref (zad G (5 + 6 * g)) :: st) :=
  z_getN ok d (5 + 6 * g) (by omega) (zE_game G w hgi) rfl zu_X1 4 (by decide) hw rfl rfl kk
theorem z_get_X1_ending (ok : zOk k G N cc own fr lo) {index : Nat} (d : decode cc pc = .ok (.getfield index, 3)) (g : Nat) (hgi : g < 7) (hN : 47 ≤ N) (hw : Cond.fieldLink own index "ClockworkChess$Game" "ending" "I" ∈ zTab) (kk : zZ k G N w (pc + 3) lv (.int (xg w g 145) :: st)) : zZ k G N w pc lv (.ref (zad G (5 + 6 * g)) :: st) :=
  z_get ok d (5 + 6 * g) (by omega) (zE_game G w hgi) rfl zu_X1 5 (by decide) hw rfl rfl kk
theorem z_getN_X1_ending (ok : zOk k G N cc own fr lo) {index : Nat} {host : String} (d : decode cc pc = .ok (.getfield index, 3)) (g : Nat) (hgi : g < 7) (hN : 47 ≤ N) (hw : Cond.fieldLinkNest own index "ClockworkChess$Game" "ending" "I" host ∈ zTab) (kk : zZ k G N w (pc + 3) lv (.int (xg w g 145) :: st)) : zZ k G N w pc lv (.ref (zad G (5 + 6 * g)) :: st) :=
  z_getN ok d (5 + 6 * g) (by omega) (zE_game G w hgi) rfl zu_X1 5 (by decide) hw rfl rfl kk
theorem z_get_X1_winner (ok : zOk k G N cc own fr lo) {index : Nat} (d : decode cc pc = .ok (.getfield index, 3)) (g : Nat) (hgi : g < 7) (hN : 47 ≤ N) (hw : Cond.fieldLink own index "ClockworkChess$Game" "winner" "I" ∈ zTab) (kk : zZ k G N w (pc + 3) lv (.int (xg w g 146) :: st)) : zZ k G N w pc lv (.ref (zad G (5 + 6 * g)) :: st) :=
  z_get ok d (5 + 6 * g) (by omega) (zE_game G w hgi) rfl zu_X1 6 (by decide) hw rfl rfl kk
theorem z_getN_X1_winner (ok : zOk k G N cc own fr lo) {index : Nat} {host : String} (d : decode cc pc = .ok (.getfield index, 3)) (g : Nat) (hgi : g < 7) (hN : 47 ≤ N) (hw : Cond.fieldLinkNest own index "ClockworkChess$Game" "winner" "I" host ∈ zTab) (kk : zZ k G N w (pc + 3) lv (.int (xg w g 146) :: st)) : zZ k G N w pc lv (.ref (zad G (5 + 6 * g)) :: st) :=
  z_getN ok d (5 + 6 * g) (by omega) (zE_game G w hgi) rfl zu_X1 6 (by decide) hw rfl rfl kk
theorem z_get_X1_turnsMade (ok : zOk k G N cc own fr lo) {index : Nat} (d : decode cc pc = .ok (.getfield index, 3)) (g : Nat) (hgi : g < 7) (hN : 47 ≤ N) (hw : Cond.fieldLink own index "ClockworkChess$Game" "turnsMade" "I" ∈ zTab) (kk : zZ k G N w (pc + 3) lv (.int (xg w g 147) :: st)) : zZ k G N w pc lv (.ref (zad G (5 + 6 * g)) :: st) :=
  z_get ok d (5 + 6 * g) (by omega) (zE_game G w hgi) rfl zu_X1 7 (by decide) hw rfl rfl kk
theorem z_getN_X1_turnsMade (ok : zOk k G N cc own fr lo) {index : Nat} {host : String} (d : decode cc pc = .ok (.getfield index, 3)) (g : Nat) (hgi : g < 7) (hN : 47 ≤ N) (hw : Cond.fieldLinkNest own index "ClockworkChess$Game" "turnsMade" "I" host ∈ zTab) (kk : zZ k G N w (pc + 3) lv (.int (xg w g 147) :: st)) : zZ k G N w pc lv (.ref (zad G (5 + 6 * g)) :: st) :=
  z_getN ok d (5 + 6 * g) (by omega) (zE_game G w hgi) rfl zu_X1 7 (by decide) hw rfl rfl kk
theorem z_get_X1_justPassed (ok : zOk k G N cc own fr lo) {index : Nat} (d : decode cc pc = .ok (.getfield index, 3)) (g : Nat) (hgi : g < 7) (hN : 47 ≤ N) (hw : Cond.fieldLink own index "ClockworkChess$Game" "justPassed" "Z" ∈ zTab) (kk : zZ k G N w (pc + 3) lv (.int (zb (xg w g 148)) :: st)) : zZ k G N w pc lv (.ref (zad G (5 + 6 * g)) :: st) :=
  z_get ok d (5 + 6 * g) (by omega) (zE_game G w hgi) rfl zu_X1 8 (by decide) hw rfl rfl kk
theorem z_getN_X1_justPassed (ok : zOk k G N cc own fr lo) {index : Nat} {host : String} (d : decode cc pc = .ok (.getfield index, 3)) (g : Nat) (hgi : g < 7) (hN : 47 ≤ N) (hw : Cond.fieldLinkNest own index "ClockworkChess$Game" "justPassed" "Z" host ∈ zTab) (kk : zZ k G N w (pc + 3) lv (.int (zb (xg w g 148)) :: st)) : zZ k G N w pc lv (.ref (zad G (5 + 6 * g)) :: st) :=
  z_getN ok d (5 + 6 * g) (by omega) (zE_game G w hgi) rfl zu_X1 8 (by decide) hw rfl rfl kk
theorem z_get_X1_atBeginning (ok : zOk k G N cc own fr lo) {index : Nat} (d : decode cc pc = .ok (.getfield index, 3)) (g : Nat) (hgi : g < 7) (hN : 47 ≤ N) (hw : Cond.fieldLink own index "ClockworkChess$Game" "atBeginning" "I" ∈ zTab) (kk : zZ k G N w (pc + 3) lv (.int (xg w g 152) :: st)) : zZ k G N w pc lv (.ref (zad G (5 + 6 * g)) :: st) :=
  z_get ok d (5 + 6 * g) (by omega) (zE_game G w hgi) rfl zu_X1 9 (by decide) hw rfl rfl kk
theorem z_getN_X1_atBeginning (ok : zOk k G N cc own fr lo) {index : Nat} {host : String} (d : decode cc pc = .ok (.getfield index, 3)) (g : Nat) (hgi : g < 7) (hN : 47 ≤ N) (hw : Cond.fieldLinkNest own index "ClockworkChess$Game" "atBeginning" "I" host ∈ zTab) (kk : zZ k G N w (pc + 3) lv (.int (xg w g 152) :: st)) : zZ k G N w pc lv (.ref (zad G (5 + 6 * g)) :: st) :=
  z_getN ok d (5 + 6 * g) (by omega) (zE_game G w hgi) rfl zu_X1 9 (by decide) hw rfl rfl kk
theorem z_get_X1_wound (ok : zOk k G N cc own fr lo) {index : Nat} (d : decode cc pc = .ok (.getfield index, 3)) (g : Nat) (hgi : g < 7) (hN : 47 ≤ N) (hw : Cond.fieldLink own index "ClockworkChess$Game" "wound" "I" ∈ zTab) (kk : zZ k G N w (pc + 3) lv (.int (xg w g 153) :: st)) : zZ k G N w pc lv (.ref (zad G (5 + 6 * g)) :: st) :=
  z_get ok d (5 + 6 * g) (by omega) (zE_game G w hgi) rfl zu_X1 10 (by decide) hw rfl rfl kk
theorem z_getN_X1_wound (ok : zOk k G N cc own fr lo) {index : Nat} {host : String} (d : decode cc pc = .ok (.getfield index, 3)) (g : Nat) (hgi : g < 7) (hN : 47 ≤ N) (hw : Cond.fieldLinkNest own index "ClockworkChess$Game" "wound" "I" host ∈ zTab) (kk : zZ k G N w (pc + 3) lv (.int (xg w g 153) :: st)) : zZ k G N w pc lv (.ref (zad G (5 + 6 * g)) :: st) :=
  z_getN ok d (5 + 6 * g) (by omega) (zE_game G w hgi) rfl zu_X1 10 (by decide) hw rfl rfl kk
theorem z_get_X1_gainedByBonus (ok : zOk k G N cc own fr lo) {index : Nat} (d : decode cc pc = .ok (.getfield index, 3)) (g : Nat) (hgi : g < 7) (hN : 47 ≤ N) (hw : Cond.fieldLink own index "ClockworkChess$Game" "gainedByBonus" "I" ∈ zTab) (kk : zZ k G N w (pc + 3) lv (.int (xg w g 154) :: st)) : zZ k G N w pc lv (.ref (zad G (5 + 6 * g)) :: st) :=
  z_get ok d (5 + 6 * g) (by omega) (zE_game G w hgi) rfl zu_X1 11 (by decide) hw rfl rfl kk
theorem z_getN_X1_gainedByBonus (ok : zOk k G N cc own fr lo) {index : Nat} {host : String} (d : decode cc pc = .ok (.getfield index, 3)) (g : Nat) (hgi : g < 7) (hN : 47 ≤ N) (hw : Cond.fieldLinkNest own index "ClockworkChess$Game" "gainedByBonus" "I" host ∈ zTab) (kk : zZ k G N w (pc + 3) lv (.int (xg w g 154) :: st)) : zZ k G N w pc lv (.ref (zad G (5 + 6 * g)) :: st) :=
  z_getN ok d (5 + 6 * g) (by omega) (zE_game G w hgi) rfl zu_X1 11 (by decide) hw rfl rfl kk
theorem z_get_X1_spent (ok : zOk k G N cc own fr lo) {index : Nat} (d : decode cc pc = .ok (.getfield index, 3)) (g : Nat) (hgi : g < 7) (hN : 47 ≤ N) (hw : Cond.fieldLink own index "ClockworkChess$Game" "spent" "I" ∈ zTab) (kk : zZ k G N w (pc + 3) lv (.int (xg w g 155) :: st)) : zZ k G N w pc lv (.ref (zad G (5 + 6 * g)) :: st) :=
  z_get ok d (5 + 6 * g) (by omega) (zE_game G w hgi) rfl zu_X1 12 (by decide) hw rfl rfl kk
theorem z_getN_X1_spent (ok : zOk k G N cc own fr lo) {index : Nat} {host : String} (d : decode cc pc = .ok (.getfield index, 3)) (g : Nat) (hgi : g < 7) (hN : 47 ≤ N) (hw : Cond.fieldLinkNest own index "ClockworkChess$Game" "spent" "I" host ∈ zTab) (kk : zZ k G N w (pc + 3) lv (.int (xg w g 155) :: st)) : zZ k G N w pc lv (.ref (zad G (5 + 6 * g)) :: st) :=
  z_getN ok d (5 + 6 * g) (by omega) (zE_game G w hgi) rfl zu_X1 12 (by decide) hw rfl rfl kk
theorem z_get_X1_lost (ok : zOk k G N cc own fr lo) {index : Nat} (d : decode cc pc = .ok (.getfield index, 3)) (g : Nat) (hgi : g < 7) (hN : 47 ≤ N) (hw : Cond.fieldLink own index "ClockworkChess$Game" "lost" "I" ∈ zTab) (kk : zZ k G N w (pc + 3) lv (.int (xg w g 156) :: st)) : zZ k G N w pc lv (.ref (zad G (5 + 6 * g)) :: st) :=
  z_get ok d (5 + 6 * g) (by omega) (zE_game G w hgi) rfl zu_X1 13 (by decide) hw rfl rfl kk
theorem z_getN_X1_lost (ok : zOk k G N cc own fr lo) {index : Nat} {host : String} (d : decode cc pc = .ok (.getfield index, 3)) (g : Nat) (hgi : g < 7) (hN : 47 ≤ N) (hw : Cond.fieldLinkNest own index "ClockworkChess$Game" "lost" "I" host ∈ zTab) (kk : zZ k G N w (pc + 3) lv (.int (xg w g 156) :: st)) : zZ k G N w pc lv (.ref (zad G (5 + 6 * g)) :: st) :=
  z_getN ok d (5 + 6 * g) (by omega) (zE_game G w hgi) rfl zu_X1 13 (by decide) hw rfl rfl kk
theorem z_get_X1_putOn (ok : zOk k G N cc own fr lo) {index : Nat} (d : decode cc pc = .ok (.getfield index, 3)) (g : Nat) (hgi : g < 7) (hN : 47 ≤ N) (hw : Cond.fieldLink own index "ClockworkChess$Game" "putOn" "I" ∈ zTab) (kk : zZ k G N w (pc + 3) lv (.int (xg w g 158) :: st)) : zZ k G N w pc lv (.ref (zad G (5 + 6 * g)) :: st) :=
  z_get ok d (5 + 6 * g) (by omega) (zE_game G w hgi) rfl zu_X1 14 (by decide) hw rfl rfl kk
theorem z_getN_X1_putOn (ok : zOk k G N cc own fr lo) {index : Nat} {host : String} (d : decode cc pc = .ok (.getfield index, 3)) (g : Nat) (hgi : g < 7) (hN : 47 ≤ N) (hw : Cond.fieldLinkNest own index "ClockworkChess$Game" "putOn" "I" host ∈ zTab) (kk : zZ k G N w (pc + 3) lv (.int (xg w g 158) :: st)) : zZ k G N w pc lv (.ref (zad G (5 + 6 * g)) :: st) :=
  z_getN ok d (5 + 6 * g) (by omega) (zE_game G w hgi) rfl zu_X1 14 (by decide) hw rfl rfl kk
theorem z_get_X2_game (ok : zOk k G N cc own fr lo) {index : Nat} (d : decode cc pc = .ok (.getfield index, 3)) (hN : 47 ≤ N) (hw : Cond.fieldLink own index "ClockworkChess" "game" "LClockworkChess$Game;" ∈ zTab) (kk : zZ k G N w (pc + 3) lv (.ref (zad G 5) :: st)) : zZ k G N w pc lv (.ref (zad G 0) :: st) :=
  z_get ok d 0 (by omega) (zE_0 G w) rfl zu_X2 0 (by decide) hw rfl rfl kk
theorem z_getN_X2_game (ok : zOk k G N cc own fr lo) {index : Nat} {host : String} (d : decode cc pc = .ok (.getfield index, 3)) (hN : 47 ≤ N) (hw : Cond.fieldLinkNest own index "ClockworkChess" "game" "LClockworkChess$Game;" host ∈ zTab) (kk : zZ k G N w (pc + 3) lv (.ref (zad G 5) :: st)) : zZ k G N w pc lv (.ref (zad G 0) :: st) :=
  z_getN ok d 0 (by omega) (zE_0 G w) rfl zu_X2 0 (by decide) hw rfl rfl kk
theorem z_get_X2_trial (ok : zOk k G N cc own fr lo) {index : Nat} (d : decode cc pc = .ok (.getfield index, 3)) (hN : 47 ≤ N) (hw : Cond.fieldLink own index "ClockworkChess" "trial" "LClockworkChess$Game;" ∈ zTab) (kk : zZ k G N w (pc + 3) lv (.ref (zad G 11) :: st)) : zZ k G N w pc lv (.ref (zad G 0) :: st) :=
  z_get ok d 0 (by omega) (zE_0 G w) rfl zu_X2 1 (by decide) hw rfl rfl kk
theorem z_getN_X2_trial (ok : zOk k G N cc own fr lo) {index : Nat} {host : String} (d : decode cc pc = .ok (.getfield index, 3)) (hN : 47 ≤ N) (hw : Cond.fieldLinkNest own index "ClockworkChess" "trial" "LClockworkChess$Game;" host ∈ zTab) (kk : zZ k G N w (pc + 3) lv (.ref (zad G 11) :: st)) : zZ k G N w pc lv (.ref (zad G 0) :: st) :=
  z_getN ok d 0 (by omega) (zE_0 G w) rfl zu_X2 1 (by decide) hw rfl rfl kk
theorem z_get_X2_states (ok : zOk k G N cc own fr lo) {index : Nat} (d : decode cc pc = .ok (.getfield index, 3)) (hN : 47 ≤ N) (hw : Cond.fieldLink own index "ClockworkChess" "states" "[LClockworkChess$Game;" ∈ zTab) (kk : zZ k G N w (pc + 3) lv (.ref (zad G 1) :: st)) : zZ k G N w pc lv (.ref (zad G 0) :: st) :=
  z_get ok d 0 (by omega) (zE_0 G w) rfl zu_X2 2 (by decide) hw rfl rfl kk
theorem z_getN_X2_states (ok : zOk k G N cc own fr lo) {index : Nat} {host : String} (d : decode cc pc = .ok (.getfield index, 3)) (hN : 47 ≤ N) (hw : Cond.fieldLinkNest own index "ClockworkChess" "states" "[LClockworkChess$Game;" host ∈ zTab) (kk : zZ k G N w (pc + 3) lv (.ref (zad G 1) :: st)) : zZ k G N w pc lv (.ref (zad G 0) :: st) :=
  z_getN ok d 0 (by omega) (zE_0 G w) rfl zu_X2 2 (by decide) hw rfl rfl kk
theorem z_get_X2_stateCount (ok : zOk k G N cc own fr lo) {index : Nat} (d : decode cc pc = .ok (.getfield index, 3)) (hN : 47 ≤ N) (hw : Cond.fieldLink own index "ClockworkChess" "stateCount" "I" ∈ zTab) (kk : zZ k G N w (pc + 3) lv (.int (xg w 10 0) :: st)) : zZ k G N w pc lv (.ref (zad G 0) :: st) :=
  z_get ok d 0 (by omega) (zE_0 G w) rfl zu_X2 3 (by decide) hw rfl rfl kk
theorem z_getN_X2_stateCount (ok : zOk k G N cc own fr lo) {index : Nat} {host : String} (d : decode cc pc = .ok (.getfield index, 3)) (hN : 47 ≤ N) (hw : Cond.fieldLinkNest own index "ClockworkChess" "stateCount" "I" host ∈ zTab) (kk : zZ k G N w (pc + 3) lv (.int (xg w 10 0) :: st)) : zZ k G N w pc lv (.ref (zad G 0) :: st) :=
  z_getN ok d 0 (by omega) (zE_0 G w) rfl zu_X2 3 (by decide) hw rfl rfl kk
theorem z_get_X2_text (ok : zOk k G N cc own fr lo) {index : Nat} (d : decode cc pc = .ok (.getfield index, 3)) (hN : 47 ≤ N) (hw : Cond.fieldLink own index "ClockworkChess" "text" "[C" ∈ zTab) (kk : zZ k G N w (pc + 3) lv (.ref (zad G 2) :: st)) : zZ k G N w pc lv (.ref (zad G 0) :: st) :=
  z_get ok d 0 (by omega) (zE_0 G w) rfl zu_X2 4 (by decide) hw rfl rfl kk
theorem z_getN_X2_text (ok : zOk k G N cc own fr lo) {index : Nat} {host : String} (d : decode cc pc = .ok (.getfield index, 3)) (hN : 47 ≤ N) (hw : Cond.fieldLinkNest own index "ClockworkChess" "text" "[C" host ∈ zTab) (kk : zZ k G N w (pc + 3) lv (.ref (zad G 2) :: st)) : zZ k G N w pc lv (.ref (zad G 0) :: st) :=
  z_getN ok d 0 (by omega) (zE_0 G w) rfl zu_X2 4 (by decide) hw rfl rfl kk
theorem z_get_X2_textLength (ok : zOk k G N cc own fr lo) {index : Nat} (d : decode cc pc = .ok (.getfield index, 3)) (hN : 47 ≤ N) (hw : Cond.fieldLink own index "ClockworkChess" "textLength" "I" ∈ zTab) (kk : zZ k G N w (pc + 3) lv (.int (xg w 10 1) :: st)) : zZ k G N w pc lv (.ref (zad G 0) :: st) :=
  z_get ok d 0 (by omega) (zE_0 G w) rfl zu_X2 5 (by decide) hw rfl rfl kk
theorem z_getN_X2_textLength (ok : zOk k G N cc own fr lo) {index : Nat} {host : String} (d : decode cc pc = .ok (.getfield index, 3)) (hN : 47 ≤ N) (hw : Cond.fieldLinkNest own index "ClockworkChess" "textLength" "I" host ∈ zTab) (kk : zZ k G N w (pc + 3) lv (.int (xg w 10 1) :: st)) : zZ k G N w pc lv (.ref (zad G 0) :: st) :=
  z_getN ok d 0 (by omega) (zE_0 G w) rfl zu_X2 5 (by decide) hw rfl rfl kk
theorem z_get_X2_springLeft (ok : zOk k G N cc own fr lo) {index : Nat} (d : decode cc pc = .ok (.getfield index, 3)) (hN : 47 ≤ N) (hw : Cond.fieldLink own index "ClockworkChess" "springLeft" "[I" ∈ zTab) (kk : zZ k G N w (pc + 3) lv (.ref (zad G (zpr w 5)) :: st)) : zZ k G N w pc lv (.ref (zad G 0) :: st) :=
  z_get ok d 0 (by omega) (zE_0 G w) rfl zu_X2 6 (by decide) hw rfl rfl kk
theorem z_getN_X2_springLeft (ok : zOk k G N cc own fr lo) {index : Nat} {host : String} (d : decode cc pc = .ok (.getfield index, 3)) (hN : 47 ≤ N) (hw : Cond.fieldLinkNest own index "ClockworkChess" "springLeft" "[I" host ∈ zTab) (kk : zZ k G N w (pc + 3) lv (.ref (zad G (zpr w 5)) :: st)) : zZ k G N w pc lv (.ref (zad G 0) :: st) :=
  z_getN ok d 0 (by omega) (zE_0 G w) rfl zu_X2 6 (by decide) hw rfl rfl kk
theorem z_get_X2_springLeftNext (ok : zOk k G N cc own fr lo) {index : Nat} (d : decode cc pc = .ok (.getfield index, 3)) (hN : 47 ≤ N) (hw : Cond.fieldLink own index "ClockworkChess" "springLeftNext" "[I" ∈ zTab) (kk : zZ k G N w (pc + 3) lv (.ref (zad G (zpr w 6)) :: st)) : zZ k G N w pc lv (.ref (zad G 0) :: st) :=
  z_get ok d 0 (by omega) (zE_0 G w) rfl zu_X2 7 (by decide) hw rfl rfl kk
theorem z_getN_X2_springLeftNext (ok : zOk k G N cc own fr lo) {index : Nat} {host : String} (d : decode cc pc = .ok (.getfield index, 3)) (hN : 47 ≤ N) (hw : Cond.fieldLinkNest own index "ClockworkChess" "springLeftNext" "[I" host ∈ zTab) (kk : zZ k G N w (pc + 3) lv (.ref (zad G (zpr w 6)) :: st)) : zZ k G N w pc lv (.ref (zad G 0) :: st) :=
  z_getN ok d 0 (by omega) (zE_0 G w) rfl zu_X2 7 (by decide) hw rfl rfl kk
theorem zOk_48 (ok : zOk k G N cc own fr lo) : N ≤ 48 := by
  obtain ⟨p, l, e, R, s, m, args, below, meth, c0, Q, A, nL, cells, slots⟩ := k
  exact ok.2.2.2.2.2.1.1
theorem zOk_geo (ok : zOk k G N cc own fr lo) : zGeo G N := by
  obtain ⟨p, l, e, R, s, m, args, below, meth, c0, Q, A, nL, cells, slots⟩ := k
  exact ok.2.2.2.2.2.1
theorem z_put_X1_limit (ok : zOk k G N cc own fr lo) {index : Nat} (d : decode cc pc = .ok (.putfield index, 3)) (g : Nat) (hgi : g < 7) (hN : 47 ≤ N) (hw : Cond.fieldLink own index "ClockworkChess$Game" "limit" "I" ∈ zTab) (kk : zZ k G N (xs w g 149 x) (pc + 3) lv st) : zZ k G N w pc lv (.int x :: .ref (zad G (5 + 6 * g)) :: st) :=
  z_put (ty := .int) ok d (xs w g 149 x) (5 + 6 * g) (by omega) (zE_game G w hgi) rfl zu_X1 tyX1 tyX1_ok nmX1 1 (by decide) hw ⟨rfl, rfl⟩ (by decide +kernel) rfl rfl (Nat.le_of_ble_eq_true rfl) (by rw [zE_game _ _ hgi]; simp [zGame, xg_xs]) (fun q hq hne => zE_xs (by have := zOk_48 ok; omega) (by rw [zown_game hgi (by decide)]; exact hne)) kk
theorem z_put_X1_bonus (ok : zOk k G N cc own fr lo) {index : Nat} (d : decode cc pc = .ok (.putfield index, 3)) (g : Nat) (hgi : g < 7) (hN : 47 ≤ N) (hw : Cond.fieldLink own index "ClockworkChess$Game" "bonus" "I" ∈ zTab) (kk : zZ k G N (xs w g 150 x) (pc + 3) lv st) : zZ k G N w pc lv (.int x :: .ref (zad G (5 + 6 * g)) :: st) :=
  z_put (ty := .int) ok d (xs w g 150 x) (5 + 6 * g) (by omega) (zE_game G w hgi) rfl zu_X1 tyX1 tyX1_ok nmX1 2 (by decide) hw ⟨rfl, rfl⟩ (by decide +kernel) rfl rfl (Nat.le_of_ble_eq_true rfl) (by rw [zE_game _ _ hgi]; simp [zGame, xg_xs]) (fun q hq hne => zE_xs (by have := zOk_48 ok; omega) (by rw [zown_game hgi (by decide)]; exact hne)) kk
theorem z_put_X1_winding (ok : zOk k G N cc own fr lo) {index : Nat} (d : decode cc pc = .ok (.putfield index, 3)) (g : Nat) (hgi : g < 7) (hN : 47 ≤ N) (hw : Cond.fieldLink own index "ClockworkChess$Game" "winding" "I" ∈ zTab) (kk : zZ k G N (xs w g 151 x) (pc + 3) lv st) : zZ k G N w pc lv (.int x :: .ref (zad G (5 + 6 * g)) :: st) :=
  z_put (ty := .int) ok d (xs w g 151 x) (5 + 6 * g) (by omega) (zE_game G w hgi) rfl zu_X1 tyX1 tyX1_ok nmX1 3 (by decide) hw ⟨rfl, rfl⟩ (by decide +kernel) rfl rfl (Nat.le_of_ble_eq_true rfl) (by rw [zE_game _ _ hgi]; simp [zGame, xg_xs]) (fun q hq hne => zE_xs (by have := zOk_48 ok; omega) (by rw [zown_game hgi (by decide)]; exact hne)) kk
theorem z_put_X1_mover (ok : zOk k G N cc own fr lo) {index : Nat} (d : decode cc pc = .ok (.putfield index, 3)) (g : Nat) (hgi : g < 7) (hN : 47 ≤ N) (hw : Cond.fieldLink own index "ClockworkChess$Game" "mover" "I" ∈ zTab) (kk : zZ k G N (xs w g 144 x) (pc + 3) lv st) : zZ k G N w pc lv (.int x :: .ref (zad G (5 + 6 * g)) :: st) :=
  z_put (ty := .int) ok d (xs w g 144 x) (5 + 6 * g) (by omega) (zE_game G w hgi) rfl zu_X1 tyX1 tyX1_ok nmX1 4 (by decide) hw ⟨rfl, rfl⟩ (by decide +kernel) rfl rfl (Nat.le_of_ble_eq_true rfl) (by rw [zE_game _ _ hgi]; simp [zGame, xg_xs]) (fun q hq hne => zE_xs (by have := zOk_48 ok; omega) (by rw [zown_game hgi (by decide)]; exact hne)) kk
theorem z_put_X1_ending (ok : zOk k G N cc own fr lo) {index : Nat} (d : decode cc pc = .ok (.putfield index, 3)) (g : Nat) (hgi : g < 7) (hN : 47 ≤ N) (hw : Cond.fieldLink own index "ClockworkChess$Game" "ending" "I" ∈ zTab) (kk : zZ k G N (xs w g 145 x) (pc + 3) lv st) : zZ k G N w pc lv (.int x :: .ref (zad G (5 + 6 * g)) :: st) :=
  z_put (ty := .int) ok d (xs w g 145 x) (5 + 6 * g) (by omega) (zE_game G w hgi) rfl zu_X1 tyX1 tyX1_ok nmX1 5 (by decide) hw ⟨rfl, rfl⟩ (by decide +kernel) rfl rfl (Nat.le_of_ble_eq_true rfl) (by rw [zE_game _ _ hgi]; simp [zGame, xg_xs]) (fun q hq hne => zE_xs (by have := zOk_48 ok; omega) (by rw [zown_game hgi (by decide)]; exact hne)) kk
theorem z_put_X1_winner (ok : zOk k G N cc own fr lo) {index : Nat} (d : decode cc pc = .ok (.putfield index, 3)) (g : Nat) (hgi : g < 7) (hN : 47 ≤ N) (hw : Cond.fieldLink own index "ClockworkChess$Game" "winner" "I" ∈ zTab) (kk : zZ k G N (xs w g 146 x) (pc + 3) lv st) : zZ k G N w pc lv (.int x :: .ref (zad G (5 + 6 * g)) :: st) :=
  z_put (ty := .int) ok d (xs w g 146 x) (5 + 6 * g) (by omega) (zE_game G w hgi) rfl zu_X1 tyX1 tyX1_ok nmX1 6 (by decide) hw ⟨rfl, rfl⟩ (by decide +kernel) rfl rfl (Nat.le_of_ble_eq_true rfl) (by rw [zE_game _ _ hgi]; simp [zGame, xg_xs]) (fun q hq hne => zE_xs (by have := zOk_48 ok; omega) (by rw [zown_game hgi (by decide)]; exact hne)) kk
theorem z_put_X1_turnsMade (ok : zOk k G N cc own fr lo) {index : Nat} (d : decode cc pc = .ok (.putfield index, 3)) (g : Nat) (hgi : g < 7) (hN : 47 ≤ N) (hw : Cond.fieldLink own index "ClockworkChess$Game" "turnsMade" "I" ∈ zTab) (kk : zZ k G N (xs w g 147 x) (pc + 3) lv st) : zZ k G N w pc lv (.int x :: .ref (zad G (5 + 6 * g)) :: st) :=
  z_put (ty := .int) ok d (xs w g 147 x) (5 + 6 * g) (by omega) (zE_game G w hgi) rfl zu_X1 tyX1 tyX1_ok nmX1 7 (by decide) hw ⟨rfl, rfl⟩ (by decide +kernel) rfl rfl (Nat.le_of_ble_eq_true rfl) (by rw [zE_game _ _ hgi]; simp [zGame, xg_xs]) (fun q hq hne => zE_xs (by have := zOk_48 ok; omega) (by rw [zown_game hgi (by decide)]; exact hne)) kk
theorem z_put_X1_justPassed (ok : zOk k G N cc own fr lo) {index : Nat} (d : decode cc pc = .ok (.putfield index, 3)) (g : Nat) (hgi : g < 7) (hN : 47 ≤ N) (hx : x = zb x) (hw : Cond.fieldLink own index "ClockworkChess$Game" "justPassed" "Z" ∈ zTab) (kk : zZ k G N (xs w g 148 x) (pc + 3) lv st) : zZ k G N w pc lv (.int x :: .ref (zad G (5 + 6 * g)) :: st) :=
  z_put (ty := .boolean) ok d (xs w g 148 x) (5 + 6 * g) (by omega) (zE_game G w hgi) rfl zu_X1 tyX1 tyX1_ok nmX1 8 (by decide) hw ⟨rfl, rfl⟩ (by decide +kernel) (by rw [hx]; exact zb_nar x) (by rw [hx]; exact zb_fit x) (Nat.le_of_ble_eq_true rfl) (by rw [zE_game _ _ hgi]; simp [zGame, xg_xs, ← hx]) (fun q hq hne => zE_xs (by have := zOk_48 ok; omega) (by rw [zown_game hgi (by decide)]; exact hne)) kk
theorem z_put_X1_atBeginning (ok : zOk k G N cc own fr lo) {index : Nat} (d : decode cc pc = .ok (.putfield index, 3)) (g : Nat) (hgi : g < 7) (hN : 47 ≤ N) (hw : Cond.fieldLink own index "ClockworkChess$Game" "atBeginning" "I" ∈ zTab) (kk : zZ k G N (xs w g 152 x) (pc + 3) lv st) : zZ k G N w pc lv (.int x :: .ref (zad G (5 + 6 * g)) :: st) :=
  z_put (ty := .int) ok d (xs w g 152 x) (5 + 6 * g) (by omega) (zE_game G w hgi) rfl zu_X1 tyX1 tyX1_ok nmX1 9 (by decide) hw ⟨rfl, rfl⟩ (by decide +kernel) rfl rfl (Nat.le_of_ble_eq_true rfl) (by rw [zE_game _ _ hgi]; simp [zGame, xg_xs]) (fun q hq hne => zE_xs (by have := zOk_48 ok; omega) (by rw [zown_game hgi (by decide)]; exact hne)) kk
theorem z_put_X1_wound (ok : zOk k G N cc own fr lo) {index : Nat} (d : decode cc pc = .ok (.putfield index, 3)) (g : Nat) (hgi : g < 7) (hN : 47 ≤ N) (hw : Cond.fieldLink own index "ClockworkChess$Game" "wound" "I" ∈ zTab) (kk : zZ k G N (xs w g 153 x) (pc + 3) lv st) : zZ k G N w pc lv (.int x :: .ref (zad G (5 + 6 * g)) :: st) :=
  z_put (ty := .int) ok d (xs w g 153 x) (5 + 6 * g) (by omega) (zE_game G w hgi) rfl zu_X1 tyX1 tyX1_ok nmX1 10 (by decide) hw ⟨rfl, rfl⟩ (by decide +kernel) rfl rfl (Nat.le_of_ble_eq_true rfl) (by rw [zE_game _ _ hgi]; simp [zGame, xg_xs]) (fun q hq hne => zE_xs (by have := zOk_48 ok; omega) (by rw [zown_game hgi (by decide)]; exact hne)) kk
theorem z_put_X1_gainedByBonus (ok : zOk k G N cc own fr lo) {index : Nat} (d : decode cc pc = .ok (.putfield index, 3)) (g : Nat) (hgi : g < 7) (hN : 47 ≤ N) (hw : Cond.fieldLink own index "ClockworkChess$Game" "gainedByBonus" "I" ∈ zTab) (kk : zZ k G N (xs w g 154 x) (pc + 3) lv st) : zZ k G N w pc lv (.int x :: .ref (zad G (5 + 6 * g)) :: st) :=
  z_put (ty := .int) ok d (xs w g 154 x) (5 + 6 * g) (by omega) (zE_game G w hgi) rfl zu_X1 tyX1 tyX1_ok nmX1 11 (by decide) hw ⟨rfl, rfl⟩ (by decide +kernel) rfl rfl (Nat.le_of_ble_eq_true rfl) (by rw [zE_game _ _ hgi]; simp [zGame, xg_xs]) (fun q hq hne => zE_xs (by have := zOk_48 ok; omega) (by rw [zown_game hgi (by decide)]; exact hne)) kk
theorem z_put_X1_spent (ok : zOk k G N cc own fr lo) {index : Nat} (d : decode cc pc = .ok (.putfield index, 3)) (g : Nat) (hgi : g < 7) (hN : 47 ≤ N) (hw : Cond.fieldLink own index "ClockworkChess$Game" "spent" "I" ∈ zTab) (kk : zZ k G N (xs w g 155 x) (pc + 3) lv st) : zZ k G N w pc lv (.int x :: .ref (zad G (5 + 6 * g)) :: st) :=
  z_put (ty := .int) ok d (xs w g 155 x) (5 + 6 * g) (by omega) (zE_game G w hgi) rfl zu_X1 tyX1 tyX1_ok nmX1 12 (by decide) hw ⟨rfl, rfl⟩ (by decide +kernel) rfl rfl (Nat.le_of_ble_eq_true rfl) (by rw [zE_game _ _ hgi]; simp [zGame, xg_xs]) (fun q hq hne => zE_xs (by have := zOk_48 ok; omega) (by rw [zown_game hgi (by decide)]; exact hne)) kk
theorem z_put_X1_lost (ok : zOk k G N cc own fr lo) {index : Nat} (d : decode cc pc = .ok (.putfield index, 3)) (g : Nat) (hgi : g < 7) (hN : 47 ≤ N) (hw : Cond.fieldLink own index "ClockworkChess$Game" "lost" "I" ∈ zTab) (kk : zZ k G N (xs w g 156 x) (pc + 3) lv st) : zZ k G N w pc lv (.int x :: .ref (zad G (5 + 6 * g)) :: st) :=
  z_put (ty := .int) ok d (xs w g 156 x) (5 + 6 * g) (by omega) (zE_game G w hgi) rfl zu_X1 tyX1 tyX1_ok nmX1 13 (by decide) hw ⟨rfl, rfl⟩ (by decide +kernel) rfl rfl (Nat.le_of_ble_eq_true rfl) (by rw [zE_game _ _ hgi]; simp [zGame, xg_xs]) (fun q hq hne => zE_xs (by have := zOk_48 ok; omega) (by rw [zown_game hgi (by decide)]; exact hne)) kk
theorem z_put_X1_putOn (ok : zOk k G N cc own fr lo) {index : Nat} (d : decode cc pc = .ok (.putfield index, 3)) (g : Nat) (hgi : g < 7) (hN : 47 ≤ N) (hw : Cond.fieldLink own index "ClockworkChess$Game" "putOn" "I" ∈ zTab) (kk : zZ k G N (xs w g 158 x) (pc + 3) lv st) : zZ k G N w pc lv (.int x :: .ref (zad G (5 + 6 * g)) :: st) :=
  z_put (ty := .int) ok d (xs w g 158 x) (5 + 6 * g) (by omega) (zE_game G w hgi) rfl zu_X1 tyX1 tyX1_ok nmX1 14 (by decide) hw ⟨rfl, rfl⟩ (by decide +kernel) rfl rfl (Nat.le_of_ble_eq_true rfl) (by rw [zE_game _ _ hgi]; simp [zGame, xg_xs]) (fun q hq hne => zE_xs (by have := zOk_48 ok; omega) (by rw [zown_game hgi (by decide)]; exact hne)) kk
theorem z_put_X2_stateCount (ok : zOk k G N cc own fr lo) {index : Nat} (d : decode cc pc = .ok (.putfield index, 3)) (hN : 47 ≤ N) (hw : Cond.fieldLink own index "ClockworkChess" "stateCount" "I" ∈ zTab) (kk : zZ k G N (xs w 10 0 x) (pc + 3) lv st) : zZ k G N w pc lv (.int x :: .ref (zad G 0) :: st) :=
  z_put (ty := .int) ok d (xs w 10 0 x) 0 (by omega) (zE_0 G w) rfl zu_X2 tyX2 tyX2_ok nmX2 3 (by decide) hw ⟨rfl, rfl⟩ (by decide +kernel) rfl rfl (Nat.le_of_ble_eq_true rfl) (by rw [zE_0]; simp [zOuter, zpr, xs, xg]) (fun q hq hne => zE_xs (by have := zOk_48 ok; omega) (by rw [show zown 10 0 = 0 from rfl]; exact hne)) kk
theorem z_put_X2_textLength (ok : zOk k G N cc own fr lo) {index : Nat} (d : decode cc pc = .ok (.putfield index, 3)) (hN : 47 ≤ N) (hw : Cond.fieldLink own index "ClockworkChess" "textLength" "I" ∈ zTab) (kk : zZ k G N (xs w 10 1 x) (pc + 3) lv st) : zZ k G N w pc lv (.int x :: .ref (zad G 0) :: st) :=
  z_put (ty := .int) ok d (xs w 10 1 x) 0 (by omega) (zE_0 G w) rfl zu_X2 tyX2 tyX2_ok nmX2 5 (by decide) hw ⟨rfl, rfl⟩ (by decide +kernel) rfl rfl (Nat.le_of_ble_eq_true rfl) (by rw [zE_0]; simp [zOuter, zpr, xs, xg]) (fun q hq hne => zE_xs (by have := zOk_48 ok; omega) (by rw [show zown 10 1 = 0 from rfl]; exact hne)) kk
theorem z_put_X2_springLeft (ok : zOk k G N cc own fr lo) {index : Nat} (d : decode cc pc = .ok (.putfield index, 3)) (hN : 47 ≤ N) (t : Nat) (ht : t = 3 ∨ t = 4) (hw : Cond.fieldLink own index "ClockworkChess" "springLeft" "[I" ∈ zTab) (kk : zZ k G N (xp w 5 (t - 3)) (pc + 3) lv st) : zZ k G N w pc lv (.ref (zad G t) :: .ref (zad G 0) :: st) :=
  z_put (ty := .array .int) ok d (xp w 5 (t - 3)) 0 (by omega) (zE_0 G w) rfl zu_X2 tyX2 tyX2_ok nmX2 6 (by decide) hw ⟨rfl, rfl⟩ (by decide +kernel) rfl rfl (Nat.le_of_ble_eq_true rfl) (by rcases ht with rfl | rfl <;> rw [zE_0] <;> simp [zOuter, xp, zpr, xg]) (fun q hq hne => zE_xp5 (by have := zOk_48 ok; omega) hne ⟨by decide, by decide⟩) kk
theorem z_put_X2_springLeftNext (ok : zOk k G N cc own fr lo) {index : Nat} (d : decode cc pc = .ok (.putfield index, 3)) (hN : 47 ≤ N) (t : Nat) (ht : t = 3 ∨ t = 4) (hw : Cond.fieldLink own index "ClockworkChess" "springLeftNext" "[I" ∈ zTab) (kk : zZ k G N (xp w 6 (t - 3)) (pc + 3) lv st) : zZ k G N w pc lv (.ref (zad G t) :: .ref (zad G 0) :: st) :=
  z_put (ty := .array .int) ok d (xp w 6 (t - 3)) 0 (by omega) (zE_0 G w) rfl zu_X2 tyX2 tyX2_ok nmX2 7 (by decide) hw ⟨rfl, rfl⟩ (by decide +kernel) rfl rfl (Nat.le_of_ble_eq_true rfl) (by rcases ht with rfl | rfl <;> rw [zE_0] <;> simp [zOuter, xp, zpr, xg]) (fun q hq hne => zE_xp5 (by have := zOk_48 ok; omega) hne ⟨by decide, by decide⟩) kk
end ZF
section ZH
variable {k : zC} {G : zG} {N : Nat} {cc : ByteArray} {own : String} {fr lo : Nat} {w u : xW} {pc : Nat} {lv : List (Nat × Value)} {st : List Value} {x y : Int32}
theorem z_gld0 (ok : zOk k G N cc own fr lo) (d : decode cc pc = .ok (.iaload, 1)) (g : Nat) (hgi : g < 7) (hN : 47 ≤ N) (c : Nat) (hx : x = nI c) (hc : c < 36) (kk : zZ k G N w (pc + 1) lv (.int (xg w g c) :: st)) : zZ k G N w pc lv (.int x :: .ref (zad G (7 + 6 * g)) :: st) :=
  z_iald ok d (7 + 6 * g) (by omega) (zE_arr (r := 0) G w hgi (by decide)) c hx hc (by decide) (by simpa using kk)
theorem z_gst0 (ok : zOk k G N cc own fr lo) (d : decode cc pc = .ok (.iastore, 1)) (g : Nat) (hgi : g < 7) (hN : 47 ≤ N) (c : Nat) (hx : x = nI c) (hc : c < 36) (kk : zZ k G N (xs w g c y) (pc + 1) lv st) : zZ k G N w pc lv (.int y :: .int x :: .ref (zad G (7 + 6 * g)) :: st) :=
  z_iast ok d (7 + 6 * g) (by omega) (fun u => zE_arr (r := 0) G u hgi (by decide)) c hx hc (by decide) ((zown_arr (r := 0) hgi (by decide) hc).trans (by omega)) (by simpa using kk)
theorem z_gld1 (ok : zOk k G N cc own fr lo) (d : decode cc pc = .ok (.iaload, 1)) (g : Nat) (hgi : g < 7) (hN : 47 ≤ N) (c : Nat) (hx : x = nI c) (hc : c < 36) (kk : zZ k G N w (pc + 1) lv (.int (xg w g (36 + c)) :: st)) : zZ k G N w pc lv (.int x :: .ref (zad G (8 + 6 * g)) :: st) :=
  z_iald ok d (8 + 6 * g) (by omega) (zE_arr (r := 1) G w hgi (by decide)) c hx hc (by decide) kk
theorem z_gst1 (ok : zOk k G N cc own fr lo) (d : decode cc pc = .ok (.iastore, 1)) (g : Nat) (hgi : g < 7) (hN : 47 ≤ N) (c : Nat) (hx : x = nI c) (hc : c < 36) (kk : zZ k G N (xs w g (36 + c) y) (pc + 1) lv st) : zZ k G N w pc lv (.int y :: .int x :: .ref (zad G (8 + 6 * g)) :: st) :=
  z_iast ok d (8 + 6 * g) (by omega) (fun u => zE_arr (r := 1) G u hgi (by decide)) c hx hc (by decide) ((zown_arr (r := 1) hgi (by decide) hc).trans (by omega)) kk
theorem z_gld2 (ok : zOk k G N cc own fr lo) (d : decode cc pc = .ok (.iaload, 1)) (g : Nat) (hgi : g < 7) (hN : 47 ≤ N) (c : Nat) (hx : x = nI c) (hc : c < 36) (kk : zZ k G N w (pc + 1) lv (.int (xg w g (72 + c)) :: st)) : zZ k G N w pc lv (.int x :: .ref (zad G (9 + 6 * g)) :: st) :=
  z_iald ok d (9 + 6 * g) (by omega) (zE_arr (r := 2) G w hgi (by decide)) c hx hc (by decide) kk
theorem z_gst2 (ok : zOk k G N cc own fr lo) (d : decode cc pc = .ok (.iastore, 1)) (g : Nat) (hgi : g < 7) (hN : 47 ≤ N) (c : Nat) (hx : x = nI c) (hc : c < 36) (kk : zZ k G N (xs w g (72 + c) y) (pc + 1) lv st) : zZ k G N w pc lv (.int y :: .int x :: .ref (zad G (9 + 6 * g)) :: st) :=
  z_iast ok d (9 + 6 * g) (by omega) (fun u => zE_arr (r := 2) G u hgi (by decide)) c hx hc (by decide) ((zown_arr (r := 2) hgi (by decide) hc).trans (by omega)) kk
theorem z_gld3 (ok : zOk k G N cc own fr lo) (d : decode cc pc = .ok (.iaload, 1)) (g : Nat) (hgi : g < 7) (hN : 47 ≤ N) (c : Nat) (hx : x = nI c) (hc : c < 36) (kk : zZ k G N w (pc + 1) lv (.int (xg w g (108 + c)) :: st)) : zZ k G N w pc lv (.int x :: .ref (zad G (10 + 6 * g)) :: st) :=
  z_iald ok d (10 + 6 * g) (by omega) (zE_arr (r := 3) G w hgi (by decide)) c hx hc (by decide) kk
theorem z_gst3 (ok : zOk k G N cc own fr lo) (d : decode cc pc = .ok (.iastore, 1)) (g : Nat) (hgi : g < 7) (hN : 47 ≤ N) (c : Nat) (hx : x = nI c) (hc : c < 36) (kk : zZ k G N (xs w g (108 + c) y) (pc + 1) lv st) : zZ k G N w pc lv (.int y :: .int x :: .ref (zad G (10 + 6 * g)) :: st) :=
  z_iast ok d (10 + 6 * g) (by omega) (fun u => zE_arr (r := 3) G u hgi (by decide)) c hx hc (by decide) ((zown_arr (r := 3) hgi (by decide) hc).trans (by omega)) kk
theorem z_rld (ok : zOk k G N cc own fr lo) (d : decode cc pc = .ok (.iaload, 1)) (z : xW) (j : Nat) (hN : 47 ≤ N) (c : Nat) (hx : x = nI c) (hc : c < 36) (kk : zZ k G N w (pc + 1) lv (.int (xg w (5 + zpr z j) c) :: st)) : zZ k G N w pc lv (.int x :: .ref (zad G (zpr z j)) :: st) :=
  z_iald ok d (zpr z j) (by have := zpr_lt z j; omega) (zE_row G z w j) c hx hc (Nat.le_of_ble_eq_true rfl) (by rw [Nat.zero_add]; exact kk)
theorem z_rst (ok : zOk k G N cc own fr lo) (d : decode cc pc = .ok (.iastore, 1)) (z : xW) (j : Nat) (hN : 47 ≤ N) (c : Nat) (hx : x = nI c) (hc : c < 36) (kk : zZ k G N (xs w (5 + zpr z j) c y) (pc + 1) lv st) : zZ k G N w pc lv (.int y :: .int x :: .ref (zad G (zpr z j)) :: st) :=
  z_iast ok d (zpr z j) (by have := zpr_lt z j; omega) (fun u => zE_row G z u j) c hx hc (by decide) (by have h : zpr z j = 3 ∨ zpr z j = 4 := by { unfold zpr; omega }; rcases h with h | h <;> rw [h] <;> rfl) (by rw [Nat.zero_add]; exact kk)
/-- calls that answer a number, and calls that answer nothing -/
theorem z_callVi (ok : zOk k G N cc own fr lo) (old : zOld k G N) {yy : MethodName} {cy : ByteArray} {maxL ny fy ly index ci : Nat} {ret : Option FieldType} {fs As st0 args : List Value} {r : Int32} {C : String} {T : u_T} {n : Nat} (d : decode cc pc = .ok (.invokevirtual index, 3)) (rest : List Value) (hM : zM yy cy maxL ret fy ly G N args w (some r) u) (hY : zY yy cy maxL ret ny) (hw : Cond.methodLink own index yy ∈ zTab) (i : Nat) (hi : i < N) (he : zE G w i = .inr (ci, fs)) (hc : vwCl[ci]? = some (C, T, n)) (hC : C = yy.cls) (ha : args = .ref (zad G i) :: As) (hst : st0 = As.reverse ++ .ref (zad G i) :: rest) (hn : As.length = ny) (hroom : fy + 1 ≤ fr ∧ 8 + (maxL + 11) + ly ≤ lo) (hrest : (rest.map fun v => v.category).sum ≤ 8) (kk : zZ k G N u (pc + 3) lv (.int r :: rest)) : zZ k G N w pc lv st0 := z_callV ok old d hM hY hw i hi he hc hC ha hst hn hroom hrest kk
theorem z_callVv (ok : zOk k G N cc own fr lo) (old : zOld k G N) {yy : MethodName} {cy : ByteArray} {maxL ny fy ly index ci : Nat} {ret : Option FieldType} {fs As st0 args : List Value} {C : String} {T : u_T} {n : Nat} (d : decode cc pc = .ok (.invokevirtual index, 3)) (rest : List Value) (hM : zM yy cy maxL ret fy ly G N args w none u) (hY : zY yy cy maxL ret ny) (hw : Cond.methodLink own index yy ∈ zTab) (i : Nat) (hi : i < N) (he : zE G w i = .inr (ci, fs)) (hc : vwCl[ci]? = some (C, T, n)) (hC : C = yy.cls) (ha : args = .ref (zad G i) :: As) (hst : st0 = As.reverse ++ .ref (zad G i) :: rest) (hn : As.length = ny) (hroom : fy + 1 ≤ fr ∧ 8 + (maxL + 11) + ly ≤ lo) (hrest : (rest.map fun v => v.category).sum ≤ 8) (kk : zZ k G N u (pc + 3) lv rest) : zZ k G N w pc lv st0 := z_callV ok old d hM hY hw i hi he hc hC ha hst hn hroom hrest kk
theorem z_callVNi (ok : zOk k G N cc own fr lo) (old : zOld k G N) {yy : MethodName} {cy : ByteArray} {maxL ny fy ly index ci : Nat} {ret : Option FieldType} {fs As st0 args : List Value} {r : Int32} {C host : String} {T : u_T} {n : Nat} (d : decode cc pc = .ok (.invokevirtual index, 3)) (rest : List Value) (hM : zM yy cy maxL ret fy ly G N args w (some r) u) (hY : zY yy cy maxL ret ny) (hw : Cond.methodLinkNest own index yy host ∈ zTab) (i : Nat) (hi : i < N) (he : zE G w i = .inr (ci, fs)) (hc : vwCl[ci]? = some (C, T, n)) (hC : C = yy.cls) (ha : args = .ref (zad G i) :: As) (hst : st0 = As.reverse ++ .ref (zad G i) :: rest) (hn : As.length = ny) (hroom : fy + 1 ≤ fr ∧ 8 + (maxL + 11) + ly ≤ lo) (hrest : (rest.map fun v => v.category).sum ≤ 8) (kk : zZ k G N u (pc + 3) lv (.int r :: rest)) : zZ k G N w pc lv st0 := z_callVN ok old d hM hY hw i hi he hc hC ha hst hn hroom hrest kk
theorem z_callVNv (ok : zOk k G N cc own fr lo) (old : zOld k G N) {yy : MethodName} {cy : ByteArray} {maxL ny fy ly index ci : Nat} {ret : Option FieldType} {fs As st0 args : List Value} {C host : String} {T : u_T} {n : Nat} (d : decode cc pc = .ok (.invokevirtual index, 3)) (rest : List Value) (hM : zM yy cy maxL ret fy ly G N args w none u) (hY : zY yy cy maxL ret ny) (hw : Cond.methodLinkNest own index yy host ∈ zTab) (i : Nat) (hi : i < N) (he : zE G w i = .inr (ci, fs)) (hc : vwCl[ci]? = some (C, T, n)) (hC : C = yy.cls) (ha : args = .ref (zad G i) :: As) (hst : st0 = As.reverse ++ .ref (zad G i) :: rest) (hn : As.length = ny) (hroom : fy + 1 ≤ fr ∧ 8 + (maxL + 11) + ly ≤ lo) (hrest : (rest.map fun v => v.category).sum ≤ 8) (kk : zZ k G N u (pc + 3) lv rest) : zZ k G N w pc lv st0 := z_callVN ok old d hM hY hw i hi he hc hC ha hst hn hroom hrest kk
theorem z_callSi (ok : zOk k G N cc own fr lo) (old : zOld k G N) {yy : MethodName} {cy : ByteArray} {maxL ny fy ly index : Nat} {ret : Option FieldType} {st0 args : List Value} {r : Int32} (d : decode cc pc = .ok (.invokestatic index, 3)) (rest : List Value) (hM : zM yy cy maxL ret fy ly G N args w (some r) u) (hY : zYS yy cy maxL ret ny) (hw : Cond.methodLink own index yy ∈ zTab) (hst : st0 = args.reverse ++ rest) (hn : args.length = ny) (hroom : fy + 1 ≤ fr ∧ 8 + (maxL + 11) + ly ≤ lo) (hrest : (rest.map fun v => v.category).sum ≤ 8) (kk : zZ k G N u (pc + 3) lv (.int r :: rest)) : zZ k G N w pc lv st0 := z_callS ok old d hM hY hw hst hn hroom hrest kk
theorem z_callSNi (ok : zOk k G N cc own fr lo) (old : zOld k G N) {yy : MethodName} {cy : ByteArray} {maxL ny fy ly index : Nat} {ret : Option FieldType} {st0 args : List Value} {r : Int32} {host : String} (d : decode cc pc = .ok (.invokestatic index, 3)) (rest : List Value) (hM : zM yy cy maxL ret fy ly G N args w (some r) u) (hY : zYS yy cy maxL ret ny) (hw : Cond.methodLinkNest own index yy host ∈ zTab) (hst : st0 = args.reverse ++ rest) (hn : args.length = ny) (hroom : fy + 1 ≤ fr ∧ 8 + (maxL + 11) + ly ≤ lo) (hrest : (rest.map fun v => v.category).sum ≤ 8) (kk : zZ k G N u (pc + 3) lv (.int r :: rest)) : zZ k G N w pc lv st0 := z_callSN ok old d hM hY hw hst hn hroom hrest kk
theorem z_iadd_0 (ok : zOk k G N cc own fr lo) (d : decode cc pc = .ok (.iadd, 1)) (kk : zZ k G N w (pc + 1) lv (.int y :: st)) : zZ k G N w pc lv (.int y :: .int 0 :: st) := z_iadd ok d (by rw [Int32.zero_add]; exact kk)
end ZH
end
section
/-! small facts that the laid rows name -/
theorem z_incn (a b : Nat) : nI a + Int32.ofInt (b : Int) = nI (a + b) := by
  rw [← nI_add]
  rfl
theorem zg_lt {N g : Nat} (hN : 47 ≤ N) (hg : g < 7) : 5 + 6 * g < N := by omega
theorem zg_lt' {N g : Nat} (hN : 47 ≤ N) (hg : g < 7) : 6 + 6 * g < N := by omega
theorem zpr_34 (w : xW) (j : Nat) : zpr w j = 3 ∨ zpr w j = 4 := by unfold zpr; omega
theorem zidxN {x : Int32} {n : Nat} (hn : n < 2147483648) (h1 : ¬ x < 0) (h2 : ¬ nI n ≤ x) : x = nI x.toNatClampNeg ∧ x.toNatClampNeg < n := by
  rcases pk_ix x hn with h | h | ⟨j, hj, rfl⟩
  · exact absurd h h1
  · exact absurd h h2
  · rw [zcl (by omega)]; exact ⟨rfl, hj⟩
theorem zidx {x : Int32} (h1 : ¬ x < 0) (h2 : ¬ 36 ≤ x) : x = nI x.toNatClampNeg ∧ x.toNatClampNeg < 36 := zidxN (by decide) h1 h2
theorem zidx5 {x : Int32} (h1 : ¬ x < 0) (h2 : ¬ 5 ≤ x) : x = nI x.toNatClampNeg ∧ x.toNatClampNeg < 5 := zidxN (by decide) h1 h2
theorem zidx80 {x : Int32} (h1 : ¬ x < 0) (h2 : ¬ 80 ≤ x) : x = nI x.toNatClampNeg ∧ x.toNatClampNeg < 80 := zidxN (by decide) h1 h2
theorem zcellx {x : Int32} {n c : Nat} (h : x = nI x.toNatClampNeg ∧ x.toNatClampNeg < n) (hc : c = x.toNatClampNeg) : c < n ∧ x = nI c := by
  subst hc
  exact ⟨h.2, h.1⟩
theorem ztab_outN {x : Int32} {n : Nat} (hn : n < 2147483648) (h : ∀ j, j < n → ¬ x = nI j) : x.toInt < 0 ∨ (n : Int) - 1 < x.toInt := by
  rcases pk_ix x hn with q | q | ⟨j, hj, rfl⟩
  · left
    have := Int32.lt_iff_toInt_lt.mp q
    simpa using this
  · right
    have := Int32.le_iff_toInt_le.mp q
    rw [nI_toInt (by omega)] at this
    omega
  · exact absurd rfl (h j hj)
theorem ztab_out4 {x : Int32} (h0 : ¬ x = 0) (h1 : ¬ x = 1) (h2 : ¬ x = 2) (h3 : ¬ x = 3) : x.toInt < 0 ∨ 3 < x.toInt := ztab_outN (n := 4) (by decide) fun j hj => by
  rcases (by omega : j = 0 ∨ j = 1 ∨ j = 2 ∨ j = 3) with rfl | rfl | rfl | rfl <;> assumption
theorem ztab_out3 {x : Int32} (h0 : ¬ x = 0) (h1 : ¬ x = 1) (h2 : ¬ x = 2) : x.toInt < 0 ∨ 2 < x.toInt := ztab_outN (n := 3) (by decide) fun j hj => by
  rcases (by omega : j = 0 ∨ j = 1 ∨ j = 2) with rfl | rfl | rfl <;> assumption
theorem ztab_out6 {x : Int32} (h0 : ¬ x = 0) (h1 : ¬ x = 1) (h2 : ¬ x = 2) (h3 : ¬ x = 3) (h4 : ¬ x = 4) (h5 : ¬ x = 5) : x.toInt < 0 ∨ 5 < x.toInt := ztab_outN (n := 6) (by decide) fun j hj => by
  rcases (by omega : j = 0 ∨ j = 1 ∨ j = 2 ∨ j = 3 ∨ j = 4 ∨ j = 5) with rfl | rfl | rfl | rfl | rfl | rfl <;> assumption
theorem ztab_out13 {x : Int32} (h0 : ¬ x = 0) (h1 : ¬ x = 1) (h2 : ¬ x = 2) (h3 : ¬ x = 3) (h4 : ¬ x = 4) (h5 : ¬ x = 5) (h6 : ¬ x = 6) (h7 : ¬ x = 7) (h8 : ¬ x = 8) (h9 : ¬ x = 9) (h10 : ¬ x = 10) (h11 : ¬ x = 11) (h12 : ¬ x = 12) : x.toInt < 0 ∨ 12 < x.toInt := ztab_outN (n := 13) (by decide) fun j hj => by
  rcases (by omega : j = 0 ∨ j = 1 ∨ j = 2 ∨ j = 3 ∨ j = 4 ∨ j = 5 ∨ j = 6 ∨ j = 7 ∨ j = 8 ∨ j = 9 ∨ j = 10 ∨ j = 11 ∨ j = 12) with rfl | rfl | rfl | rfl | rfl | rfl | rfl | rfl | rfl | rfl | rfl | rfl | rfl <;> assumption
theorem ztab_out26 {x : Int32} (h0 : ¬ x = 0) (h1 : ¬ x = 1) (h2 : ¬ x = 2) (h3 : ¬ x = 3) (h4 : ¬ x = 4) (h5 : ¬ x = 5) (h6 : ¬ x = 6) (h7 : ¬ x = 7) (h8 : ¬ x = 8) (h9 : ¬ x = 9) (h10 : ¬ x = 10) (h11 : ¬ x = 11) (h12 : ¬ x = 12) (h13 : ¬ x = 13) (h14 : ¬ x = 14) (h15 : ¬ x = 15) (h16 : ¬ x = 16) (h17 : ¬ x = 17) (h18 : ¬ x = 18) (h19 : ¬ x = 19) (h20 : ¬ x = 20) (h21 : ¬ x = 21) (h22 : ¬ x = 22) (h23 : ¬ x = 23) (h24 : ¬ x = 24) (h25 : ¬ x = 25) : x.toInt < 0 ∨ 25 < x.toInt := ztab_outN (n := 26) (by decide) fun j hj => by
  rcases (by omega : j = 0 ∨ j = 1 ∨ j = 2 ∨ j = 3 ∨ j = 4 ∨ j = 5 ∨ j = 6 ∨ j = 7 ∨ j = 8 ∨ j = 9 ∨ j = 10 ∨ j = 11 ∨ j = 12 ∨ j = 13 ∨ j = 14 ∨ j = 15 ∨ j = 16 ∨ j = 17 ∨ j = 18 ∨ j = 19 ∨ j = 20 ∨ j = 21 ∨ j = 22 ∨ j = 23 ∨ j = 24 ∨ j = 25) with rfl | rfl | rfl | rfl | rfl | rfl | rfl | rfl | rfl | rfl | rfl | rfl | rfl | rfl | rfl | rfl | rfl | rfl | rfl | rfl | rfl | rfl | rfl | rfl | rfl | rfl <;> assumption
theorem zlook_out2 {x : Int32} {a b df : Int} (h0 : ¬ x = 0) (h1 : ¬ x = 1) : Op.lookupswitch.offset [(0, a), (1, b)] df x.toInt = df := by
  have e0 : ¬ x.toInt = 0 := fun h => h0 (Int32.toInt_inj.mp h)
  have e1 : ¬ x.toInt = 1 := fun h => h1 (Int32.toInt_inj.mp h)
  simp [Op.lookupswitch.offset, e0, e1, Ne.symm e0, Ne.symm e1]
/-- 36 numbers of one row over those of another -/
def xcopy (w : xW) (v o v0 o0 : Nat) : xW := (fun a b => if a = v ∧ o ≤ b ∧ b < o + 36 then xg w v0 (o0 + (b - o)) else w.1 a b, w.2)
theorem xcopy_xg (w : xW) (v o v0 o0 a b : Nat) : xg (xcopy w v o v0 o0) a b = if a = v ∧ o ≤ b ∧ b < o + 36 then xg w v0 (o0 + (b - o)) else xg w a b := rfl
theorem zown_cp {g r b : Nat} (hg : g < 7) (hr : r < 4) (h1 : 36 * r ≤ b) (h2 : b < 36 * r + 36) : zown g b = 7 + r + 6 * g := by
  obtain ⟨c, e⟩ : ∃ c, b = 36 * r + c := ⟨b - 36 * r, by omega⟩
  subst e
  exact zown_arr hg hr (by omega)
theorem zown_row (w : xW) (j b : Nat) : zown (5 + zpr w j) b = zpr w j := by
  rcases zpr_34 w j with h | h <;> rw [h] <;> rfl
theorem znative : nativeFrameWords "java/lang/System" "arraycopy" 5 + 11 ≤ 60 := by decide
theorem zabs5 {x : Int32} (h : -6 < x.toInt ∧ x.toInt < 6) : 0 ≤ (if 0 ≤ x then x else 0 - x).toInt ∧ (if 0 ≤ x then x else 0 - x).toInt < 6 := by
  by_cases h0 : 0 ≤ x
  · rw [if_pos h0]
    have := Int32.le_iff_toInt_le.mp h0
    have e : (0 : Int32).toInt = 0 := rfl
    omega
  · rw [if_neg h0]
    have h1 : ¬ (0 : Int32).toInt ≤ x.toInt := fun q => h0 (Int32.le_iff_toInt_le.mpr q)
    have e : (0 : Int32).toInt = 0 := rfl
    have e2 : (0 - x).toInt = 0 - x.toInt := by
      rw [Int32.toInt_sub, e]
      rw [Int.bmod_eq_of_le] <;> omega
    omega
theorem zmax5 {a b x : Int32} (ha : -6 < a.toInt ∧ a.toInt < 6) (hb : -6 < b.toInt ∧ b.toInt < 6) (hx : x = if (if 0 ≤ a then a else 0 - a) < (if 0 ≤ b then b else 0 - b) then (if 0 ≤ b then b else 0 - b) else (if 0 ≤ a then a else 0 - a)) : x.toInt < 6 := by
  have h1 := zabs5 ha
  have h2 := zabs5 hb
  subst hx
  by_cases h : (if 0 ≤ a then a else 0 - a) < (if 0 ≤ b then b else 0 - b)
  · rw [if_pos h]; omega
  · rw [if_neg h]; omega
theorem zsteps_lt {x : Int32} {d : Nat} (h : ¬ x ≤ nI d) (hx : x.toInt < 6) (hd : d < 2147483648) : d < 5 := by
  have h1 : ¬ x.toInt ≤ (nI d).toInt := fun q => h (Int32.le_iff_toInt_le.mpr q)
  rw [nI_toInt hd] at h1
  omega
theorem zdiff5 {a b : Nat} (ha : a < 6) (hb : b < 6) : -6 < (nI a - nI b).toInt ∧ (nI a - nI b).toInt < 6 := by
  rw [pk_sub_toInt (by omega) (by omega)]
  omega
theorem zpair {α β : Type} (p : α × β) : ∃ r u, p = (r, u) := ⟨p.1, p.2, by cases p; rfl⟩
theorem zidx80p {x : Int32} (h1 : ¬ x < 0) (h2 : x < 80) : x = nI x.toNatClampNeg ∧ x.toNatClampNeg < 80 := zidx80 h1 (Int32.not_le.mpr h2)
theorem zidx6 {x : Int32} (h1 : ¬ x < 0) (h2 : ¬ 6 ≤ x) : x = nI x.toNatClampNeg ∧ x.toNatClampNeg < 6 := zidxN (by decide) h1 h2
end
section
/-! a method that answers a place or nothing: contracts whose answer is any value -/
def zEndV (k : zC) (G : zG) (N : Nat) (ret : Option FieldType) (r : Option Value) (u : xW) : Prop := match k with
  | (_, _, _, _, s, _, args, below, meth, _, Q, A, _, cells, slots) => meth.sig.returnType = ret ∧ A = zA G N ∧ cells = 0 ∧ slots = 0 ∧ Q = MQ below (fun _ st o t => (o = .returned r ∧ va_P G.1 vwCl (zws G N u) t.heap) ∧ va_F (zA G N) st t) args s 0 0 (zA G N)
def zMV (y : MethodName) (cc : ByteArray) (maxL : Nat) (ret : Option FieldType) (fr lo : Nat) (G : zG) (N : Nat) (args : List Value) (w : xW) (r : Option Value) (u : xW) : Prop :=
  ∀ l : Launch, Met l y [.code y cc maxL ret] { frames := fr, cells := 0, slots := 0, locals := lo } (zPc G N w args) (fun _ st o t => (o = .returned r ∧ va_P G.1 vwCl (zws G N u) t.heap) ∧ va_F (zA G N) st t) 0 0 (zA G N)
theorem zMV_of {y : MethodName} {cc : ByteArray} {maxL : Nat} {ret : Option FieldType} {fr lo : Nat} {G : zG} {N : Nat} {args : List Value} {w : xW} {r : Option Value} {u : xW} {lv : List (Nat × Value)} (hy : plainName y.cls = true) (hg : zGeo G N) (hn : (lg_sl args).length ≤ maxL ∧ maxL < 1000) (hlv : lv_args 0 args = lv)
    (body : ∀ k : zC, zOk k G N cc y.cls fr lo → zEndV k G N ret r u → (∀ i, i < maxL → zIn k i) → zZ k G N w 0 lv []) : zMV y cc maxL ret fr lo G N args w r u := by
  intro l
  refine Met.ofW (cc := cc) (maxL := maxL) (ret := ret) hy rfl ?_
  intro p e s m args' below meth c s₁ B hml hv
  obtain ⟨rfl, hP, hK⟩ := hv
  have hx := B.exec
  have hb := B.bytes
  have hr := B.returns
  have hown : s.vm.findClass y.cls = some m.cls := findClass_of_methodNamed B.named
  have hlocks := B.notSynchronized
  have hl := lv_entry args (n := maxL) hn.1
  rw [hlv] at hl
  rw [lg_entry_eq]
  exact body (p, l, e, (headSpec [.code y cc maxL ret] { frames := fr, cells := 0, slots := 0, locals := lo }).room, s, m, args.toArray, below, meth, c, _, zA G N, maxL, 0, 0) ⟨hx, hb, hown, hml, hK, hg, hlocks, rfl, rfl, Nat.zero_le _, Nat.zero_le _, fun i hi => ⟨i, hi, rfl⟩, hn.2⟩ ⟨hr, rfl, rfl, rfl, rfl⟩ (fun _ h => h) s.heap [] _ hP va_S.rf hl
section ZV
variable {k : zC} {G : zG} {N : Nat} {cc : ByteArray} {own : String} {fr lo : Nat} {w u : xW} {pc tgt : Nat} {lv lv' : List (Nat × Value)} {st : List Value} {a i : Nat} {off : Int}
theorem z_afterV {p : Program} {l : Launch} {e : Env} {R : Room} {s : State} {m : MethodId} {args : Array Value} {below : List Frame} {meth : Method} {c0 : Code} {Q : State → Prop} {A : Nat → Prop} {nL cells slots : Nat} {H : Heap} {locs : List Loc} {ls : Array Slot} {st0 rest : List Value} {r : Option Value}
    (hg : zGeo G N) (hA : ∀ i, i < N → A (zad G i)) (hS : va_S A s.heap H locs) (hl : lv_has ls nL lv)
    (hr : va_Run p l e R s m args below meth c0 H locs cells slots 0 0 (F0 m pc ls st0) rest (fun st o t => (o = .returned r ∧ va_P G.1 vwCl (zws G N u) t.heap) ∧ va_F (zA G N) st t) (zA G N))
    (kk : zZ (p, l, e, R, s, m, args, below, meth, c0, Q, A, nL, cells, slots) G N u (pc + 3) lv (r.toList ++ rest)) : W p l e R s m args below meth c0 H locs cells slots Q (F0 m pc ls st0) := by
  have hAz : ∀ q, zA G N q → A q := fun q ⟨i, hi, e⟩ => by rw [e]; exact hA i hi
  intro T hT X
  obtain ⟨v, st₀, t, T', L, h0, X', hL, e1, e2, ⟨⟨hv, hp⟩, hz, hk⟩, stp⟩ := hr T hT X
  cases hv
  rw [h0] at hz hk
  have hS' : va_S A s.heap T'.heap (locs ++ L) := ⟨Nat.le_trans hS.1 (by rw [e1]; exact hz), fun q h1 h2 => by rw [e1, hk q (Nat.lt_of_lt_of_le h1 hS.1) (fun z => h2 (hAz q z))]; exact hS.2.1 q h1 h2, fun q hq => by
      rcases List.mem_append.mp hq with h | h
      · exact hS.2.2 q h
      · exact hAz _ (hL q h)⟩
  obtain ⟨t2, a1, b1⟩ := kk T'.heap (locs ++ L) ls (by rw [e1]; exact hp) hS' hl T' rfl X'
  exact ⟨t2, stp t2 a1, b1⟩
theorem z_callVV (ok : zOk k G N cc own fr lo) (old : zOld k G N) {y : MethodName} {cy : ByteArray} {maxL ny fy ly index ci : Nat} {ret : Option FieldType} {fs As st0 args : List Value} {r : Value} {C : String} {T : u_T} {n : Nat} (d : decode cc pc = .ok (.invokevirtual index, 3)) (rest : List Value) (hM : zMV y cy maxL ret fy ly G N args w (some r) u) (hY : zY y cy maxL ret ny) (hw : Cond.methodLink own index y ∈ zTab) (i : Nat) (hi : i < N) (he : zE G w i = .inr (ci, fs)) (hc : vwCl[ci]? = some (C, T, n)) (hC : C = y.cls) (ha : args = .ref (zad G i) :: As) (hst : st0 = As.reverse ++ .ref (zad G i) :: rest) (hn : As.length = ny) (hroom : fy + 1 ≤ fr ∧ 8 + (maxL + 11) + ly ≤ lo) (hrest : (rest.map fun v => v.category).sum ≤ 8) (kk : zZ k G N u (pc + 3) lv (r :: rest)) : zZ k G N w pc lv st0 := by
  subst hC; subst ha; subst hst
  obtain ⟨p, l, e, R, s, m, args, below, meth, c0, Q, A, nL, cells, slots⟩ := k
  intro H locs ls hP hS hl
  obtain ⟨y1, y2, y3, y4, y5, y6, y7, -⟩ := hY
  obtain ⟨hx, hb, hown, hml, hK, hg, -, rfl, rfl, hc1, hs1, hA, -⟩ := id ok
  refine z_afterV hg hA hS hl (va_runV (nL := nL) (Ts := zTab) (own := own) (C := y.cls) (b := zad G i) (As := As) (rest := rest) (n := ny) ⟨hx, hb, hml, hown, fun _ h => ok.word h⟩ (hM l) ⟨callB_of ny (Ts := zTab) (fun _ h => ok.word h) (fun w hw => ?_) rfl rfl rfl (ok.word y3) (ok.word hw) ⟨y5, y6, y7⟩ hroom, ok.word y1, ok.word y2⟩ ⟨z_blind, va_recv hK.1 hP (ci := ci) (q0 := i) hc (by rw [zws_get w hi, he]), z_pre hK hS old hP⟩ rfl hn hl.1 rfl (lv_room hrest) d ⟨hc1, hs1⟩) kk
  rw [List.mem_singleton.mp hw]
  exact ⟨y4, Or.inl rfl⟩
theorem z_aret (ok : zOk k G N cc own fr lo) {n : String} {r v : Value} (hE : zEndV k G N (some (.object n)) (some r) u) (d : decode cc pc = .ok (.areturn, 1)) (hv : v = .null ∨ ∃ a, v = .ref a) (hr : v = r ∧ w = u) : zZ k G N w pc lv [v] := by
  obtain ⟨rfl, rfl⟩ := hr
  obtain ⟨p, l, e, R, s, m, args, below, meth, c0, Q, A, nL, cells, slots⟩ := k
  obtain ⟨h1, rfl, rfl, rfl, rfl⟩ := hE
  exact fun H locs ls hP hS hl => W.aret ok.1 ok.2.1 h1 (Or.inl ⟨n, rfl⟩) hv (fun t ht _ => ⟨⟨rfl, by rw [ht]; exact hP⟩, hS.F ht⟩) hS.2.2 d ok.2.2.2.2.2.2.1
theorem z_null (ok : zOk k G N cc own fr lo) (d : decode cc pc = .ok (.aconst_null, 1)) (kk : zZ k G N w (pc + 1) lv (.null :: st)) : zZ k G N w pc lv st := by
  obtain ⟨p, l, e, R, s, m, args, below, meth, c0, Q, A, nL, cells, slots⟩ := k
  exact fun H locs ls hP hS hl => lv_null ok.1 ok.2.1 d (kk H locs ls hP hS hl)
theorem z_ifnull (ok : zOk k G N cc own fr lo) (d : decode cc pc = .ok (.ifnull off, 3)) (kk : zZ k G N w (pc + 3) lv st) : zZ k G N w pc lv (.ref a :: st) := by
  obtain ⟨p, l, e, R, s, m, args, below, meth, c0, Q, A, nL, cells, slots⟩ := k
  exact fun H locs ls hP hS hl => lv_ifnull ok.1 ok.2.1 d (kk H locs ls hP hS hl)
theorem z_ifnullN (ok : zOk k G N cc own fr lo) (d : decode cc pc = .ok (.ifnull off, 3)) (tgt : Nat) (ht : (pc : Int) + off = (tgt : Int)) (kk : zZ k G N w tgt lv st) : zZ k G N w pc lv (.null :: st) := by
  obtain ⟨p, l, e, R, s, m, args, below, meth, c0, Q, A, nL, cells, slots⟩ := k
  exact fun H locs ls hP hS hl => lv_ifnullN ok.1 ok.2.1 d ht (kk H locs ls hP hS hl)
theorem z_ifnonnull (ok : zOk k G N cc own fr lo) (d : decode cc pc = .ok (.ifnonnull off, 3)) (tgt : Nat) (ht : (pc : Int) + off = (tgt : Int)) (kk : zZ k G N w tgt lv st) : zZ k G N w pc lv (.ref a :: st) := by
  obtain ⟨p, l, e, R, s, m, args, below, meth, c0, Q, A, nL, cells, slots⟩ := k
  exact fun H locs ls hP hS hl => lv_ifnonnull ok.1 ok.2.1 d ht (kk H locs ls hP hS hl)
theorem z_ifnonnullN (ok : zOk k G N cc own fr lo) (d : decode cc pc = .ok (.ifnonnull off, 3)) (kk : zZ k G N w (pc + 3) lv st) : zZ k G N w pc lv (.null :: st) := by
  obtain ⟨p, l, e, R, s, m, args, below, meth, c0, Q, A, nL, cells, slots⟩ := k
  exact fun H locs ls hP hS hl => lv_ifnonnullN ok.1 ok.2.1 d (kk H locs ls hP hS hl)
theorem z_aload_nN (ok : zOk k G N cc own fr lo) {q : Fin 4} (d : decode cc pc = .ok (.aload_n q, 1)) (t : Nat) (h : lv[t]? = some (q.val, .null)) (kk : zZ k G N w (pc + 1) lv (.null :: st)) : zZ k G N w pc lv st := by
  obtain ⟨p, l, e, R, s, m, args, below, meth, c0, Q, A, nL, cells, slots⟩ := k
  exact fun H locs ls hP hS hl => lv_aload_nN ok.1 ok.2.1 d rfl (lv_at hl t h) (kk H locs ls hP hS hl)
theorem z_astore_nN (ok : zOk k G N cc own fr lo) {q : Fin 4} (d : decode cc pc = .ok (.astore_n q, 1)) (hi : zIn k q.val) (h : (q.val, Value.null) :: lv.filter (fun z => !(z.1 == q.val) && !(z.1 + 1 == q.val && z.2.category == 2)) = lv') (kk : zZ k G N w (pc + 1) lv' st) : zZ k G N w pc lv (.null :: st) := by
  obtain ⟨p, l, e, R, s, m, args, below, meth, c0, Q, A, nL, cells, slots⟩ := k
  exact fun H locs ls hP hS hl => lv_astore_nN ok.1 ok.2.1 d rfl hl hi h (fun ls' hl' => kk H locs ls' hP hS hl')
theorem zEndV.old {ret : Option FieldType} {r : Option Value} (h : zEndV k G N ret r u) : zOld k G N := by
  obtain ⟨p, l, e, R, s, m, args, below, meth, c0, Q, A, nL, cells, slots⟩ := k
  intro q _ hq
  rw [h.2.1] at hq
  exact hq
end ZV
end
section
def d_J6_compare_7cf53 (w : xW) (a0 : Int32) (a1 : Int32) : Int32 :=
  if a1 ≤ a0 then (if a0 = a1 then (0)
  else (1))
  else ((-1))
set_option maxRecDepth 100000 in
set_option maxHeartbeats 4000000 in
theorem c_J6_compare_7cf53 (G : zG) (N : Nat) (hN : 47 ≤ N) (hg : zGeo G N) (w : xW) (a0 : Int32) (a1 : Int32) : zM yJ6_compare_7cf53 cJ6_compare_7cf53 2 (some .int) 0 0 G N [.int a0, .int a1] w (some (d_J6_compare_7cf53 w a0 a1)) w := by
  generalize hT : d_J6_compare_7cf53 w a0 a1 = r
  unfold d_J6_compare_7cf53 at hT
  refine zM_of zy_J6_compare_7cf53.2.2.2.2.2.2 hg ⟨Nat.le_of_ble_eq_true rfl, by decide⟩ rfl (fun k ok hE hI => ?_)
  have old := hE.old
  refine z_iload_n ok dJ6_compare_7cf53_0 0 rfl ?_
  refine z_iload_n ok dJ6_compare_7cf53_1 1 rfl ?_
  refine z_icmp_ge ok dJ6_compare_7cf53_2 9 (by decide) (fun c1 => ?_) (fun c1 => ?_)
  · rw [if_pos c1] at hT
    refine z_iload_n ok dJ6_compare_7cf53_9 0 rfl ?_
    refine z_iload_n ok dJ6_compare_7cf53_10 1 rfl ?_
    refine z_icmp_ne ok dJ6_compare_7cf53_11 18 (by decide) (fun c2 => ?_) (fun c2 => ?_)
    · rw [if_neg c2] at hT
      refine z_iconst ok dJ6_compare_7cf53_18 (x := 1) (by decide) ?_
      exact z_iret ok hE dJ6_compare_7cf53_19 rfl ⟨hT, rfl⟩
    · rw [if_pos c2] at hT
      refine z_iconst ok dJ6_compare_7cf53_14 (x := 0) (by decide) ?_
      refine z_goto ok dJ6_compare_7cf53_15 19 (by decide) ?_
      exact z_iret ok hE dJ6_compare_7cf53_19 rfl ⟨hT, rfl⟩
  · rw [if_neg c1] at hT
    refine z_iconst ok dJ6_compare_7cf53_5 (x := (-1)) (by decide) ?_
    refine z_goto ok dJ6_compare_7cf53_6 19 (by decide) ?_
    exact z_iret ok hE dJ6_compare_7cf53_19 rfl ⟨hT, rfl⟩

def d_X2_isCell (w : xW) (c : Int32) : Int32 :=
  if c < 0 then (0)
  else (if 36 ≤ c then (0)
  else (1))
set_option maxRecDepth 100000 in
set_option maxHeartbeats 4000000 in
theorem c_X2_isCell (G : zG) (N : Nat) (hN : 47 ≤ N) (hg : zGeo G N) (w : xW) (c : Int32) : zM yX2_isCell cX2_isCell 1 (some .boolean) 0 0 G N [.int c] w (some (d_X2_isCell w c)) w := by
  generalize hT : d_X2_isCell w c = r
  unfold d_X2_isCell at hT
  refine zM_of zy_X2_isCell.2.2.2.2.2.2 hg ⟨Nat.le_of_ble_eq_true rfl, by decide⟩ rfl (fun k ok hE hI => ?_)
  have old := hE.old
  refine z_iload_n ok dX2_isCell_0 0 rfl ?_
  refine z_if_lt ok dX2_isCell_1 14 (by decide) (fun c1 => ?_) (fun c1 => ?_)
  · rw [if_pos c1] at hT
    refine z_iconst ok dX2_isCell_14 (x := 0) (by decide) ?_
    exact z_iret ok hE dX2_isCell_15 rfl ⟨hT, rfl⟩
  · rw [if_neg c1] at hT
    refine z_iload_n ok dX2_isCell_4 0 rfl ?_
    refine z_bipush ok dX2_isCell_5 (x := 36) (by decide) ?_
    refine z_icmp_ge ok dX2_isCell_7 14 (by decide) (fun c2 => ?_) (fun c2 => ?_)
    · rw [if_pos c2] at hT
      refine z_iconst ok dX2_isCell_14 (x := 0) (by decide) ?_
      exact z_iret ok hE dX2_isCell_15 rfl ⟨hT, rfl⟩
    · rw [if_neg c2] at hT
      refine z_iconst ok dX2_isCell_10 (x := 1) (by decide) ?_
      refine z_goto ok dX2_isCell_11 15 (by decide) ?_
      exact z_iret ok hE dX2_isCell_15 rfl ⟨hT, rfl⟩

def d_X0_place (w : xW) (g : Nat) (c : Nat) (side : Int32) (kind : Int32) (spring : Int32) : xW :=
  if (d_X2_isCell w (nI c)) = 0 then (w)
  else (zlet (xs w g (c) side) fun w2 =>
  zlet (xs w2 g (36 + c) kind) fun w3 =>
  zlet (xs w3 g (72 + c) spring) fun w4 =>
  w4)
set_option maxRecDepth 100000 in
set_option maxHeartbeats 4000000 in
theorem c_X0_place (G : zG) (N : Nat) (hN : 47 ≤ N) (hg : zGeo G N) (w : xW) (g : Nat) (h_g : g < 7) (c : Nat) (h_c : c < 36) (side : Int32) (kind : Int32) (spring : Int32) : zM yX0_place cX0_place 5 none 1 20 G N [.ref (zad G (6 + 6 * g)), .int (nI c), .int side, .int kind, .int spring] w none (d_X0_place w g c side kind spring) := by
  generalize hT : d_X0_place w g c side kind spring = u
  unfold d_X0_place at hT
  refine zM_of zy_X0_place.2.2.2.2.2.2.2 hg ⟨Nat.le_of_ble_eq_true rfl, by decide⟩ rfl (fun k ok hE hI => ?_)
  have old := hE.old
  refine z_iload_n ok dX0_place_0 1 rfl ?_
  refine z_callSNi ok old dX0_place_1 [] (c_X2_isCell G N hN hg w (nI c)) zy_X2_isCell zw_157 rfl rfl (by decide) (Nat.le_of_ble_eq_true rfl) ?_
  refine z_if_eq ok dX0_place_4 29 (by decide) (fun c1 => ?_) (fun c1 => ?_)
  · rw [if_pos c1] at hT
    exact z_vret ok hE dX0_place_29 hT
  · rw [if_neg c1] at hT
    refine z_aload_n ok dX0_place_7 0 rfl ?_
    refine z_get_X0_sides ok dX0_place_8 g h_g hN zw_74 ?_
    refine z_iload_n ok dX0_place_11 1 rfl ?_
    refine z_iload_n ok dX0_place_12 2 rfl ?_
    refine z_gst0 ok dX0_place_13 g h_g hN c rfl (by omega) ?_
    replace hT := zlet_open hT
    obtain ⟨w2, hw2, hT⟩ := hT
    rw [← hw2]
    refine z_aload_n ok dX0_place_14 0 rfl ?_
    refine z_get_X0_kinds ok dX0_place_15 g h_g hN zw_75 ?_
    refine z_iload_n ok dX0_place_18 1 rfl ?_
    refine z_iload_n ok dX0_place_19 3 rfl ?_
    refine z_gst1 ok dX0_place_20 g h_g hN c rfl (by omega) ?_
    replace hT := zlet_open hT
    obtain ⟨w3, hw3, hT⟩ := hT
    rw [← hw3]
    refine z_aload_n ok dX0_place_21 0 rfl ?_
    refine z_get_X0_springs ok dX0_place_22 g h_g hN zw_76 ?_
    refine z_iload_n ok dX0_place_25 1 rfl ?_
    refine z_iload ok dX0_place_26 4 rfl ?_
    refine z_gst2 ok dX0_place_28 g h_g hN c rfl (by omega) ?_
    replace hT := zlet_open hT
    obtain ⟨w4, hw4, hT⟩ := hT
    rw [← hw4]
    exact z_vret ok hE dX0_place_29 hT

def d_X0_empty (w : xW) (g : Nat) (c : Nat) : xW :=
  zlet (d_X0_place w g c (-1) 0 0) fun w1 =>
  w1
set_option maxRecDepth 100000 in
set_option maxHeartbeats 4000000 in
theorem c_X0_empty (G : zG) (N : Nat) (hN : 47 ≤ N) (hg : zGeo G N) (w : xW) (g : Nat) (h_g : g < 7) (c : Nat) (h_c : c < 36) : zM yX0_empty cX0_empty 2 none 2 44 G N [.ref (zad G (6 + 6 * g)), .int (nI c)] w none (d_X0_empty w g c) := by
  generalize hT : d_X0_empty w g c = u
  unfold d_X0_empty at hT
  refine zM_of zy_X0_empty.2.2.2.2.2.2.2 hg ⟨Nat.le_of_ble_eq_true rfl, by decide⟩ rfl (fun k ok hE hI => ?_)
  have old := hE.old
  refine z_aload_n ok dX0_empty_0 0 rfl ?_
  refine z_iload_n ok dX0_empty_1 1 rfl ?_
  refine z_iconst ok dX0_empty_2 (x := (-1)) (by decide) ?_
  refine z_iconst ok dX0_empty_3 (x := 0) (by decide) ?_
  refine z_iconst ok dX0_empty_4 (x := 0) (by decide) ?_
  refine z_callVv ok old dX0_empty_5 [] (c_X0_place G N hN hg w g h_g c (by omega) (-1) 0 0) zy_X0_place zw_153 (6 + 6 * g) (zg_lt' hN h_g) (zE_board G w h_g) rfl rfl rfl rfl rfl (by decide) (Nat.le_of_ble_eq_true rfl) ?_
  replace hT := zlet_open hT
  obtain ⟨w1, hw1, hT⟩ := hT
  rw [← hw1]
  exact z_vret ok hE dX0_empty_8 hT

def d_X0_changeSpring (w : xW) (g : Nat) (c : Nat) (spring : Int32) : xW :=
  if (d_X2_isCell w (nI c)) = 0 then (w)
  else (zlet (xs w g (72 + c) spring) fun w2 =>
  w2)
set_option maxRecDepth 100000 in
set_option maxHeartbeats 4000000 in
theorem c_X0_changeSpring (G : zG) (N : Nat) (hN : 47 ≤ N) (hg : zGeo G N) (w : xW) (g : Nat) (h_g : g < 7) (c : Nat) (h_c : c < 36) (spring : Int32) : zM yX0_changeSpring cX0_changeSpring 3 none 1 20 G N [.ref (zad G (6 + 6 * g)), .int (nI c), .int spring] w none (d_X0_changeSpring w g c spring) := by
  generalize hT : d_X0_changeSpring w g c spring = u
  unfold d_X0_changeSpring at hT
  refine zM_of zy_X0_changeSpring.2.2.2.2.2.2.2 hg ⟨Nat.le_of_ble_eq_true rfl, by decide⟩ rfl (fun k ok hE hI => ?_)
  have old := hE.old
  refine z_iload_n ok dX0_changeSpring_0 1 rfl ?_
  refine z_callSNi ok old dX0_changeSpring_1 [] (c_X2_isCell G N hN hg w (nI c)) zy_X2_isCell zw_157 rfl rfl (by decide) (Nat.le_of_ble_eq_true rfl) ?_
  refine z_if_eq ok dX0_changeSpring_4 14 (by decide) (fun c1 => ?_) (fun c1 => ?_)
  · rw [if_pos c1] at hT
    exact z_vret ok hE dX0_changeSpring_14 hT
  · rw [if_neg c1] at hT
    refine z_aload_n ok dX0_changeSpring_7 0 rfl ?_
    refine z_get_X0_springs ok dX0_changeSpring_8 g h_g hN zw_76 ?_
    refine z_iload_n ok dX0_changeSpring_11 1 rfl ?_
    refine z_iload_n ok dX0_changeSpring_12 2 rfl ?_
    refine z_gst2 ok dX0_changeSpring_13 g h_g hN c rfl (by omega) ?_
    replace hT := zlet_open hT
    obtain ⟨w2, hw2, hT⟩ := hT
    rw [← hw2]
    exact z_vret ok hE dX0_changeSpring_14 hT

def d_X0_markTower (w : xW) (g : Nat) (c : Nat) (b : Int32) : xW :=
  if (d_X2_isCell w (nI c)) = 0 then (w)
  else (if b = 0 then (zlet (xs w g (108 + c) 0) fun w3 =>
  w3)
  else (zlet (xs w g (108 + c) 1) fun w4 =>
  w4))
set_option maxRecDepth 100000 in
set_option maxHeartbeats 4000000 in
theorem c_X0_markTower (G : zG) (N : Nat) (hN : 47 ≤ N) (hg : zGeo G N) (w : xW) (g : Nat) (h_g : g < 7) (c : Nat) (h_c : c < 36) (b : Int32) : zM yX0_markTower cX0_markTower 3 none 1 20 G N [.ref (zad G (6 + 6 * g)), .int (nI c), .int b] w none (d_X0_markTower w g c b) := by
  generalize hT : d_X0_markTower w g c b = u
  unfold d_X0_markTower at hT
  refine zM_of zy_X0_markTower.2.2.2.2.2.2.2 hg ⟨Nat.le_of_ble_eq_true rfl, by decide⟩ rfl (fun k ok hE hI => ?_)
  have old := hE.old
  refine z_iload_n ok dX0_markTower_0 1 rfl ?_
  refine z_callSNi ok old dX0_markTower_1 [] (c_X2_isCell G N hN hg w (nI c)) zy_X2_isCell zw_157 rfl rfl (by decide) (Nat.le_of_ble_eq_true rfl) ?_
  refine z_if_eq ok dX0_markTower_4 22 (by decide) (fun c1 => ?_) (fun c1 => ?_)
  · rw [if_pos c1] at hT
    exact z_vret ok hE dX0_markTower_22 hT
  · rw [if_neg c1] at hT
    refine z_aload_n ok dX0_markTower_7 0 rfl ?_
    refine z_get_X0_towers ok dX0_markTower_8 g h_g hN zw_77 ?_
    refine z_iload_n ok dX0_markTower_11 1 rfl ?_
    refine z_iload_n ok dX0_markTower_12 2 rfl ?_
    refine z_if_eq ok dX0_markTower_13 20 (by decide) (fun c2 => ?_) (fun c2 => ?_)
    · rw [if_pos c2] at hT
      refine z_iconst ok dX0_markTower_20 (x := 0) (by decide) ?_
      refine z_gst3 ok dX0_markTower_21 g h_g hN c rfl (by omega) ?_
      replace hT := zlet_open hT
      obtain ⟨w3, hw3, hT⟩ := hT
      rw [← hw3]
      exact z_vret ok hE dX0_markTower_22 hT
    · rw [if_neg c2] at hT
      refine z_iconst ok dX0_markTower_16 (x := 1) (by decide) ?_
      refine z_goto ok dX0_markTower_17 21 (by decide) ?_
      refine z_gst3 ok dX0_markTower_21 g h_g hN c rfl (by omega) ?_
      replace hT := zlet_open hT
      obtain ⟨w4, hw4, hT⟩ := hT
      rw [← hw4]
      exact z_vret ok hE dX0_markTower_22 hT

def d_X0_sideOn (w : xW) (g : Nat) (c : Nat) : Int32 :=
  if (d_X2_isCell w (nI c)) = 0 then ((-1))
  else ((xg w g c))
set_option maxRecDepth 100000 in
set_option maxHeartbeats 4000000 in
theorem c_X0_sideOn (G : zG) (N : Nat) (hN : 47 ≤ N) (hg : zGeo G N) (w : xW) (g : Nat) (h_g : g < 7) (c : Nat) (h_c : c < 36) : zM yX0_sideOn cX0_sideOn 2 (some .int) 1 20 G N [.ref (zad G (6 + 6 * g)), .int (nI c)] w (some (d_X0_sideOn w g c)) w := by
  generalize hT : d_X0_sideOn w g c = r
  unfold d_X0_sideOn at hT
  refine zM_of zy_X0_sideOn.2.2.2.2.2.2.2 hg ⟨Nat.le_of_ble_eq_true rfl, by decide⟩ rfl (fun k ok hE hI => ?_)
  have old := hE.old
  refine z_iload_n ok dX0_sideOn_0 1 rfl ?_
  refine z_callSNi ok old dX0_sideOn_1 [] (c_X2_isCell G N hN hg w (nI c)) zy_X2_isCell zw_157 rfl rfl (by decide) (Nat.le_of_ble_eq_true rfl) ?_
  refine z_if_eq ok dX0_sideOn_4 16 (by decide) (fun c1 => ?_) (fun c1 => ?_)
  · rw [if_pos c1] at hT
    refine z_iconst ok dX0_sideOn_16 (x := (-1)) (by decide) ?_
    exact z_iret ok hE dX0_sideOn_17 rfl ⟨hT, rfl⟩
  · rw [if_neg c1] at hT
    refine z_aload_n ok dX0_sideOn_7 0 rfl ?_
    refine z_get_X0_sides ok dX0_sideOn_8 g h_g hN zw_74 ?_
    refine z_iload_n ok dX0_sideOn_11 1 rfl ?_
    refine z_gld0 ok dX0_sideOn_12 g h_g hN c rfl (by omega) ?_
    refine z_goto ok dX0_sideOn_13 17 (by decide) ?_
    exact z_iret ok hE dX0_sideOn_17 rfl ⟨hT, rfl⟩

def d_X0_hasPiece (w : xW) (g : Nat) (c : Nat) : Int32 :=
  if (d_X0_sideOn w g c) = (-1) then (0)
  else (1)
set_option maxRecDepth 100000 in
set_option maxHeartbeats 4000000 in
theorem c_X0_hasPiece (G : zG) (N : Nat) (hN : 47 ≤ N) (hg : zGeo G N) (w : xW) (g : Nat) (h_g : g < 7) (c : Nat) (h_c : c < 36) : zM yX0_hasPiece cX0_hasPiece 2 (some .boolean) 2 41 G N [.ref (zad G (6 + 6 * g)), .int (nI c)] w (some (d_X0_hasPiece w g c)) w := by
  generalize hT : d_X0_hasPiece w g c = r
  unfold d_X0_hasPiece at hT
  refine zM_of zy_X0_hasPiece.2.2.2.2.2.2.2 hg ⟨Nat.le_of_ble_eq_true rfl, by decide⟩ rfl (fun k ok hE hI => ?_)
  have old := hE.old
  refine z_aload_n ok dX0_hasPiece_0 0 rfl ?_
  refine z_iload_n ok dX0_hasPiece_1 1 rfl ?_
  refine z_callVi ok old dX0_hasPiece_2 [] (c_X0_sideOn G N hN hg w g h_g c (by omega)) zy_X0_sideOn zw_269 (6 + 6 * g) (zg_lt' hN h_g) (zE_board G w h_g) rfl rfl rfl rfl rfl (by decide) (Nat.le_of_ble_eq_true rfl) ?_
  refine z_iconst ok dX0_hasPiece_5 (x := (-1)) (by decide) ?_
  refine z_icmp_eq ok dX0_hasPiece_6 13 (by decide) (fun c1 => ?_) (fun c1 => ?_)
  · rw [if_pos c1] at hT
    refine z_iconst ok dX0_hasPiece_13 (x := 0) (by decide) ?_
    exact z_iret ok hE dX0_hasPiece_14 rfl ⟨hT, rfl⟩
  · rw [if_neg c1] at hT
    refine z_iconst ok dX0_hasPiece_9 (x := 1) (by decide) ?_
    refine z_goto ok dX0_hasPiece_10 14 (by decide) ?_
    exact z_iret ok hE dX0_hasPiece_14 rfl ⟨hT, rfl⟩

def d_X0_kindOn (w : xW) (g : Nat) (c : Nat) : Int32 :=
  if (d_X2_isCell w (nI c)) = 0 then (0)
  else ((xg w g (36 + c)))
set_option maxRecDepth 100000 in
set_option maxHeartbeats 4000000 in
theorem c_X0_kindOn (G : zG) (N : Nat) (hN : 47 ≤ N) (hg : zGeo G N) (w : xW) (g : Nat) (h_g : g < 7) (c : Nat) (h_c : c < 36) : zM yX0_kindOn cX0_kindOn 2 (some .int) 1 20 G N [.ref (zad G (6 + 6 * g)), .int (nI c)] w (some (d_X0_kindOn w g c)) w := by
  generalize hT : d_X0_kindOn w g c = r
  unfold d_X0_kindOn at hT
  refine zM_of zy_X0_kindOn.2.2.2.2.2.2.2 hg ⟨Nat.le_of_ble_eq_true rfl, by decide⟩ rfl (fun k ok hE hI => ?_)
  have old := hE.old
  refine z_iload_n ok dX0_kindOn_0 1 rfl ?_
  refine z_callSNi ok old dX0_kindOn_1 [] (c_X2_isCell G N hN hg w (nI c)) zy_X2_isCell zw_157 rfl rfl (by decide) (Nat.le_of_ble_eq_true rfl) ?_
  refine z_if_eq ok dX0_kindOn_4 16 (by decide) (fun c1 => ?_) (fun c1 => ?_)
  · rw [if_pos c1] at hT
    refine z_iconst ok dX0_kindOn_16 (x := 0) (by decide) ?_
    exact z_iret ok hE dX0_kindOn_17 rfl ⟨hT, rfl⟩
  · rw [if_neg c1] at hT
    refine z_aload_n ok dX0_kindOn_7 0 rfl ?_
    refine z_get_X0_kinds ok dX0_kindOn_8 g h_g hN zw_75 ?_
    refine z_iload_n ok dX0_kindOn_11 1 rfl ?_
    refine z_gld1 ok dX0_kindOn_12 g h_g hN c rfl (by omega) ?_
    refine z_goto ok dX0_kindOn_13 17 (by decide) ?_
    exact z_iret ok hE dX0_kindOn_17 rfl ⟨hT, rfl⟩

def d_X0_springOn (w : xW) (g : Nat) (c : Nat) : Int32 :=
  if (d_X2_isCell w (nI c)) = 0 then (0)
  else ((xg w g (72 + c)))
set_option maxRecDepth 100000 in
set_option maxHeartbeats 4000000 in
theorem c_X0_springOn (G : zG) (N : Nat) (hN : 47 ≤ N) (hg : zGeo G N) (w : xW) (g : Nat) (h_g : g < 7) (c : Nat) (h_c : c < 36) : zM yX0_springOn cX0_springOn 2 (some .int) 1 20 G N [.ref (zad G (6 + 6 * g)), .int (nI c)] w (some (d_X0_springOn w g c)) w := by
  generalize hT : d_X0_springOn w g c = r
  unfold d_X0_springOn at hT
  refine zM_of zy_X0_springOn.2.2.2.2.2.2.2 hg ⟨Nat.le_of_ble_eq_true rfl, by decide⟩ rfl (fun k ok hE hI => ?_)
  have old := hE.old
  refine z_iload_n ok dX0_springOn_0 1 rfl ?_
  refine z_callSNi ok old dX0_springOn_1 [] (c_X2_isCell G N hN hg w (nI c)) zy_X2_isCell zw_157 rfl rfl (by decide) (Nat.le_of_ble_eq_true rfl) ?_
  refine z_if_eq ok dX0_springOn_4 16 (by decide) (fun c1 => ?_) (fun c1 => ?_)
  · rw [if_pos c1] at hT
    refine z_iconst ok dX0_springOn_16 (x := 0) (by decide) ?_
    exact z_iret ok hE dX0_springOn_17 rfl ⟨hT, rfl⟩
  · rw [if_neg c1] at hT
    refine z_aload_n ok dX0_springOn_7 0 rfl ?_
    refine z_get_X0_springs ok dX0_springOn_8 g h_g hN zw_76 ?_
    refine z_iload_n ok dX0_springOn_11 1 rfl ?_
    refine z_gld2 ok dX0_springOn_12 g h_g hN c rfl (by omega) ?_
    refine z_goto ok dX0_springOn_13 17 (by decide) ?_
    exact z_iret ok hE dX0_springOn_17 rfl ⟨hT, rfl⟩

def d_X0_isTower (w : xW) (g : Nat) (c : Nat) : Int32 :=
  if (d_X2_isCell w (nI c)) = 0 then (0)
  else (if (xg w g (108 + c)) = 1 then (1)
  else (0))
set_option maxRecDepth 100000 in
set_option maxHeartbeats 4000000 in
theorem c_X0_isTower (G : zG) (N : Nat) (hN : 47 ≤ N) (hg : zGeo G N) (w : xW) (g : Nat) (h_g : g < 7) (c : Nat) (h_c : c < 36) : zM yX0_isTower cX0_isTower 2 (some .boolean) 1 20 G N [.ref (zad G (6 + 6 * g)), .int (nI c)] w (some (d_X0_isTower w g c)) w := by
  generalize hT : d_X0_isTower w g c = r
  unfold d_X0_isTower at hT
  refine zM_of zy_X0_isTower.2.2.2.2.2.2.2 hg ⟨Nat.le_of_ble_eq_true rfl, by decide⟩ rfl (fun k ok hE hI => ?_)
  have old := hE.old
  refine z_iload_n ok dX0_isTower_0 1 rfl ?_
  refine z_callSNi ok old dX0_isTower_1 [] (c_X2_isCell G N hN hg w (nI c)) zy_X2_isCell zw_157 rfl rfl (by decide) (Nat.le_of_ble_eq_true rfl) ?_
  refine z_if_eq ok dX0_isTower_4 21 (by decide) (fun c1 => ?_) (fun c1 => ?_)
  · rw [if_pos c1] at hT
    refine z_iconst ok dX0_isTower_21 (x := 0) (by decide) ?_
    exact z_iret ok hE dX0_isTower_22 rfl ⟨hT, rfl⟩
  · rw [if_neg c1] at hT
    refine z_aload_n ok dX0_isTower_7 0 rfl ?_
    refine z_get_X0_towers ok dX0_isTower_8 g h_g hN zw_77 ?_
    refine z_iload_n ok dX0_isTower_11 1 rfl ?_
    refine z_gld3 ok dX0_isTower_12 g h_g hN c rfl (by omega) ?_
    refine z_iconst ok dX0_isTower_13 (x := 1) (by decide) ?_
    refine z_icmp_ne ok dX0_isTower_14 21 (by decide) (fun c2 => ?_) (fun c2 => ?_)
    · rw [if_neg c2] at hT
      refine z_iconst ok dX0_isTower_21 (x := 0) (by decide) ?_
      exact z_iret ok hE dX0_isTower_22 rfl ⟨hT, rfl⟩
    · rw [if_pos c2] at hT
      refine z_iconst ok dX0_isTower_17 (x := 1) (by decide) ?_
      refine z_goto ok dX0_isTower_18 22 (by decide) ?_
      exact z_iret ok hE dX0_isTower_22 rfl ⟨hT, rfl⟩

def d_X0_springsOf_4k  (e1_2 : Int32) (e1_3 : Nat) : Int32 :=
  e1_2
def d_X0_springsOf_4 (w : xW) (g : Nat) (side : Int32) (kt1 : Int32 → Nat → Int32) : Nat → Int32 → Nat → Int32
  | 0, _, _ => default
  | n1 + 1, v1_2, v1_3 => if 36 ≤ v1_3 then (kt1 v1_2 v1_3)
  else (if (xg w g v1_3) = side then (zlet ((v1_2 + (xg w g (72 + v1_3)))) fun x4 =>
  d_X0_springsOf_4 w g side kt1 n1 x4 (v1_3 + 1))
  else (d_X0_springsOf_4 w g side kt1 n1 v1_2 (v1_3 + 1)))
def d_X0_springsOf (w : xW) (g : Nat) (side : Int32) : Int32 :=
  d_X0_springsOf_4 w g side d_X0_springsOf_4k 37 0 0
set_option maxRecDepth 100000 in
set_option maxHeartbeats 4000000 in
theorem c_X0_springsOf (G : zG) (N : Nat) (hN : 47 ≤ N) (hg : zGeo G N) (w : xW) (g : Nat) (h_g : g < 7) (side : Int32) : zM yX0_springsOf cX0_springsOf 4 (some .int) 0 0 G N [.ref (zad G (6 + 6 * g)), .int side] w (some (d_X0_springsOf w g side)) w := by
  generalize hT : d_X0_springsOf w g side = r
  unfold d_X0_springsOf at hT
  refine zM_of zy_X0_springsOf.2.2.2.2.2.2.2 hg ⟨Nat.le_of_ble_eq_true rfl, by decide⟩ rfl (fun k ok hE hI => ?_)
  have old := hE.old
  refine z_iconst ok dX0_springsOf_0 (x := 0) (by decide) ?_
  refine z_istore_n ok dX0_springsOf_1 (hI 2 (by decide)) (lv' := [(2, .int 0), (0, .ref (zad G (6 + 6 * g))), (1, .int side)]) rfl ?_
  refine z_iconst ok dX0_springsOf_2 (x := 0) (by decide) ?_
  refine z_istore_n ok dX0_springsOf_3 (hI 3 (by decide)) (lv' := [(3, .int 0), (2, .int 0), (0, .ref (zad G (6 + 6 * g))), (1, .int side)]) rfl ?_
  refine z_locs [2, 3, 1, 0] (lv' := [(0, .ref (zad G (6 + 6 * g))), (1, .int side), (2, .int 0), (3, .int 0)]) rfl ?_
  obtain ⟨kt1, hkt1⟩ : ∃ z, z = d_X0_springsOf_4k := ⟨_, rfl⟩
  rw [← hkt1] at hT
  have hk1 : ∀ (e1_2 : Int32) (e1_3 : Nat), e1_3 ≤ 36 → kt1 e1_2 e1_3 = r → zZ k G N w 35 [(0, .ref (zad G (6 + 6 * g))), (1, .int side), (2, .int e1_2), (3, .int (nI e1_3))] [] := by
    intro e1_2 e1_3 q1_0 hT1
    rw [hkt1, d_X0_springsOf_4k] at hT1
    refine z_iload_n ok dX0_springsOf_35 2 rfl ?_
    exact z_iret ok hE dX0_springsOf_36 rfl ⟨hT1, rfl⟩
  have hl1 : ∀ (n1 : Nat) (v1_2 : Int32) (v1_3 : Nat), 36 < v1_3 + n1 → v1_3 ≤ 36 → d_X0_springsOf_4 w g side kt1 n1 v1_2 v1_3 = r → zZ k G N w 4 [(0, .ref (zad G (6 + 6 * g))), (1, .int side), (2, .int v1_2), (3, .int (nI v1_3))] [] := by
    intro n1
    induction n1 with
    | zero =>
      intro v1_2 v1_3 q1_0 q1_1
      exact absurd q1_0 (by omega)
    | succ n1 ih1 =>
      intro v1_2 v1_3 q1_0 q1_1 hT1
      rw [d_X0_springsOf_4] at hT1
      refine z_iload_n ok dX0_springsOf_4 3 rfl ?_
      refine z_bipush ok dX0_springsOf_5 (x := 36) (by decide) ?_
      refine z_icmp_ge_n ok dX0_springsOf_7 35 (by decide) v1_3 36 rfl rfl (by omega) (fun c2 => ?_) (fun c2 => ?_)
      · rw [if_pos c2] at hT1
        refine z_locs [0, 1, 2, 3] (lv' := [(0, .ref (zad G (6 + 6 * g))), (1, .int side), (2, .int v1_2), (3, .int (nI v1_3))]) rfl ?_
        exact hk1 v1_2 v1_3 (by omega) hT1
      · rw [if_neg c2] at hT1
        refine z_aload_n ok dX0_springsOf_10 0 rfl ?_
        refine z_get_X0_sides ok dX0_springsOf_11 g h_g hN zw_74 ?_
        refine z_iload_n ok dX0_springsOf_14 3 rfl ?_
        refine z_gld0 ok dX0_springsOf_15 g h_g hN v1_3 rfl (by omega) ?_
        refine z_iload_n ok dX0_springsOf_16 1 rfl ?_
        refine z_icmp_ne ok dX0_springsOf_17 29 (by decide) (fun c3 => ?_) (fun c3 => ?_)
        · rw [if_neg c3] at hT1
          refine z_iinc ok dX0_springsOf_29 (hI 3 (by decide)) 3 rfl (y := (nI (v1_3 + 1))) (z_incn v1_3 1) (lv' := [(3, .int (nI (v1_3 + 1))), (0, .ref (zad G (6 + 6 * g))), (1, .int side), (2, .int v1_2)]) rfl ?_
          refine z_goto ok dX0_springsOf_32 4 (by decide) ?_
          refine z_locs [1, 2, 3, 0] (lv' := [(0, .ref (zad G (6 + 6 * g))), (1, .int side), (2, .int v1_2), (3, .int (nI (v1_3 + 1)))]) rfl ?_
          exact ih1 v1_2 (v1_3 + 1) (by omega) (by omega) hT1
        · rw [if_pos c3] at hT1
          refine z_iload_n ok dX0_springsOf_20 2 rfl ?_
          refine z_aload_n ok dX0_springsOf_21 0 rfl ?_
          refine z_get_X0_springs ok dX0_springsOf_22 g h_g hN zw_76 ?_
          refine z_iload_n ok dX0_springsOf_25 3 rfl ?_
          refine z_gld2 ok dX0_springsOf_26 g h_g hN v1_3 rfl (by omega) ?_
          refine z_iadd ok dX0_springsOf_27 ?_
          replace hT1 := zlet_open hT1
          obtain ⟨x4, hx4, hT1⟩ := hT1
          rw [← hx4]
          refine z_istore_n ok dX0_springsOf_28 (hI 2 (by decide)) (lv' := [(2, .int x4), (0, .ref (zad G (6 + 6 * g))), (1, .int side), (3, .int (nI v1_3))]) rfl ?_
          refine z_iinc ok dX0_springsOf_29 (hI 3 (by decide)) 3 rfl (y := (nI (v1_3 + 1))) (z_incn v1_3 1) (lv' := [(3, .int (nI (v1_3 + 1))), (2, .int x4), (0, .ref (zad G (6 + 6 * g))), (1, .int side)]) rfl ?_
          refine z_goto ok dX0_springsOf_32 4 (by decide) ?_
          refine z_locs [2, 3, 1, 0] (lv' := [(0, .ref (zad G (6 + 6 * g))), (1, .int side), (2, .int x4), (3, .int (nI (v1_3 + 1)))]) rfl ?_
          exact ih1 x4 (v1_3 + 1) (by omega) (by omega) hT1
  exact hl1 37 0 0 (by omega) (by omega) hT

def d_X0_springsInAll (w : xW) (g : Nat) : Int32 :=
  ((d_X0_springsOf w g 0) + (d_X0_springsOf w g 1))
set_option maxRecDepth 100000 in
set_option maxHeartbeats 4000000 in
theorem c_X0_springsInAll (G : zG) (N : Nat) (hN : 47 ≤ N) (hg : zGeo G N) (w : xW) (g : Nat) (h_g : g < 7) : zM yX0_springsInAll cX0_springsInAll 1 (some .int) 1 23 G N [.ref (zad G (6 + 6 * g))] w (some (d_X0_springsInAll w g)) w := by
  generalize hT : d_X0_springsInAll w g = r
  unfold d_X0_springsInAll at hT
  refine zM_of zy_X0_springsInAll.2.2.2.2.2.2.2 hg ⟨Nat.le_of_ble_eq_true rfl, by decide⟩ rfl (fun k ok hE hI => ?_)
  have old := hE.old
  refine z_aload_n ok dX0_springsInAll_0 0 rfl ?_
  refine z_iconst ok dX0_springsInAll_1 (x := 0) (by decide) ?_
  refine z_callVi ok old dX0_springsInAll_2 [] (c_X0_springsOf G N hN hg w g h_g 0) zy_X0_springsOf zw_172 (6 + 6 * g) (zg_lt' hN h_g) (zE_board G w h_g) rfl rfl rfl rfl rfl (by decide) (Nat.le_of_ble_eq_true rfl) ?_
  refine z_aload_n ok dX0_springsInAll_5 0 rfl ?_
  refine z_iconst ok dX0_springsInAll_6 (x := 1) (by decide) ?_
  refine z_callVi ok old dX0_springsInAll_7 [.int (d_X0_springsOf w g 0)] (c_X0_springsOf G N hN hg w g h_g 1) zy_X0_springsOf zw_172 (6 + 6 * g) (zg_lt' hN h_g) (zE_board G w h_g) rfl rfl rfl rfl rfl (by decide) (Nat.le_of_ble_eq_true rfl) ?_
  refine z_iadd ok dX0_springsInAll_10 ?_
  exact z_iret ok hE dX0_springsInAll_11 rfl ⟨hT, rfl⟩

def d_X0_piecesInAll_4k  (e1_1 : Int32) (e1_2 : Nat) : Int32 :=
  e1_1
def d_X0_piecesInAll_4 (w : xW) (g : Nat) (kt1 : Int32 → Nat → Int32) : Nat → Int32 → Nat → Int32
  | 0, _, _ => default
  | n1 + 1, v1_1, v1_2 => if 36 ≤ v1_2 then (kt1 v1_1 v1_2)
  else (if (xg w g v1_2) = (-1) then (d_X0_piecesInAll_4 w g kt1 n1 v1_1 (v1_2 + 1))
  else (d_X0_piecesInAll_4 w g kt1 n1 (v1_1 + 1) (v1_2 + 1)))
def d_X0_piecesInAll (w : xW) (g : Nat) : Int32 :=
  d_X0_piecesInAll_4 w g d_X0_piecesInAll_4k 37 0 0
set_option maxRecDepth 100000 in
set_option maxHeartbeats 4000000 in
theorem c_X0_piecesInAll (G : zG) (N : Nat) (hN : 47 ≤ N) (hg : zGeo G N) (w : xW) (g : Nat) (h_g : g < 7) : zM yX0_piecesInAll cX0_piecesInAll 3 (some .int) 0 0 G N [.ref (zad G (6 + 6 * g))] w (some (d_X0_piecesInAll w g)) w := by
  generalize hT : d_X0_piecesInAll w g = r
  unfold d_X0_piecesInAll at hT
  refine zM_of zy_X0_piecesInAll.2.2.2.2.2.2.2 hg ⟨Nat.le_of_ble_eq_true rfl, by decide⟩ rfl (fun k ok hE hI => ?_)
  have old := hE.old
  refine z_iconst ok dX0_piecesInAll_0 (x := 0) (by decide) ?_
  refine z_istore_n ok dX0_piecesInAll_1 (hI 1 (by decide)) (lv' := [(1, .int 0), (0, .ref (zad G (6 + 6 * g)))]) rfl ?_
  refine z_iconst ok dX0_piecesInAll_2 (x := 0) (by decide) ?_
  refine z_istore_n ok dX0_piecesInAll_3 (hI 2 (by decide)) (lv' := [(2, .int 0), (1, .int 0), (0, .ref (zad G (6 + 6 * g)))]) rfl ?_
  refine z_locs [2, 1, 0] (lv' := [(0, .ref (zad G (6 + 6 * g))), (1, .int 0), (2, .int 0)]) rfl ?_
  obtain ⟨kt1, hkt1⟩ : ∃ z, z = d_X0_piecesInAll_4k := ⟨_, rfl⟩
  rw [← hkt1] at hT
  have hk1 : ∀ (e1_1 : Int32) (e1_2 : Nat), e1_2 ≤ 36 → kt1 e1_1 e1_2 = r → zZ k G N w 29 [(0, .ref (zad G (6 + 6 * g))), (1, .int e1_1), (2, .int (nI e1_2))] [] := by
    intro e1_1 e1_2 q1_0 hT1
    rw [hkt1, d_X0_piecesInAll_4k] at hT1
    refine z_iload_n ok dX0_piecesInAll_29 1 rfl ?_
    exact z_iret ok hE dX0_piecesInAll_30 rfl ⟨hT1, rfl⟩
  have hl1 : ∀ (n1 : Nat) (v1_1 : Int32) (v1_2 : Nat), 36 < v1_2 + n1 → v1_2 ≤ 36 → d_X0_piecesInAll_4 w g kt1 n1 v1_1 v1_2 = r → zZ k G N w 4 [(0, .ref (zad G (6 + 6 * g))), (1, .int v1_1), (2, .int (nI v1_2))] [] := by
    intro n1
    induction n1 with
    | zero =>
      intro v1_1 v1_2 q1_0 q1_1
      exact absurd q1_0 (by omega)
    | succ n1 ih1 =>
      intro v1_1 v1_2 q1_0 q1_1 hT1
      rw [d_X0_piecesInAll_4] at hT1
      refine z_iload_n ok dX0_piecesInAll_4 2 rfl ?_
      refine z_bipush ok dX0_piecesInAll_5 (x := 36) (by decide) ?_
      refine z_icmp_ge_n ok dX0_piecesInAll_7 29 (by decide) v1_2 36 rfl rfl (by omega) (fun c2 => ?_) (fun c2 => ?_)
      · rw [if_pos c2] at hT1
        refine z_locs [0, 1, 2] (lv' := [(0, .ref (zad G (6 + 6 * g))), (1, .int v1_1), (2, .int (nI v1_2))]) rfl ?_
        exact hk1 v1_1 v1_2 (by omega) hT1
      · rw [if_neg c2] at hT1
        refine z_aload_n ok dX0_piecesInAll_10 0 rfl ?_
        refine z_get_X0_sides ok dX0_piecesInAll_11 g h_g hN zw_74 ?_
        refine z_iload_n ok dX0_piecesInAll_14 2 rfl ?_
        refine z_gld0 ok dX0_piecesInAll_15 g h_g hN v1_2 rfl (by omega) ?_
        refine z_iconst ok dX0_piecesInAll_16 (x := (-1)) (by decide) ?_
        refine z_icmp_eq ok dX0_piecesInAll_17 23 (by decide) (fun c3 => ?_) (fun c3 => ?_)
        · rw [if_pos c3] at hT1
          refine z_iinc ok dX0_piecesInAll_23 (hI 2 (by decide)) 2 rfl (y := (nI (v1_2 + 1))) (z_incn v1_2 1) (lv' := [(2, .int (nI (v1_2 + 1))), (0, .ref (zad G (6 + 6 * g))), (1, .int v1_1)]) rfl ?_
          refine z_goto ok dX0_piecesInAll_26 4 (by decide) ?_
          refine z_locs [1, 2, 0] (lv' := [(0, .ref (zad G (6 + 6 * g))), (1, .int v1_1), (2, .int (nI (v1_2 + 1)))]) rfl ?_
          exact ih1 v1_1 (v1_2 + 1) (by omega) (by omega) hT1
        · rw [if_neg c3] at hT1
          refine z_iinc ok dX0_piecesInAll_20 (hI 1 (by decide)) 1 rfl (y := (v1_1 + 1)) rfl (lv' := [(1, .int (v1_1 + 1)), (0, .ref (zad G (6 + 6 * g))), (2, .int (nI v1_2))]) rfl ?_
          refine z_iinc ok dX0_piecesInAll_23 (hI 2 (by decide)) 2 rfl (y := (nI (v1_2 + 1))) (z_incn v1_2 1) (lv' := [(2, .int (nI (v1_2 + 1))), (1, .int (v1_1 + 1)), (0, .ref (zad G (6 + 6 * g)))]) rfl ?_
          refine z_goto ok dX0_piecesInAll_26 4 (by decide) ?_
          refine z_locs [2, 1, 0] (lv' := [(0, .ref (zad G (6 + 6 * g))), (1, .int (v1_1 + 1)), (2, .int (nI (v1_2 + 1)))]) rfl ?_
          exact ih1 (v1_1 + 1) (v1_2 + 1) (by omega) (by omega) hT1
  exact hl1 37 0 0 (by omega) (by omega) hT

def d_X0_towersInAll_4k  (e1_1 : Int32) (e1_2 : Nat) : Int32 :=
  e1_1
def d_X0_towersInAll_4 (w : xW) (g : Nat) (kt1 : Int32 → Nat → Int32) : Nat → Int32 → Nat → Int32
  | 0, _, _ => default
  | n1 + 1, v1_1, v1_2 => if 36 ≤ v1_2 then (kt1 v1_1 v1_2)
  else (zlet ((v1_1 + (xg w g (108 + v1_2)))) fun x3 =>
  d_X0_towersInAll_4 w g kt1 n1 x3 (v1_2 + 1))
def d_X0_towersInAll (w : xW) (g : Nat) : Int32 :=
  d_X0_towersInAll_4 w g d_X0_towersInAll_4k 37 0 0
set_option maxRecDepth 100000 in
set_option maxHeartbeats 4000000 in
theorem c_X0_towersInAll (G : zG) (N : Nat) (hN : 47 ≤ N) (hg : zGeo G N) (w : xW) (g : Nat) (h_g : g < 7) : zM yX0_towersInAll cX0_towersInAll 3 (some .int) 0 0 G N [.ref (zad G (6 + 6 * g))] w (some (d_X0_towersInAll w g)) w := by
  generalize hT : d_X0_towersInAll w g = r
  unfold d_X0_towersInAll at hT
  refine zM_of zy_X0_towersInAll.2.2.2.2.2.2.2 hg ⟨Nat.le_of_ble_eq_true rfl, by decide⟩ rfl (fun k ok hE hI => ?_)
  have old := hE.old
  refine z_iconst ok dX0_towersInAll_0 (x := 0) (by decide) ?_
  refine z_istore_n ok dX0_towersInAll_1 (hI 1 (by decide)) (lv' := [(1, .int 0), (0, .ref (zad G (6 + 6 * g)))]) rfl ?_
  refine z_iconst ok dX0_towersInAll_2 (x := 0) (by decide) ?_
  refine z_istore_n ok dX0_towersInAll_3 (hI 2 (by decide)) (lv' := [(2, .int 0), (1, .int 0), (0, .ref (zad G (6 + 6 * g)))]) rfl ?_
  refine z_locs [2, 1, 0] (lv' := [(0, .ref (zad G (6 + 6 * g))), (1, .int 0), (2, .int 0)]) rfl ?_
  obtain ⟨kt1, hkt1⟩ : ∃ z, z = d_X0_towersInAll_4k := ⟨_, rfl⟩
  rw [← hkt1] at hT
  have hk1 : ∀ (e1_1 : Int32) (e1_2 : Nat), e1_2 ≤ 36 → kt1 e1_1 e1_2 = r → zZ k G N w 25 [(0, .ref (zad G (6 + 6 * g))), (1, .int e1_1), (2, .int (nI e1_2))] [] := by
    intro e1_1 e1_2 q1_0 hT1
    rw [hkt1, d_X0_towersInAll_4k] at hT1
    refine z_iload_n ok dX0_towersInAll_25 1 rfl ?_
    exact z_iret ok hE dX0_towersInAll_26 rfl ⟨hT1, rfl⟩
  have hl1 : ∀ (n1 : Nat) (v1_1 : Int32) (v1_2 : Nat), 36 < v1_2 + n1 → v1_2 ≤ 36 → d_X0_towersInAll_4 w g kt1 n1 v1_1 v1_2 = r → zZ k G N w 4 [(0, .ref (zad G (6 + 6 * g))), (1, .int v1_1), (2, .int (nI v1_2))] [] := by
    intro n1
    induction n1 with
    | zero =>
      intro v1_1 v1_2 q1_0 q1_1
      exact absurd q1_0 (by omega)
    | succ n1 ih1 =>
      intro v1_1 v1_2 q1_0 q1_1 hT1
      rw [d_X0_towersInAll_4] at hT1
      refine z_iload_n ok dX0_towersInAll_4 2 rfl ?_
      refine z_bipush ok dX0_towersInAll_5 (x := 36) (by decide) ?_
      refine z_icmp_ge_n ok dX0_towersInAll_7 25 (by decide) v1_2 36 rfl rfl (by omega) (fun c2 => ?_) (fun c2 => ?_)
      · rw [if_pos c2] at hT1
        refine z_locs [0, 1, 2] (lv' := [(0, .ref (zad G (6 + 6 * g))), (1, .int v1_1), (2, .int (nI v1_2))]) rfl ?_
        exact hk1 v1_1 v1_2 (by omega) hT1
      · rw [if_neg c2] at hT1
        refine z_iload_n ok dX0_towersInAll_10 1 rfl ?_
        refine z_aload_n ok dX0_towersInAll_11 0 rfl ?_
        refine z_get_X0_towers ok dX0_towersInAll_12 g h_g hN zw_77 ?_
        refine z_iload_n ok dX0_towersInAll_15 2 rfl ?_
        refine z_gld3 ok dX0_towersInAll_16 g h_g hN v1_2 rfl (by omega) ?_
        refine z_iadd ok dX0_towersInAll_17 ?_
        replace hT1 := zlet_open hT1
        obtain ⟨x3, hx3, hT1⟩ := hT1
        rw [← hx3]
        refine z_istore_n ok dX0_towersInAll_18 (hI 1 (by decide)) (lv' := [(1, .int x3), (0, .ref (zad G (6 + 6 * g))), (2, .int (nI v1_2))]) rfl ?_
        refine z_iinc ok dX0_towersInAll_19 (hI 2 (by decide)) 2 rfl (y := (nI (v1_2 + 1))) (z_incn v1_2 1) (lv' := [(2, .int (nI (v1_2 + 1))), (1, .int x3), (0, .ref (zad G (6 + 6 * g)))]) rfl ?_
        refine z_goto ok dX0_towersInAll_22 4 (by decide) ?_
        refine z_locs [2, 1, 0] (lv' := [(0, .ref (zad G (6 + 6 * g))), (1, .int x3), (2, .int (nI (v1_2 + 1)))]) rfl ?_
        exact ih1 x3 (v1_2 + 1) (by omega) (by omega) hT1
  exact hl1 37 0 0 (by omega) (by omega) hT

def d_X0_priceAlong_32k (x1 : Int32) (e3_6 : Nat) : Int32 :=
  x1
def d_X0_priceAlong_32 (w : xW) (g : Nat) (f : Nat) (x1 : Int32) (x2 : Int32) (kt3 : Nat → Int32) : Nat → Nat → Int32
  | 0, _ => default
  | n3 + 1, v3_6 => if x1 ≤ (nI v3_6) then (kt3 v3_6)
  else (zlet (((nI f) + ((nI v3_6) * x2))) fun x5 =>
  if x5 < 0 then (0)
  else (if 36 ≤ x5 then (0)
  else (if (xg w g x5.toNatClampNeg) = (-1) then (d_X0_priceAlong_32 w g f x1 x2 kt3 n3 (v3_6 + 1))
  else (0))))
def d_X0_priceAlong (w : xW) (g : Nat) (f : Nat) (right : Int32) (up : Int32) : Int32 :=
  zlet ((if (if 0 ≤ right then right else 0 - right) < (if 0 ≤ up then up else 0 - up) then (if 0 ≤ up then up else 0 - up) else (if 0 ≤ right then right else 0 - right))) fun x1 =>
  zlet (((6 * (d_J6_compare_7cf53 w up 0)) + (d_J6_compare_7cf53 w right 0))) fun x2 =>
  d_X0_priceAlong_32 w g f x1 x2 (d_X0_priceAlong_32k x1) 7 1
set_option maxRecDepth 100000 in
set_option maxHeartbeats 4000000 in
theorem c_X0_priceAlong (G : zG) (N : Nat) (hN : 47 ≤ N) (hg : zGeo G N) (w : xW) (g : Nat) (h_g : g < 7) (f : Nat) (h_f : f < 36) (right : Int32) (up : Int32) (h_r : -6 < right.toInt ∧ right.toInt < 6) (h_u : -6 < up.toInt ∧ up.toInt < 6) : zM yX0_priceAlong cX0_priceAlong 8 (some .int) 1 21 G N [.ref (zad G (6 + 6 * g)), .int (nI f), .int right, .int up] w (some (d_X0_priceAlong w g f right up)) w := by
  generalize hT : d_X0_priceAlong w g f right up = r
  unfold d_X0_priceAlong at hT
  refine zM_of zy_X0_priceAlong.2.2.2.2.2.2.2 hg ⟨Nat.le_of_ble_eq_true rfl, by decide⟩ rfl (fun k ok hE hI => ?_)
  have old := hE.old
  refine z_iload_n ok dX0_priceAlong_0 2 rfl ?_
  refine z_abs ok dX0_priceAlong_1 zw_327 zw_328 zw_52 zw_329 ⟨by decide, Nat.le_of_ble_eq_true rfl⟩ ?_
  refine z_iload_n ok dX0_priceAlong_4 3 rfl ?_
  refine z_abs ok dX0_priceAlong_5 zw_327 zw_328 zw_52 zw_329 ⟨by decide, Nat.le_of_ble_eq_true rfl⟩ ?_
  refine z_max ok dX0_priceAlong_8 zw_334 zw_335 zw_52 zw_336 ⟨by decide, Nat.le_of_ble_eq_true rfl⟩ ?_
  replace hT := zlet_open hT
  obtain ⟨x1, hx1, hT⟩ := hT
  rw [← hx1]
  refine z_istore ok dX0_priceAlong_11 (hI 4 (by decide)) (lv' := [(4, .int x1), (0, .ref (zad G (6 + 6 * g))), (1, .int (nI f)), (2, .int right), (3, .int up)]) rfl ?_
  have hst := zmax5 h_r h_u hx1
  refine z_bipush ok dX0_priceAlong_13 (x := 6) (by decide) ?_
  refine z_iload_n ok dX0_priceAlong_15 4 rfl ?_
  refine z_iconst ok dX0_priceAlong_16 (x := 0) (by decide) ?_
  refine z_callSi ok old dX0_priceAlong_17 [.int 6] (c_J6_compare_7cf53 G N hN hg w up 0) zy_J6_compare_7cf53 zw_341 rfl rfl (by decide) (Nat.le_of_ble_eq_true rfl) ?_
  refine z_imul ok dX0_priceAlong_20 ?_
  refine z_iload_n ok dX0_priceAlong_21 3 rfl ?_
  refine z_iconst ok dX0_priceAlong_22 (x := 0) (by decide) ?_
  refine z_callSi ok old dX0_priceAlong_23 [.int (6 * (d_J6_compare_7cf53 w up 0))] (c_J6_compare_7cf53 G N hN hg w right 0) zy_J6_compare_7cf53 zw_341 rfl rfl (by decide) (Nat.le_of_ble_eq_true rfl) ?_
  refine z_iadd ok dX0_priceAlong_26 ?_
  replace hT := zlet_open hT
  obtain ⟨x2, hx2, hT⟩ := hT
  rw [← hx2]
  refine z_istore ok dX0_priceAlong_27 (hI 5 (by decide)) (lv' := [(5, .int x2), (4, .int x1), (0, .ref (zad G (6 + 6 * g))), (1, .int (nI f)), (2, .int right), (3, .int up)]) rfl ?_
  refine z_iconst ok dX0_priceAlong_29 (x := 1) (by decide) ?_
  refine z_istore ok dX0_priceAlong_30 (hI 6 (by decide)) (lv' := [(6, .int 1), (5, .int x2), (4, .int x1), (0, .ref (zad G (6 + 6 * g))), (1, .int (nI f)), (2, .int right), (3, .int up)]) rfl ?_
  refine z_locs [3, 4, 5, 6, 2, 1, 0] (lv' := [(0, .ref (zad G (6 + 6 * g))), (1, .int (nI f)), (2, .int right), (3, .int up), (4, .int x1), (5, .int x2), (6, .int 1)]) rfl ?_
  obtain ⟨kt3, hkt3⟩ : ∃ z, z = (d_X0_priceAlong_32k x1) := ⟨_, rfl⟩
  rw [← hkt3] at hT
  have hk3 : ∀ (e3_6 : Nat), e3_6 ≤ 6 → kt3 e3_6 = r → zZ k G N w 79 [(0, .ref (zad G (6 + 6 * g))), (1, .int (nI f)), (2, .int right), (3, .int up), (4, .int x1), (5, .int x2), (6, .int (nI e3_6))] [] := by
    intro e3_6 q3_0 hT3
    rw [hkt3, d_X0_priceAlong_32k] at hT3
    refine z_iload ok dX0_priceAlong_79 4 rfl ?_
    exact z_iret ok hE dX0_priceAlong_81 rfl ⟨hT3, rfl⟩
  have hl3 : ∀ (n3 : Nat) (v3_6 : Nat), 6 < v3_6 + n3 → v3_6 ≤ 6 → d_X0_priceAlong_32 w g f x1 x2 kt3 n3 v3_6 = r → zZ k G N w 32 [(0, .ref (zad G (6 + 6 * g))), (1, .int (nI f)), (2, .int right), (3, .int up), (4, .int x1), (5, .int x2), (6, .int (nI v3_6))] [] := by
    intro n3
    induction n3 with
    | zero =>
      intro v3_6 q3_0 q3_1
      exact absurd q3_0 (by omega)
    | succ n3 ih3 =>
      intro v3_6 q3_0 q3_1 hT3
      rw [d_X0_priceAlong_32] at hT3
      refine z_iload ok dX0_priceAlong_32 6 rfl ?_
      refine z_iload ok dX0_priceAlong_34 4 rfl ?_
      refine z_icmp_ge ok dX0_priceAlong_36 79 (by decide) (fun c4 => ?_) (fun c4 => ?_)
      · rw [if_pos c4] at hT3
        refine z_locs [0, 1, 2, 3, 4, 5, 6] (lv' := [(0, .ref (zad G (6 + 6 * g))), (1, .int (nI f)), (2, .int right), (3, .int up), (4, .int x1), (5, .int x2), (6, .int (nI v3_6))]) rfl ?_
        exact hk3 v3_6 (by omega) hT3
      · rw [if_neg c4] at hT3
        have hdn := zsteps_lt (d := v3_6) (by assumption) hst (by omega)
        refine z_iload_n ok dX0_priceAlong_39 1 rfl ?_
        refine z_iload ok dX0_priceAlong_40 6 rfl ?_
        refine z_iload ok dX0_priceAlong_42 5 rfl ?_
        refine z_imul ok dX0_priceAlong_44 ?_
        refine z_iadd ok dX0_priceAlong_45 ?_
        replace hT3 := zlet_open hT3
        obtain ⟨x5, hx5, hT3⟩ := hT3
        rw [← hx5]
        refine z_istore ok dX0_priceAlong_46 (hI 7 (by decide)) (lv' := [(7, .int x5), (0, .ref (zad G (6 + 6 * g))), (1, .int (nI f)), (2, .int right), (3, .int up), (4, .int x1), (5, .int x2), (6, .int (nI v3_6))]) rfl ?_
        refine z_iload ok dX0_priceAlong_48 0 rfl ?_
        refine z_if_lt ok dX0_priceAlong_50 71 (by decide) (fun c6 => ?_) (fun c6 => ?_)
        · rw [if_pos c6] at hT3
          refine z_iconst ok dX0_priceAlong_71 (x := 0) (by decide) ?_
          exact z_iret ok hE dX0_priceAlong_72 rfl ⟨hT3, rfl⟩
        · rw [if_neg c6] at hT3
          refine z_iload ok dX0_priceAlong_53 0 rfl ?_
          refine z_bipush ok dX0_priceAlong_55 (x := 36) (by decide) ?_
          refine z_icmp_ge ok dX0_priceAlong_57 71 (by decide) (fun c7 => ?_) (fun c7 => ?_)
          · rw [if_pos c7] at hT3
            refine z_iconst ok dX0_priceAlong_71 (x := 0) (by decide) ?_
            exact z_iret ok hE dX0_priceAlong_72 rfl ⟨hT3, rfl⟩
          · rw [if_neg c7] at hT3
            refine z_aload_n ok dX0_priceAlong_60 1 rfl ?_
            refine z_get_X0_sides ok dX0_priceAlong_61 g h_g hN zw_74 ?_
            refine z_iload ok dX0_priceAlong_64 0 rfl ?_
            refine z_gld0 ok dX0_priceAlong_66 g h_g hN x5.toNatClampNeg (zidx (by assumption) (by assumption)).1 (zidx (by assumption) (by assumption)).2 ?_
            refine z_iconst ok dX0_priceAlong_67 (x := (-1)) (by decide) ?_
            refine z_icmp_eq ok dX0_priceAlong_68 73 (by decide) (fun c8 => ?_) (fun c8 => ?_)
            · rw [if_pos c8] at hT3
              refine z_iinc ok dX0_priceAlong_73 (hI 6 (by decide)) 7 rfl (y := (nI (v3_6 + 1))) (z_incn v3_6 1) (lv' := [(6, .int (nI (v3_6 + 1))), (7, .int x5), (0, .ref (zad G (6 + 6 * g))), (1, .int (nI f)), (2, .int right), (3, .int up), (4, .int x1), (5, .int x2)]) rfl ?_
              refine z_goto ok dX0_priceAlong_76 32 (by decide) ?_
              refine z_locs [2, 3, 4, 5, 6, 7, 0] (lv' := [(0, .ref (zad G (6 + 6 * g))), (1, .int (nI f)), (2, .int right), (3, .int up), (4, .int x1), (5, .int x2), (6, .int (nI (v3_6 + 1)))]) rfl ?_
              exact ih3 (v3_6 + 1) (by omega) (by omega) hT3
            · rw [if_neg c8] at hT3
              refine z_iconst ok dX0_priceAlong_71 (x := 0) (by decide) ?_
              exact z_iret ok hE dX0_priceAlong_72 rfl ⟨hT3, rfl⟩
  exact hl3 7 1 (by omega) (by omega) hT

def d_X0_price (w : xW) (g : Nat) (f : Nat) (t : Nat) : Int32 :=
  zlet ((d_X0_sideOn w g f)) fun x1 =>
  zlet ((d_X0_sideOn w g t)) fun x2 =>
  if x1 = (-1) then (0)
  else (if x2 = x1 then (0)
  else (zlet (((nI (t % 6)) - (nI (f % 6)))) fun x5 =>
  zlet (((nI (t / 6)) - (nI (f / 6)))) fun x6 =>
  zlet ((if 0 ≤ x5 then x5 else 0 - x5)) fun x7 =>
  zlet ((if 0 ≤ x6 then x6 else 0 - x6)) fun x8 =>
  if (d_X0_kindOn w g f) = 0 then (if (if x7 < x8 then x8 else x7) = 1 then (1)
  else (0))
  else (if (d_X0_kindOn w g f) = 1 then (if x7 = 0 then ((d_X0_priceAlong w g f x5 x6))
  else (if x8 = 0 then ((d_X0_priceAlong w g f x5 x6))
  else (0)))
  else (if (d_X0_kindOn w g f) = 2 then (if x7 = x8 then ((d_X0_priceAlong w g f x5 x6))
  else (0))
  else (if (d_X0_kindOn w g f) = 3 then (if (x7 * x8) = 2 then (2)
  else (0))
  else (if x1 = 0 then (if x6 = 1 then (if x2 = (-1) then (if x7 = 0 then (1)
  else (0))
  else (if x7 = 1 then (1)
  else (0)))
  else (0))
  else (if x6 = (-1) then (if x2 = (-1) then (if x7 = 0 then (1)
  else (0))
  else (if x7 = 1 then (1)
  else (0)))
  else (0))))))))
set_option maxRecDepth 100000 in
set_option maxHeartbeats 4000000 in
theorem c_X0_price (G : zG) (N : Nat) (hN : 47 ≤ N) (hg : zGeo G N) (w : xW) (g : Nat) (h_g : g < 7) (f : Nat) (h_f : f < 36) (t : Nat) (h_t : t < 36) : zM yX0_price cX0_price 10 (some .int) 2 48 G N [.ref (zad G (6 + 6 * g)), .int (nI f), .int (nI t)] w (some (d_X0_price w g f t)) w := by
  generalize hT : d_X0_price w g f t = r
  unfold d_X0_price at hT
  refine zM_of zy_X0_price.2.2.2.2.2.2.2 hg ⟨Nat.le_of_ble_eq_true rfl, by decide⟩ rfl (fun k ok hE hI => ?_)
  have old := hE.old
  refine z_aload_n ok dX0_price_0 0 rfl ?_
  refine z_iload_n ok dX0_price_1 1 rfl ?_
  refine z_callVi ok old dX0_price_2 [] (c_X0_sideOn G N hN hg w g h_g f (by omega)) zy_X0_sideOn zw_269 (6 + 6 * g) (zg_lt' hN h_g) (zE_board G w h_g) rfl rfl rfl rfl rfl (by decide) (Nat.le_of_ble_eq_true rfl) ?_
  replace hT := zlet_open hT
  obtain ⟨x1, hx1, hT⟩ := hT
  rw [← hx1]
  refine z_istore_n ok dX0_price_5 (hI 3 (by decide)) (lv' := [(3, .int x1), (0, .ref (zad G (6 + 6 * g))), (1, .int (nI f)), (2, .int (nI t))]) rfl ?_
  refine z_aload_n ok dX0_price_6 1 rfl ?_
  refine z_iload_n ok dX0_price_7 3 rfl ?_
  refine z_callVi ok old dX0_price_8 [] (c_X0_sideOn G N hN hg w g h_g t (by omega)) zy_X0_sideOn zw_269 (6 + 6 * g) (zg_lt' hN h_g) (zE_board G w h_g) rfl rfl rfl rfl rfl (by decide) (Nat.le_of_ble_eq_true rfl) ?_
  replace hT := zlet_open hT
  obtain ⟨x2, hx2, hT⟩ := hT
  rw [← hx2]
  refine z_istore ok dX0_price_11 (hI 4 (by decide)) (lv' := [(4, .int x2), (3, .int x1), (0, .ref (zad G (6 + 6 * g))), (1, .int (nI f)), (2, .int (nI t))]) rfl ?_
  refine z_iload_n ok dX0_price_13 1 rfl ?_
  refine z_iconst ok dX0_price_14 (x := (-1)) (by decide) ?_
  refine z_icmp_eq ok dX0_price_15 24 (by decide) (fun c3 => ?_) (fun c3 => ?_)
  · rw [if_pos c3] at hT
    refine z_iconst ok dX0_price_24 (x := 0) (by decide) ?_
    exact z_iret ok hE dX0_price_25 rfl ⟨hT, rfl⟩
  · rw [if_neg c3] at hT
    refine z_iload ok dX0_price_18 0 rfl ?_
    refine z_iload_n ok dX0_price_20 1 rfl ?_
    refine z_icmp_ne ok dX0_price_21 26 (by decide) (fun c4 => ?_) (fun c4 => ?_)
    · rw [if_neg c4] at hT
      refine z_iload_n ok dX0_price_26 4 rfl ?_
      refine z_bipush ok dX0_price_27 (x := 6) (by decide) ?_
      refine z_irem_n ok dX0_price_29 t 6 rfl rfl (by omega) (by omega) (by omega) ?_
      refine z_iload_n ok dX0_price_30 3 rfl ?_
      refine z_bipush ok dX0_price_31 (x := 6) (by decide) ?_
      refine z_irem_n ok dX0_price_33 f 6 rfl rfl (by omega) (by omega) (by omega) ?_
      refine z_isub ok dX0_price_34 ?_
      replace hT := zlet_open hT
      obtain ⟨x5, hx5, hT⟩ := hT
      rw [← hx5]
      refine z_istore ok dX0_price_35 (hI 5 (by decide)) (lv' := [(5, .int x5), (4, .int x2), (3, .int x1), (0, .ref (zad G (6 + 6 * g))), (1, .int (nI f)), (2, .int (nI t))]) rfl ?_
      refine z_iload_n ok dX0_price_37 5 rfl ?_
      refine z_bipush ok dX0_price_38 (x := 6) (by decide) ?_
      refine z_idiv_n ok dX0_price_40 t 6 rfl rfl (by omega) (by omega) (by omega) ?_
      refine z_iload_n ok dX0_price_41 4 rfl ?_
      refine z_bipush ok dX0_price_42 (x := 6) (by decide) ?_
      refine z_idiv_n ok dX0_price_44 f 6 rfl rfl (by omega) (by omega) (by omega) ?_
      refine z_isub ok dX0_price_45 ?_
      replace hT := zlet_open hT
      obtain ⟨x6, hx6, hT⟩ := hT
      rw [← hx6]
      refine z_istore ok dX0_price_46 (hI 6 (by decide)) (lv' := [(6, .int x6), (5, .int x5), (4, .int x2), (3, .int x1), (0, .ref (zad G (6 + 6 * g))), (1, .int (nI f)), (2, .int (nI t))]) rfl ?_
      refine z_iload ok dX0_price_48 1 rfl ?_
      refine z_abs ok dX0_price_50 zw_327 zw_328 zw_52 zw_329 ⟨by decide, Nat.le_of_ble_eq_true rfl⟩ ?_
      replace hT := zlet_open hT
      obtain ⟨x7, hx7, hT⟩ := hT
      rw [← hx7]
      refine z_istore ok dX0_price_53 (hI 7 (by decide)) (lv' := [(7, .int x7), (6, .int x6), (5, .int x5), (4, .int x2), (3, .int x1), (0, .ref (zad G (6 + 6 * g))), (1, .int (nI f)), (2, .int (nI t))]) rfl ?_
      refine z_iload ok dX0_price_55 1 rfl ?_
      refine z_abs ok dX0_price_57 zw_327 zw_328 zw_52 zw_329 ⟨by decide, Nat.le_of_ble_eq_true rfl⟩ ?_
      replace hT := zlet_open hT
      obtain ⟨x8, hx8, hT⟩ := hT
      rw [← hx8]
      refine z_istore ok dX0_price_60 (hI 8 (by decide)) (lv' := [(8, .int x8), (7, .int x7), (6, .int x6), (5, .int x5), (4, .int x2), (3, .int x1), (0, .ref (zad G (6 + 6 * g))), (1, .int (nI f)), (2, .int (nI t))]) rfl ?_
      refine z_aload_n ok dX0_price_62 6 rfl ?_
      refine z_iload_n ok dX0_price_63 7 rfl ?_
      refine z_callVi ok old dX0_price_64 [] (c_X0_kindOn G N hN hg w g h_g f (by omega)) zy_X0_kindOn zw_330 (6 + 6 * g) (zg_lt' hN h_g) (zE_board G w h_g) rfl rfl rfl rfl rfl (by decide) (Nat.le_of_ble_eq_true rfl) ?_
      by_cases c9 : (d_X0_kindOn w g f) = 0
      · rw [if_pos c9] at hT
        refine z_tableIn ok dX0_price_67 96 29 (by rw [c9]; decide) ?_
        refine z_iload ok dX0_price_96 1 rfl ?_
        refine z_iload ok dX0_price_98 0 rfl ?_
        refine z_max ok dX0_price_100 zw_334 zw_335 zw_52 zw_336 ⟨by decide, Nat.le_of_ble_eq_true rfl⟩ ?_
        refine z_iconst ok dX0_price_103 (x := 1) (by decide) ?_
        refine z_icmp_ne ok dX0_price_104 111 (by decide) (fun c10 => ?_) (fun c10 => ?_)
        · rw [if_neg c10] at hT
          refine z_iconst ok dX0_price_111 (x := 0) (by decide) ?_
          exact z_iret ok hE dX0_price_112 rfl ⟨hT, rfl⟩
        · rw [if_pos c10] at hT
          refine z_iconst ok dX0_price_107 (x := 1) (by decide) ?_
          refine z_goto ok dX0_price_108 112 (by decide) ?_
          exact z_iret ok hE dX0_price_112 rfl ⟨hT, rfl⟩
      · rw [if_neg c9] at hT
        by_cases c11 : (d_X0_kindOn w g f) = 1
        · rw [if_pos c11] at hT
          refine z_tableIn ok dX0_price_67 113 46 (by rw [c11]; decide) ?_
          refine z_iload ok dX0_price_113 1 rfl ?_
          refine z_if_eq ok dX0_price_115 123 (by decide) (fun c12 => ?_) (fun c12 => ?_)
          · rw [if_pos c12] at hT
            refine z_aload_n ok dX0_price_123 6 rfl ?_
            refine z_iload_n ok dX0_price_124 7 rfl ?_
            refine z_iload ok dX0_price_125 3 rfl ?_
            refine z_iload ok dX0_price_127 2 rfl ?_
            refine z_callVi ok old dX0_price_129 [] (c_X0_priceAlong G N hN hg w g h_g f (by omega) x5 x6 (by subst_vars; exact zdiff5 (by omega) (by omega)) (by subst_vars; exact zdiff5 (by omega) (by omega))) zy_X0_priceAlong zw_337 (6 + 6 * g) (zg_lt' hN h_g) (zE_board G w h_g) rfl rfl rfl rfl rfl (by decide) (Nat.le_of_ble_eq_true rfl) ?_
            refine z_goto ok dX0_price_132 136 (by decide) ?_
            exact z_iret ok hE dX0_price_136 rfl ⟨hT, rfl⟩
          · rw [if_neg c12] at hT
            refine z_iload ok dX0_price_118 0 rfl ?_
            refine z_if_ne ok dX0_price_120 135 (by decide) (fun c13 => ?_) (fun c13 => ?_)
            · rw [if_neg c13] at hT
              refine z_iconst ok dX0_price_135 (x := 0) (by decide) ?_
              exact z_iret ok hE dX0_price_136 rfl ⟨hT, rfl⟩
            · rw [if_pos c13] at hT
              refine z_aload_n ok dX0_price_123 6 rfl ?_
              refine z_iload_n ok dX0_price_124 7 rfl ?_
              refine z_iload ok dX0_price_125 3 rfl ?_
              refine z_iload ok dX0_price_127 2 rfl ?_
              refine z_callVi ok old dX0_price_129 [] (c_X0_priceAlong G N hN hg w g h_g f (by omega) x5 x6 (by subst_vars; exact zdiff5 (by omega) (by omega)) (by subst_vars; exact zdiff5 (by omega) (by omega))) zy_X0_priceAlong zw_337 (6 + 6 * g) (zg_lt' hN h_g) (zE_board G w h_g) rfl rfl rfl rfl rfl (by decide) (Nat.le_of_ble_eq_true rfl) ?_
              refine z_goto ok dX0_price_132 136 (by decide) ?_
              exact z_iret ok hE dX0_price_136 rfl ⟨hT, rfl⟩
        · rw [if_neg c11] at hT
          by_cases c14 : (d_X0_kindOn w g f) = 2
          · rw [if_pos c14] at hT
            refine z_tableIn ok dX0_price_67 137 70 (by rw [c14]; decide) ?_
            refine z_iload ok dX0_price_137 1 rfl ?_
            refine z_iload ok dX0_price_139 0 rfl ?_
            refine z_icmp_ne ok dX0_price_141 156 (by decide) (fun c15 => ?_) (fun c15 => ?_)
            · rw [if_neg c15] at hT
              refine z_iconst ok dX0_price_156 (x := 0) (by decide) ?_
              exact z_iret ok hE dX0_price_157 rfl ⟨hT, rfl⟩
            · rw [if_pos c15] at hT
              refine z_aload_n ok dX0_price_144 6 rfl ?_
              refine z_iload_n ok dX0_price_145 7 rfl ?_
              refine z_iload ok dX0_price_146 3 rfl ?_
              refine z_iload ok dX0_price_148 2 rfl ?_
              refine z_callVi ok old dX0_price_150 [] (c_X0_priceAlong G N hN hg w g h_g f (by omega) x5 x6 (by subst_vars; exact zdiff5 (by omega) (by omega)) (by subst_vars; exact zdiff5 (by omega) (by omega))) zy_X0_priceAlong zw_337 (6 + 6 * g) (zg_lt' hN h_g) (zE_board G w h_g) rfl rfl rfl rfl rfl (by decide) (Nat.le_of_ble_eq_true rfl) ?_
              refine z_goto ok dX0_price_153 157 (by decide) ?_
              exact z_iret ok hE dX0_price_157 rfl ⟨hT, rfl⟩
          · rw [if_neg c14] at hT
            by_cases c16 : (d_X0_kindOn w g f) = 3
            · rw [if_pos c16] at hT
              refine z_tableIn ok dX0_price_67 158 91 (by rw [c16]; decide) ?_
              refine z_iload ok dX0_price_158 1 rfl ?_
              refine z_iload ok dX0_price_160 0 rfl ?_
              refine z_imul ok dX0_price_162 ?_
              refine z_iconst ok dX0_price_163 (x := 2) (by decide) ?_
              refine z_icmp_ne ok dX0_price_164 171 (by decide) (fun c17 => ?_) (fun c17 => ?_)
              · rw [if_neg c17] at hT
                refine z_iconst ok dX0_price_171 (x := 0) (by decide) ?_
                exact z_iret ok hE dX0_price_172 rfl ⟨hT, rfl⟩
              · rw [if_pos c17] at hT
                refine z_iconst ok dX0_price_167 (x := 2) (by decide) ?_
                refine z_goto ok dX0_price_168 172 (by decide) ?_
                exact z_iret ok hE dX0_price_172 rfl ⟨hT, rfl⟩
            · rw [if_neg c16] at hT
              refine z_tableOut ok dX0_price_67 173 (ztab_out4 c9 c11 c14 c16) (by decide) ?_
              refine z_iload_n ok dX0_price_173 5 rfl ?_
              refine z_if_ne ok dX0_price_174 181 (by decide) (fun c18 => ?_) (fun c18 => ?_)
              · rw [if_neg c18] at hT
                refine z_iconst ok dX0_price_181 (x := (-1)) (by decide) ?_
                refine z_istore ok dX0_price_182 (hI 9 (by decide)) (lv' := [(9, .int (-1)), (8, .int x8), (7, .int x7), (6, .int x6), (5, .int x5), (4, .int x2), (3, .int x1), (0, .ref (zad G (6 + 6 * g))), (1, .int (nI f)), (2, .int (nI t))]) rfl ?_
                refine z_iload ok dX0_price_184 3 rfl ?_
                refine z_iload ok dX0_price_186 0 rfl ?_
                refine z_icmp_ne ok dX0_price_188 211 (by decide) (fun c19 => ?_) (fun c19 => ?_)
                · rw [if_neg c19] at hT
                  refine z_iconst ok dX0_price_211 (x := 0) (by decide) ?_
                  exact z_iret ok hE dX0_price_212 rfl ⟨hT, rfl⟩
                · rw [if_pos c19] at hT
                  refine z_iload ok dX0_price_191 2 rfl ?_
                  refine z_iload ok dX0_price_193 5 rfl ?_
                  refine z_iconst ok dX0_price_195 (x := (-1)) (by decide) ?_
                  refine z_icmp_ne ok dX0_price_196 203 (by decide) (fun c20 => ?_) (fun c20 => ?_)
                  · rw [if_neg c20] at hT
                    refine z_iconst ok dX0_price_203 (x := 1) (by decide) ?_
                    refine z_icmp_ne ok dX0_price_204 211 (by decide) (fun c21 => ?_) (fun c21 => ?_)
                    · rw [if_neg c21] at hT
                      refine z_iconst ok dX0_price_211 (x := 0) (by decide) ?_
                      exact z_iret ok hE dX0_price_212 rfl ⟨hT, rfl⟩
                    · rw [if_pos c21] at hT
                      refine z_iconst ok dX0_price_207 (x := 1) (by decide) ?_
                      refine z_goto ok dX0_price_208 212 (by decide) ?_
                      exact z_iret ok hE dX0_price_212 rfl ⟨hT, rfl⟩
                  · rw [if_pos c20] at hT
                    refine z_iconst ok dX0_price_199 (x := 0) (by decide) ?_
                    refine z_goto ok dX0_price_200 204 (by decide) ?_
                    refine z_icmp_ne ok dX0_price_204 211 (by decide) (fun c22 => ?_) (fun c22 => ?_)
                    · rw [if_neg c22] at hT
                      refine z_iconst ok dX0_price_211 (x := 0) (by decide) ?_
                      exact z_iret ok hE dX0_price_212 rfl ⟨hT, rfl⟩
                    · rw [if_pos c22] at hT
                      refine z_iconst ok dX0_price_207 (x := 1) (by decide) ?_
                      refine z_goto ok dX0_price_208 212 (by decide) ?_
                      exact z_iret ok hE dX0_price_212 rfl ⟨hT, rfl⟩
              · rw [if_pos c18] at hT
                refine z_iconst ok dX0_price_177 (x := 1) (by decide) ?_
                refine z_goto ok dX0_price_178 182 (by decide) ?_
                refine z_istore ok dX0_price_182 (hI 9 (by decide)) (lv' := [(9, .int 1), (8, .int x8), (7, .int x7), (6, .int x6), (5, .int x5), (4, .int x2), (3, .int x1), (0, .ref (zad G (6 + 6 * g))), (1, .int (nI f)), (2, .int (nI t))]) rfl ?_
                refine z_iload ok dX0_price_184 3 rfl ?_
                refine z_iload ok dX0_price_186 0 rfl ?_
                refine z_icmp_ne ok dX0_price_188 211 (by decide) (fun c23 => ?_) (fun c23 => ?_)
                · rw [if_neg c23] at hT
                  refine z_iconst ok dX0_price_211 (x := 0) (by decide) ?_
                  exact z_iret ok hE dX0_price_212 rfl ⟨hT, rfl⟩
                · rw [if_pos c23] at hT
                  refine z_iload ok dX0_price_191 2 rfl ?_
                  refine z_iload ok dX0_price_193 5 rfl ?_
                  refine z_iconst ok dX0_price_195 (x := (-1)) (by decide) ?_
                  refine z_icmp_ne ok dX0_price_196 203 (by decide) (fun c24 => ?_) (fun c24 => ?_)
                  · rw [if_neg c24] at hT
                    refine z_iconst ok dX0_price_203 (x := 1) (by decide) ?_
                    refine z_icmp_ne ok dX0_price_204 211 (by decide) (fun c25 => ?_) (fun c25 => ?_)
                    · rw [if_neg c25] at hT
                      refine z_iconst ok dX0_price_211 (x := 0) (by decide) ?_
                      exact z_iret ok hE dX0_price_212 rfl ⟨hT, rfl⟩
                    · rw [if_pos c25] at hT
                      refine z_iconst ok dX0_price_207 (x := 1) (by decide) ?_
                      refine z_goto ok dX0_price_208 212 (by decide) ?_
                      exact z_iret ok hE dX0_price_212 rfl ⟨hT, rfl⟩
                  · rw [if_pos c24] at hT
                    refine z_iconst ok dX0_price_199 (x := 0) (by decide) ?_
                    refine z_goto ok dX0_price_200 204 (by decide) ?_
                    refine z_icmp_ne ok dX0_price_204 211 (by decide) (fun c26 => ?_) (fun c26 => ?_)
                    · rw [if_neg c26] at hT
                      refine z_iconst ok dX0_price_211 (x := 0) (by decide) ?_
                      exact z_iret ok hE dX0_price_212 rfl ⟨hT, rfl⟩
                    · rw [if_pos c26] at hT
                      refine z_iconst ok dX0_price_207 (x := 1) (by decide) ?_
                      refine z_goto ok dX0_price_208 212 (by decide) ?_
                      exact z_iret ok hE dX0_price_212 rfl ⟨hT, rfl⟩
    · rw [if_pos c4] at hT
      refine z_iconst ok dX0_price_24 (x := 0) (by decide) ?_
      exact z_iret ok hE dX0_price_25 rfl ⟨hT, rfl⟩

def d_X0_canMove (w : xW) (g : Nat) (f : Nat) (t : Nat) : Int32 :=
  zlet ((d_X0_price w g f t)) fun x1 =>
  if x1 ≤ 0 then (0)
  else (if (d_X0_springOn w g f) < x1 then (0)
  else (1))
set_option maxRecDepth 100000 in
set_option maxHeartbeats 4000000 in
theorem c_X0_canMove (G : zG) (N : Nat) (hN : 47 ≤ N) (hg : zGeo G N) (w : xW) (g : Nat) (h_g : g < 7) (f : Nat) (h_f : f < 36) (t : Nat) (h_t : t < 36) : zM yX0_canMove cX0_canMove 4 (some .boolean) 3 77 G N [.ref (zad G (6 + 6 * g)), .int (nI f), .int (nI t)] w (some (d_X0_canMove w g f t)) w := by
  generalize hT : d_X0_canMove w g f t = r
  unfold d_X0_canMove at hT
  refine zM_of zy_X0_canMove.2.2.2.2.2.2.2 hg ⟨Nat.le_of_ble_eq_true rfl, by decide⟩ rfl (fun k ok hE hI => ?_)
  have old := hE.old
  refine z_aload_n ok dX0_canMove_0 0 rfl ?_
  refine z_iload_n ok dX0_canMove_1 1 rfl ?_
  refine z_iload_n ok dX0_canMove_2 2 rfl ?_
  refine z_callVi ok old dX0_canMove_3 [] (c_X0_price G N hN hg w g h_g f (by omega) t (by omega)) zy_X0_price zw_381 (6 + 6 * g) (zg_lt' hN h_g) (zE_board G w h_g) rfl rfl rfl rfl rfl (by decide) (Nat.le_of_ble_eq_true rfl) ?_
  replace hT := zlet_open hT
  obtain ⟨x1, hx1, hT⟩ := hT
  rw [← hx1]
  refine z_istore_n ok dX0_canMove_6 (hI 3 (by decide)) (lv' := [(3, .int x1), (0, .ref (zad G (6 + 6 * g))), (1, .int (nI f)), (2, .int (nI t))]) rfl ?_
  refine z_iload_n ok dX0_canMove_7 0 rfl ?_
  refine z_if_le ok dX0_canMove_8 24 (by decide) (fun c2 => ?_) (fun c2 => ?_)
  · rw [if_pos c2] at hT
    refine z_iconst ok dX0_canMove_24 (x := 0) (by decide) ?_
    exact z_iret ok hE dX0_canMove_25 rfl ⟨hT, rfl⟩
  · rw [if_neg c2] at hT
    refine z_iload_n ok dX0_canMove_11 0 rfl ?_
    refine z_aload_n ok dX0_canMove_12 1 rfl ?_
    refine z_iload_n ok dX0_canMove_13 2 rfl ?_
    refine z_callVi ok old dX0_canMove_14 [.int x1] (c_X0_springOn G N hN hg w g h_g f (by omega)) zy_X0_springOn zw_382 (6 + 6 * g) (zg_lt' hN h_g) (zE_board G w h_g) rfl rfl rfl rfl rfl (by decide) (Nat.le_of_ble_eq_true rfl) ?_
    refine z_icmp_gt ok dX0_canMove_17 24 (by decide) (fun c3 => ?_) (fun c3 => ?_)
    · rw [if_pos c3] at hT
      refine z_iconst ok dX0_canMove_24 (x := 0) (by decide) ?_
      exact z_iret ok hE dX0_canMove_25 rfl ⟨hT, rfl⟩
    · rw [if_neg c3] at hT
      refine z_iconst ok dX0_canMove_20 (x := 1) (by decide) ?_
      refine z_goto ok dX0_canMove_21 25 (by decide) ?_
      exact z_iret ok hE dX0_canMove_25 rfl ⟨hT, rfl⟩

def d_X0_movesFrom_4k  (e1_2 : Int32) (e1_3 : Nat) : Int32 :=
  e1_2
def d_X0_movesFrom_4 (w : xW) (g : Nat) (f : Nat) (kt1 : Int32 → Nat → Int32) : Nat → Int32 → Nat → Int32
  | 0, _, _ => default
  | n1 + 1, v1_2, v1_3 => if 36 ≤ v1_3 then (kt1 v1_2 v1_3)
  else (if (d_X0_canMove w g f v1_3) = 0 then (d_X0_movesFrom_4 w g f kt1 n1 v1_2 (v1_3 + 1))
  else (d_X0_movesFrom_4 w g f kt1 n1 (v1_2 + 1) (v1_3 + 1)))
def d_X0_movesFrom (w : xW) (g : Nat) (f : Nat) : Int32 :=
  d_X0_movesFrom_4 w g f d_X0_movesFrom_4k 37 0 0
set_option maxRecDepth 100000 in
set_option maxHeartbeats 4000000 in
theorem c_X0_movesFrom (G : zG) (N : Nat) (hN : 47 ≤ N) (hg : zGeo G N) (w : xW) (g : Nat) (h_g : g < 7) (f : Nat) (h_f : f < 36) : zM yX0_movesFrom cX0_movesFrom 4 (some .int) 4 100 G N [.ref (zad G (6 + 6 * g)), .int (nI f)] w (some (d_X0_movesFrom w g f)) w := by
  generalize hT : d_X0_movesFrom w g f = r
  unfold d_X0_movesFrom at hT
  refine zM_of zy_X0_movesFrom.2.2.2.2.2.2.2 hg ⟨Nat.le_of_ble_eq_true rfl, by decide⟩ rfl (fun k ok hE hI => ?_)
  have old := hE.old
  refine z_iconst ok dX0_movesFrom_0 (x := 0) (by decide) ?_
  refine z_istore_n ok dX0_movesFrom_1 (hI 2 (by decide)) (lv' := [(2, .int 0), (0, .ref (zad G (6 + 6 * g))), (1, .int (nI f))]) rfl ?_
  refine z_iconst ok dX0_movesFrom_2 (x := 0) (by decide) ?_
  refine z_istore_n ok dX0_movesFrom_3 (hI 3 (by decide)) (lv' := [(3, .int 0), (2, .int 0), (0, .ref (zad G (6 + 6 * g))), (1, .int (nI f))]) rfl ?_
  refine z_locs [2, 3, 1, 0] (lv' := [(0, .ref (zad G (6 + 6 * g))), (1, .int (nI f)), (2, .int 0), (3, .int 0)]) rfl ?_
  obtain ⟨kt1, hkt1⟩ : ∃ z, z = d_X0_movesFrom_4k := ⟨_, rfl⟩
  rw [← hkt1] at hT
  have hk1 : ∀ (e1_2 : Int32) (e1_3 : Nat), e1_3 ≤ 36 → kt1 e1_2 e1_3 = r → zZ k G N w 28 [(0, .ref (zad G (6 + 6 * g))), (1, .int (nI f)), (2, .int e1_2), (3, .int (nI e1_3))] [] := by
    intro e1_2 e1_3 q1_0 hT1
    rw [hkt1, d_X0_movesFrom_4k] at hT1
    refine z_iload_n ok dX0_movesFrom_28 2 rfl ?_
    exact z_iret ok hE dX0_movesFrom_29 rfl ⟨hT1, rfl⟩
  have hl1 : ∀ (n1 : Nat) (v1_2 : Int32) (v1_3 : Nat), 36 < v1_3 + n1 → v1_3 ≤ 36 → d_X0_movesFrom_4 w g f kt1 n1 v1_2 v1_3 = r → zZ k G N w 4 [(0, .ref (zad G (6 + 6 * g))), (1, .int (nI f)), (2, .int v1_2), (3, .int (nI v1_3))] [] := by
    intro n1
    induction n1 with
    | zero =>
      intro v1_2 v1_3 q1_0 q1_1
      exact absurd q1_0 (by omega)
    | succ n1 ih1 =>
      intro v1_2 v1_3 q1_0 q1_1 hT1
      rw [d_X0_movesFrom_4] at hT1
      refine z_iload_n ok dX0_movesFrom_4 3 rfl ?_
      refine z_bipush ok dX0_movesFrom_5 (x := 36) (by decide) ?_
      refine z_icmp_ge_n ok dX0_movesFrom_7 28 (by decide) v1_3 36 rfl rfl (by omega) (fun c2 => ?_) (fun c2 => ?_)
      · rw [if_pos c2] at hT1
        refine z_locs [0, 1, 2, 3] (lv' := [(0, .ref (zad G (6 + 6 * g))), (1, .int (nI f)), (2, .int v1_2), (3, .int (nI v1_3))]) rfl ?_
        exact hk1 v1_2 v1_3 (by omega) hT1
      · rw [if_neg c2] at hT1
        refine z_aload_n ok dX0_movesFrom_10 0 rfl ?_
        refine z_iload_n ok dX0_movesFrom_11 1 rfl ?_
        refine z_iload_n ok dX0_movesFrom_12 3 rfl ?_
        refine z_callVi ok old dX0_movesFrom_13 [] (c_X0_canMove G N hN hg w g h_g f (by omega) v1_3 (by omega)) zy_X0_canMove zw_377 (6 + 6 * g) (zg_lt' hN h_g) (zE_board G w h_g) rfl rfl rfl rfl rfl (by decide) (Nat.le_of_ble_eq_true rfl) ?_
        refine z_if_eq ok dX0_movesFrom_16 22 (by decide) (fun c3 => ?_) (fun c3 => ?_)
        · rw [if_pos c3] at hT1
          refine z_iinc ok dX0_movesFrom_22 (hI 3 (by decide)) 3 rfl (y := (nI (v1_3 + 1))) (z_incn v1_3 1) (lv' := [(3, .int (nI (v1_3 + 1))), (0, .ref (zad G (6 + 6 * g))), (1, .int (nI f)), (2, .int v1_2)]) rfl ?_
          refine z_goto ok dX0_movesFrom_25 4 (by decide) ?_
          refine z_locs [1, 2, 3, 0] (lv' := [(0, .ref (zad G (6 + 6 * g))), (1, .int (nI f)), (2, .int v1_2), (3, .int (nI (v1_3 + 1)))]) rfl ?_
          exact ih1 v1_2 (v1_3 + 1) (by omega) (by omega) hT1
        · rw [if_neg c3] at hT1
          refine z_iinc ok dX0_movesFrom_19 (hI 2 (by decide)) 2 rfl (y := (v1_2 + 1)) rfl (lv' := [(2, .int (v1_2 + 1)), (0, .ref (zad G (6 + 6 * g))), (1, .int (nI f)), (3, .int (nI v1_3))]) rfl ?_
          refine z_iinc ok dX0_movesFrom_22 (hI 3 (by decide)) 3 rfl (y := (nI (v1_3 + 1))) (z_incn v1_3 1) (lv' := [(3, .int (nI (v1_3 + 1))), (2, .int (v1_2 + 1)), (0, .ref (zad G (6 + 6 * g))), (1, .int (nI f))]) rfl ?_
          refine z_goto ok dX0_movesFrom_25 4 (by decide) ?_
          refine z_locs [2, 3, 1, 0] (lv' := [(0, .ref (zad G (6 + 6 * g))), (1, .int (nI f)), (2, .int (v1_2 + 1)), (3, .int (nI (v1_3 + 1)))]) rfl ?_
          exact ih1 (v1_2 + 1) (v1_3 + 1) (by omega) (by omega) hT1
  exact hl1 37 0 0 (by omega) (by omega) hT

def d_X0_movesOf_4k  (e1_2 : Int32) (e1_3 : Nat) : Int32 :=
  e1_2
def d_X0_movesOf_13 (w : xW) (g : Nat) (side : Int32) (v1_3 : Nat) (kt3 : Int32 → Nat → Int32) : Nat → Int32 → Nat → Int32
  | 0, _, _ => default
  | n3 + 1, v3_2, v3_4 => if (xg w g v1_3) = side then (if 36 ≤ v3_4 then (kt3 v3_2 v3_4)
  else (if (d_X0_canMove w g v1_3 v3_4) = 0 then (d_X0_movesOf_13 w g side v1_3 kt3 n3 v3_2 (v3_4 + 1))
  else (d_X0_movesOf_13 w g side v1_3 kt3 n3 (v3_2 + 1) (v3_4 + 1))))
  else (kt3 v3_2 v3_4)
def d_X0_movesOf_4 (w : xW) (g : Nat) (side : Int32) (kt1 : Int32 → Nat → Int32) : Nat → Int32 → Nat → Int32
  | 0, _, _ => default
  | n1 + 1, v1_2, v1_3 => if 36 ≤ v1_3 then (kt1 v1_2 v1_3)
  else (d_X0_movesOf_13 w g side v1_3 (fun e3_2 e3_4 => (d_X0_movesOf_4 w g side kt1 n1 e3_2 (v1_3 + 1))) 37 v1_2 0)
def d_X0_movesOf (w : xW) (g : Nat) (side : Int32) : Int32 :=
  d_X0_movesOf_4 w g side d_X0_movesOf_4k 37 0 0
set_option maxRecDepth 100000 in
set_option maxHeartbeats 4000000 in
theorem c_X0_movesOf (G : zG) (N : Nat) (hN : 47 ≤ N) (hg : zGeo G N) (w : xW) (g : Nat) (h_g : g < 7) (side : Int32) : zM yX0_movesOf cX0_movesOf 5 (some .int) 4 100 G N [.ref (zad G (6 + 6 * g)), .int side] w (some (d_X0_movesOf w g side)) w := by
  generalize hT : d_X0_movesOf w g side = r
  unfold d_X0_movesOf at hT
  refine zM_of zy_X0_movesOf.2.2.2.2.2.2.2 hg ⟨Nat.le_of_ble_eq_true rfl, by decide⟩ rfl (fun k ok hE hI => ?_)
  have old := hE.old
  refine z_iconst ok dX0_movesOf_0 (x := 0) (by decide) ?_
  refine z_istore_n ok dX0_movesOf_1 (hI 2 (by decide)) (lv' := [(2, .int 0), (0, .ref (zad G (6 + 6 * g))), (1, .int side)]) rfl ?_
  refine z_iconst ok dX0_movesOf_2 (x := 0) (by decide) ?_
  refine z_istore_n ok dX0_movesOf_3 (hI 3 (by decide)) (lv' := [(3, .int 0), (2, .int 0), (0, .ref (zad G (6 + 6 * g))), (1, .int side)]) rfl ?_
  refine z_locs [2, 3, 1, 0] (lv' := [(0, .ref (zad G (6 + 6 * g))), (1, .int side), (2, .int 0), (3, .int 0)]) rfl ?_
  obtain ⟨kt1, hkt1⟩ : ∃ z, z = d_X0_movesOf_4k := ⟨_, rfl⟩
  rw [← hkt1] at hT
  have hk1 : ∀ (e1_2 : Int32) (e1_3 : Nat), e1_3 ≤ 36 → kt1 e1_2 e1_3 = r → zZ k G N w 55 [(0, .ref (zad G (6 + 6 * g))), (1, .int side), (2, .int e1_2), (3, .int (nI e1_3))] [] := by
    intro e1_2 e1_3 q1_0 hT1
    rw [hkt1, d_X0_movesOf_4k] at hT1
    refine z_iload_n ok dX0_movesOf_55 2 rfl ?_
    exact z_iret ok hE dX0_movesOf_56 rfl ⟨hT1, rfl⟩
  have hl1 : ∀ (n1 : Nat) (v1_2 : Int32) (v1_3 : Nat), 36 < v1_3 + n1 → v1_3 ≤ 36 → d_X0_movesOf_4 w g side kt1 n1 v1_2 v1_3 = r → zZ k G N w 4 [(0, .ref (zad G (6 + 6 * g))), (1, .int side), (2, .int v1_2), (3, .int (nI v1_3))] [] := by
    intro n1
    induction n1 with
    | zero =>
      intro v1_2 v1_3 q1_0 q1_1
      exact absurd q1_0 (by omega)
    | succ n1 ih1 =>
      intro v1_2 v1_3 q1_0 q1_1 hT1
      rw [d_X0_movesOf_4] at hT1
      refine z_iload_n ok dX0_movesOf_4 3 rfl ?_
      refine z_bipush ok dX0_movesOf_5 (x := 36) (by decide) ?_
      refine z_icmp_ge_n ok dX0_movesOf_7 55 (by decide) v1_3 36 rfl rfl (by omega) (fun c2 => ?_) (fun c2 => ?_)
      · rw [if_pos c2] at hT1
        refine z_locs [0, 1, 2, 3] (lv' := [(0, .ref (zad G (6 + 6 * g))), (1, .int side), (2, .int v1_2), (3, .int (nI v1_3))]) rfl ?_
        exact hk1 v1_2 v1_3 (by omega) hT1
      · rw [if_neg c2] at hT1
        refine z_iconst ok dX0_movesOf_10 (x := 0) (by decide) ?_
        refine z_istore ok dX0_movesOf_11 (hI 4 (by decide)) (lv' := [(4, .int 0), (0, .ref (zad G (6 + 6 * g))), (1, .int side), (2, .int v1_2), (3, .int (nI v1_3))]) rfl ?_
        refine z_locs [1, 2, 3, 4, 0] (lv' := [(0, .ref (zad G (6 + 6 * g))), (1, .int side), (2, .int v1_2), (3, .int (nI v1_3)), (4, .int 0)]) rfl ?_
        obtain ⟨kt3, hkt3⟩ : ∃ z, z = ((fun e3_2 e3_4 => (d_X0_movesOf_4 w g side kt1 n1 e3_2 (v1_3 + 1))) : Int32 → Nat → Int32) := ⟨_, rfl⟩
        rw [← hkt3] at hT1
        have hk3 : ∀ (e3_2 : Int32) (e3_4 : Nat), e3_4 ≤ 36 → kt3 e3_2 e3_4 = r → zZ k G N w 49 [(0, .ref (zad G (6 + 6 * g))), (1, .int side), (2, .int e3_2), (3, .int (nI v1_3)), (4, .int (nI e3_4))] [] := by
          intro e3_2 e3_4 q3_0 hT3
          rw [hkt3] at hT3
          dsimp only at hT3
          refine z_iinc ok dX0_movesOf_49 (hI 3 (by decide)) 3 rfl (y := (nI (v1_3 + 1))) (z_incn v1_3 1) (lv' := [(3, .int (nI (v1_3 + 1))), (0, .ref (zad G (6 + 6 * g))), (1, .int side), (2, .int e3_2), (4, .int (nI e3_4))]) rfl ?_
          refine z_goto ok dX0_movesOf_52 4 (by decide) ?_
          refine z_locs [1, 2, 3, 0] (lv' := [(0, .ref (zad G (6 + 6 * g))), (1, .int side), (2, .int e3_2), (3, .int (nI (v1_3 + 1)))]) rfl ?_
          exact ih1 e3_2 (v1_3 + 1) (by omega) (by omega) hT3
        have hl3 : ∀ (n3 : Nat) (v3_2 : Int32) (v3_4 : Nat), 36 < v3_4 + n3 → v3_4 ≤ 36 → d_X0_movesOf_13 w g side v1_3 kt3 n3 v3_2 v3_4 = r → zZ k G N w 13 [(0, .ref (zad G (6 + 6 * g))), (1, .int side), (2, .int v3_2), (3, .int (nI v1_3)), (4, .int (nI v3_4))] [] := by
          intro n3
          induction n3 with
          | zero =>
            intro v3_2 v3_4 q3_0 q3_1
            exact absurd q3_0 (by omega)
          | succ n3 ih3 =>
            intro v3_2 v3_4 q3_0 q3_1 hT3
            rw [d_X0_movesOf_13] at hT3
            refine z_aload_n ok dX0_movesOf_13 0 rfl ?_
            refine z_get_X0_sides ok dX0_movesOf_14 g h_g hN zw_74 ?_
            refine z_iload_n ok dX0_movesOf_17 3 rfl ?_
            refine z_gld0 ok dX0_movesOf_18 g h_g hN v1_3 rfl (by omega) ?_
            refine z_iload_n ok dX0_movesOf_19 1 rfl ?_
            refine z_icmp_ne ok dX0_movesOf_20 49 (by decide) (fun c4 => ?_) (fun c4 => ?_)
            · rw [if_neg c4] at hT3
              refine z_locs [0, 1, 2, 3, 4] (lv' := [(0, .ref (zad G (6 + 6 * g))), (1, .int side), (2, .int v3_2), (3, .int (nI v1_3)), (4, .int (nI v3_4))]) rfl ?_
              exact hk3 v3_2 v3_4 (by omega) hT3
            · rw [if_pos c4] at hT3
              refine z_iload ok dX0_movesOf_23 4 rfl ?_
              refine z_bipush ok dX0_movesOf_25 (x := 36) (by decide) ?_
              refine z_icmp_ge_n ok dX0_movesOf_27 49 (by decide) v3_4 36 rfl rfl (by omega) (fun c5 => ?_) (fun c5 => ?_)
              · rw [if_pos c5] at hT3
                refine z_locs [0, 1, 2, 3, 4] (lv' := [(0, .ref (zad G (6 + 6 * g))), (1, .int side), (2, .int v3_2), (3, .int (nI v1_3)), (4, .int (nI v3_4))]) rfl ?_
                exact hk3 v3_2 v3_4 (by omega) hT3
              · rw [if_neg c5] at hT3
                refine z_aload_n ok dX0_movesOf_30 0 rfl ?_
                refine z_iload_n ok dX0_movesOf_31 3 rfl ?_
                refine z_iload ok dX0_movesOf_32 4 rfl ?_
                refine z_callVi ok old dX0_movesOf_34 [] (c_X0_canMove G N hN hg w g h_g v1_3 (by omega) v3_4 (by omega)) zy_X0_canMove zw_377 (6 + 6 * g) (zg_lt' hN h_g) (zE_board G w h_g) rfl rfl rfl rfl rfl (by decide) (Nat.le_of_ble_eq_true rfl) ?_
                refine z_if_eq ok dX0_movesOf_37 43 (by decide) (fun c6 => ?_) (fun c6 => ?_)
                · rw [if_pos c6] at hT3
                  refine z_iinc ok dX0_movesOf_43 (hI 4 (by decide)) 4 rfl (y := (nI (v3_4 + 1))) (z_incn v3_4 1) (lv' := [(4, .int (nI (v3_4 + 1))), (0, .ref (zad G (6 + 6 * g))), (1, .int side), (2, .int v3_2), (3, .int (nI v1_3))]) rfl ?_
                  refine z_goto ok dX0_movesOf_46 13 (by decide) ?_
                  refine z_locs [1, 2, 3, 4, 0] (lv' := [(0, .ref (zad G (6 + 6 * g))), (1, .int side), (2, .int v3_2), (3, .int (nI v1_3)), (4, .int (nI (v3_4 + 1)))]) rfl ?_
                  exact ih3 v3_2 (v3_4 + 1) (by omega) (by omega) hT3
                · rw [if_neg c6] at hT3
                  refine z_iinc ok dX0_movesOf_40 (hI 2 (by decide)) 2 rfl (y := (v3_2 + 1)) rfl (lv' := [(2, .int (v3_2 + 1)), (0, .ref (zad G (6 + 6 * g))), (1, .int side), (3, .int (nI v1_3)), (4, .int (nI v3_4))]) rfl ?_
                  refine z_iinc ok dX0_movesOf_43 (hI 4 (by decide)) 4 rfl (y := (nI (v3_4 + 1))) (z_incn v3_4 1) (lv' := [(4, .int (nI (v3_4 + 1))), (2, .int (v3_2 + 1)), (0, .ref (zad G (6 + 6 * g))), (1, .int side), (3, .int (nI v1_3))]) rfl ?_
                  refine z_goto ok dX0_movesOf_46 13 (by decide) ?_
                  refine z_locs [2, 3, 1, 4, 0] (lv' := [(0, .ref (zad G (6 + 6 * g))), (1, .int side), (2, .int (v3_2 + 1)), (3, .int (nI v1_3)), (4, .int (nI (v3_4 + 1)))]) rfl ?_
                  exact ih3 (v3_2 + 1) (v3_4 + 1) (by omega) (by omega) hT3
        exact hl3 37 v1_2 0 (by omega) (by omega) hT1
  exact hl1 37 0 0 (by omega) (by omega) hT

def d_X0_copyFrom (w : xW) (g : Nat) (h : Nat) : xW :=
  zlet (xcopy w g 0 h 0) fun w1 =>
  zlet (xcopy w1 g 36 h 36) fun w2 =>
  zlet (xcopy w2 g 72 h 72) fun w3 =>
  zlet (xcopy w3 g 108 h 108) fun w4 =>
  w4
set_option maxRecDepth 100000 in
set_option maxHeartbeats 4000000 in
theorem c_X0_copyFrom (G : zG) (N : Nat) (hN : 47 ≤ N) (hg : zGeo G N) (w : xW) (g : Nat) (h_g : g < 7) (h : Nat) (h_h : h < 7) : zM yX0_copyFrom cX0_copyFrom 2 none 1 60 G N [.ref (zad G (6 + 6 * g)), .ref (zad G (6 + 6 * h))] w none (d_X0_copyFrom w g h) := by
  generalize hT : d_X0_copyFrom w g h = u
  unfold d_X0_copyFrom at hT
  refine zM_of zy_X0_copyFrom.2.2.2.2.2.2.2 hg ⟨Nat.le_of_ble_eq_true rfl, by decide⟩ rfl (fun k ok hE hI => ?_)
  have old := hE.old
  refine z_aload_n ok dX0_copyFrom_0 1 rfl ?_
  refine z_get_X0_sides ok dX0_copyFrom_1 h h_h hN zw_74 ?_
  refine z_iconst ok dX0_copyFrom_4 (x := 0) (by decide) ?_
  refine z_aload_n ok dX0_copyFrom_5 0 rfl ?_
  refine z_get_X0_sides ok dX0_copyFrom_6 g h_g hN zw_74 ?_
  refine z_iconst ok dX0_copyFrom_9 (x := 0) (by decide) ?_
  refine z_bipush ok dX0_copyFrom_10 (x := 36) (by decide) ?_
  refine z_copy ok dX0_copyFrom_12 zw_222 zw_224 zw_223 zw_51 (7 + 6 * h) (7 + 6 * g) (by have := (show h < 7 from h_h); omega) (by have := (show g < 7 from h_g); omega) ((fun u => zE_arr (r := 0) G u h_h (by decide)) w) (fun u => zE_arr (r := 0) G u h_g (by decide)) (v := g) (o := 0) (v0 := h) (o0 := 0) (n := 36) (u := xcopy w g 0 h 0) rfl (by decide) (xcopy_xg w g 0 h 0) rfl (fun b h1 h2 => zown_cp (r := 0) h_g (by decide) h1 h2) ⟨by decide, Nat.le_trans (Nat.add_le_add_left znative _) (Nat.le_of_ble_eq_true rfl)⟩ ?_
  replace hT := zlet_open hT
  obtain ⟨w1, hw1, hT⟩ := hT
  rw [← hw1]
  refine z_aload_n ok dX0_copyFrom_15 1 rfl ?_
  refine z_get_X0_kinds ok dX0_copyFrom_16 h h_h hN zw_75 ?_
  refine z_iconst ok dX0_copyFrom_19 (x := 0) (by decide) ?_
  refine z_aload_n ok dX0_copyFrom_20 0 rfl ?_
  refine z_get_X0_kinds ok dX0_copyFrom_21 g h_g hN zw_75 ?_
  refine z_iconst ok dX0_copyFrom_24 (x := 0) (by decide) ?_
  refine z_bipush ok dX0_copyFrom_25 (x := 36) (by decide) ?_
  refine z_copy ok dX0_copyFrom_27 zw_222 zw_224 zw_223 zw_51 (8 + 6 * h) (8 + 6 * g) (by have := (show h < 7 from h_h); omega) (by have := (show g < 7 from h_g); omega) ((fun u => zE_arr (r := 1) G u h_h (by decide)) w1) (fun u => zE_arr (r := 1) G u h_g (by decide)) (v := g) (o := 36) (v0 := h) (o0 := 36) (n := 36) (u := xcopy w1 g 36 h 36) rfl (by decide) (xcopy_xg w1 g 36 h 36) rfl (fun b h1 h2 => zown_cp (r := 1) h_g (by decide) h1 h2) ⟨by decide, Nat.le_trans (Nat.add_le_add_left znative _) (Nat.le_of_ble_eq_true rfl)⟩ ?_
  replace hT := zlet_open hT
  obtain ⟨w2, hw2, hT⟩ := hT
  rw [← hw2]
  refine z_aload_n ok dX0_copyFrom_30 1 rfl ?_
  refine z_get_X0_springs ok dX0_copyFrom_31 h h_h hN zw_76 ?_
  refine z_iconst ok dX0_copyFrom_34 (x := 0) (by decide) ?_
  refine z_aload_n ok dX0_copyFrom_35 0 rfl ?_
  refine z_get_X0_springs ok dX0_copyFrom_36 g h_g hN zw_76 ?_
  refine z_iconst ok dX0_copyFrom_39 (x := 0) (by decide) ?_
  refine z_bipush ok dX0_copyFrom_40 (x := 36) (by decide) ?_
  refine z_copy ok dX0_copyFrom_42 zw_222 zw_224 zw_223 zw_51 (9 + 6 * h) (9 + 6 * g) (by have := (show h < 7 from h_h); omega) (by have := (show g < 7 from h_g); omega) ((fun u => zE_arr (r := 2) G u h_h (by decide)) w2) (fun u => zE_arr (r := 2) G u h_g (by decide)) (v := g) (o := 72) (v0 := h) (o0 := 72) (n := 36) (u := xcopy w2 g 72 h 72) rfl (by decide) (xcopy_xg w2 g 72 h 72) rfl (fun b h1 h2 => zown_cp (r := 2) h_g (by decide) h1 h2) ⟨by decide, Nat.le_trans (Nat.add_le_add_left znative _) (Nat.le_of_ble_eq_true rfl)⟩ ?_
  replace hT := zlet_open hT
  obtain ⟨w3, hw3, hT⟩ := hT
  rw [← hw3]
  refine z_aload_n ok dX0_copyFrom_45 1 rfl ?_
  refine z_get_X0_towers ok dX0_copyFrom_46 h h_h hN zw_77 ?_
  refine z_iconst ok dX0_copyFrom_49 (x := 0) (by decide) ?_
  refine z_aload_n ok dX0_copyFrom_50 0 rfl ?_
  refine z_get_X0_towers ok dX0_copyFrom_51 g h_g hN zw_77 ?_
  refine z_iconst ok dX0_copyFrom_54 (x := 0) (by decide) ?_
  refine z_bipush ok dX0_copyFrom_55 (x := 36) (by decide) ?_
  refine z_copy ok dX0_copyFrom_57 zw_222 zw_224 zw_223 zw_51 (10 + 6 * h) (10 + 6 * g) (by have := (show h < 7 from h_h); omega) (by have := (show g < 7 from h_g); omega) ((fun u => zE_arr (r := 3) G u h_h (by decide)) w3) (fun u => zE_arr (r := 3) G u h_g (by decide)) (v := g) (o := 108) (v0 := h) (o0 := 108) (n := 36) (u := xcopy w3 g 108 h 108) rfl (by decide) (xcopy_xg w3 g 108 h 108) rfl (fun b h1 h2 => zown_cp (r := 3) h_g (by decide) h1 h2) ⟨by decide, Nat.le_trans (Nat.add_le_add_left znative _) (Nat.le_of_ble_eq_true rfl)⟩ ?_
  replace hT := zlet_open hT
  obtain ⟨w4, hw4, hT⟩ := hT
  rw [← hw4]
  exact z_vret ok hE dX0_copyFrom_60 hT

def d_X0_arrange_92k  (e3_2 : Nat) (ew3 : xW) : xW :=
  ew3
def d_X0_arrange_92 (g : Nat) (kt3 : Nat → xW → xW) : Nat → Nat → xW → xW
  | 0, _, _ => default
  | n3 + 1, v3_2, vw3 => if 6 ≤ v3_2 then (kt3 v3_2 vw3)
  else (zlet (d_X0_markTower vw3 g (zRow1n v3_2) 1) fun w5 =>
  d_X0_arrange_92 g kt3 n3 (v3_2 + 1) w5)
def d_X0_arrange_27k (g : Nat) (e2_2 : Nat) (ew2 : xW) : xW :=
  d_X0_arrange_92 g d_X0_arrange_92k 7 0 ew2
def d_X0_arrange_27 (g : Nat) (spring : Int32) (kt2 : Nat → xW → xW) : Nat → Nat → xW → xW
  | 0, _, _ => default
  | n2 + 1, v2_2, vw2 => if 6 ≤ v2_2 then (kt2 v2_2 vw2)
  else (zlet (d_X0_place vw2 g v2_2 0 (zRow0 v2_2) spring) fun w7 =>
  zlet (d_X0_place w7 g (6 + v2_2) 0 4 spring) fun w8 =>
  zlet (d_X0_place w8 g (24 + v2_2) 1 4 spring) fun w9 =>
  zlet (d_X0_place w9 g (30 + v2_2) 1 (zRow0 v2_2) spring) fun w10 =>
  d_X0_arrange_27 g spring kt2 n2 (v2_2 + 1) w10)
def d_X0_arrange_2k (g : Nat) (spring : Int32) (e1_2 : Nat) (ew1 : xW) : xW :=
  d_X0_arrange_27 g spring (d_X0_arrange_27k g) 7 0 ew1
def d_X0_arrange_2 (g : Nat) (kt1 : Nat → xW → xW) : Nat → Nat → xW → xW
  | 0, _, _ => default
  | n1 + 1, v1_2, vw1 => if 36 ≤ v1_2 then (kt1 v1_2 vw1)
  else (zlet (d_X0_empty vw1 g v1_2) fun w12 =>
  zlet (d_X0_markTower w12 g v1_2 0) fun w13 =>
  d_X0_arrange_2 g kt1 n1 (v1_2 + 1) w13)
def d_X0_arrange (w : xW) (g : Nat) (spring : Int32) : xW :=
  d_X0_arrange_2 g (d_X0_arrange_2k g spring) 37 0 w
set_option maxRecDepth 100000 in
set_option maxHeartbeats 4000000 in
theorem c_X0_arrange (G : zG) (N : Nat) (hN : 47 ≤ N) (hg : zGeo G N) (w : xW) (g : Nat) (h_g : g < 7) (spring : Int32) : zM yX0_arrange cX0_arrange 3 none 3 65 G N [.ref (zad G (6 + 6 * g)), .int spring] w none (d_X0_arrange w g spring) := by
  generalize hT : d_X0_arrange w g spring = u
  unfold d_X0_arrange at hT
  refine zM_of zy_X0_arrange.2.2.2.2.2.2.2 hg ⟨Nat.le_of_ble_eq_true rfl, by decide⟩ rfl (fun k ok hE hI => ?_)
  have old := hE.old
  obtain ⟨t0, hst0⟩ := zSr_0 ok
  obtain ⟨t1, hst1⟩ := zSr_1 ok
  refine z_iconst ok dX0_arrange_0 (x := 0) (by decide) ?_
  refine z_istore_n ok dX0_arrange_1 (hI 2 (by decide)) (lv' := [(2, .int 0), (0, .ref (zad G (6 + 6 * g))), (1, .int spring)]) rfl ?_
  refine z_locs [1, 2, 0] (lv' := [(0, .ref (zad G (6 + 6 * g))), (1, .int spring), (2, .int 0)]) rfl ?_
  obtain ⟨kt1, hkt1⟩ : ∃ z, z = (d_X0_arrange_2k g spring) := ⟨_, rfl⟩
  rw [← hkt1] at hT
  have hk1 : ∀ (e1_2 : Nat) (ew1 : xW), e1_2 ≤ 36 → kt1 e1_2 ew1 = u → zZ k G N ew1 25 [(0, .ref (zad G (6 + 6 * g))), (1, .int spring), (2, .int (nI e1_2))] [] := by
    intro e1_2 ew1 q1_0 hT1
    rw [hkt1, d_X0_arrange_2k] at hT1
    refine z_iconst ok dX0_arrange_25 (x := 0) (by decide) ?_
    refine z_istore_n ok dX0_arrange_26 (hI 2 (by decide)) (lv' := [(2, .int 0), (0, .ref (zad G (6 + 6 * g))), (1, .int spring)]) rfl ?_
    refine z_locs [1, 2, 0] (lv' := [(0, .ref (zad G (6 + 6 * g))), (1, .int spring), (2, .int 0)]) rfl ?_
    obtain ⟨kt2, hkt2⟩ : ∃ z, z = (d_X0_arrange_27k g) := ⟨_, rfl⟩
    rw [← hkt2] at hT1
    have hk2 : ∀ (e2_2 : Nat) (ew2 : xW), e2_2 ≤ 6 → kt2 e2_2 ew2 = u → zZ k G N ew2 90 [(0, .ref (zad G (6 + 6 * g))), (1, .int spring), (2, .int (nI e2_2))] [] := by
      intro e2_2 ew2 q2_0 hT2
      rw [hkt2, d_X0_arrange_27k] at hT2
      refine z_iconst ok dX0_arrange_90 (x := 0) (by decide) ?_
      refine z_istore_n ok dX0_arrange_91 (hI 2 (by decide)) (lv' := [(2, .int 0), (0, .ref (zad G (6 + 6 * g))), (1, .int spring)]) rfl ?_
      refine z_locs [1, 2, 0] (lv' := [(0, .ref (zad G (6 + 6 * g))), (1, .int spring), (2, .int 0)]) rfl ?_
      obtain ⟨kt3, hkt3⟩ : ∃ z, z = d_X0_arrange_92k := ⟨_, rfl⟩
      rw [← hkt3] at hT2
      have hk3 : ∀ (e3_2 : Nat) (ew3 : xW), e3_2 ≤ 6 → kt3 e3_2 ew3 = u → zZ k G N ew3 116 [(0, .ref (zad G (6 + 6 * g))), (1, .int spring), (2, .int (nI e3_2))] [] := by
        intro e3_2 ew3 q3_0 hT3
        rw [hkt3, d_X0_arrange_92k] at hT3
        exact z_vret ok hE dX0_arrange_116 hT3
      have hl3 : ∀ (n3 : Nat) (v3_2 : Nat) (vw3 : xW), 6 < v3_2 + n3 → v3_2 ≤ 6 → d_X0_arrange_92 g kt3 n3 v3_2 vw3 = u → zZ k G N vw3 92 [(0, .ref (zad G (6 + 6 * g))), (1, .int spring), (2, .int (nI v3_2))] [] := by
        intro n3
        induction n3 with
        | zero =>
          intro v3_2 vw3 q3_0 q3_1
          exact absurd q3_0 (by omega)
        | succ n3 ih3 =>
          intro v3_2 vw3 q3_0 q3_1 hT3
          rw [d_X0_arrange_92] at hT3
          refine z_iload_n ok dX0_arrange_92 2 rfl ?_
          refine z_gets ok hE dX0_arrange_93 hst1 zw_166 ?_
          refine z_tlen ok hE dX0_arrange_96 hst1 ?_
          refine z_icmp_ge_n ok dX0_arrange_97 116 (by decide) v3_2 6 rfl rfl (by omega) (fun c4 => ?_) (fun c4 => ?_)
          · rw [if_pos c4] at hT3
            refine z_locs [0, 1, 2] (lv' := [(0, .ref (zad G (6 + 6 * g))), (1, .int spring), (2, .int (nI v3_2))]) rfl ?_
            exact hk3 v3_2 vw3 (by omega) hT3
          · rw [if_neg c4] at hT3
            refine z_aload_n ok dX0_arrange_100 0 rfl ?_
            refine z_gets ok hE dX0_arrange_101 hst1 zw_166 ?_
            refine z_iload_n ok dX0_arrange_104 2 rfl ?_
            refine z_tald ok hE dX0_arrange_105 hst1 v3_2 rfl (by omega) ?_
            have := zRow1_lt v3_2
            refine z_iconst ok dX0_arrange_106 (x := 1) (by decide) ?_
            refine z_callVv ok old dX0_arrange_107 [] (c_X0_markTower G N hN hg vw3 g h_g (zRow1n v3_2) (by omega) 1) zy_X0_markTower zw_160 (6 + 6 * g) (zg_lt' hN h_g) (zE_board G vw3 h_g) rfl rfl rfl rfl rfl (by decide) (Nat.le_of_ble_eq_true rfl) ?_
            replace hT3 := zlet_open hT3
            obtain ⟨w5, hw5, hT3⟩ := hT3
            rw [← hw5]
            refine z_iinc ok dX0_arrange_110 (hI 2 (by decide)) 2 rfl (y := (nI (v3_2 + 1))) (z_incn v3_2 1) (lv' := [(2, .int (nI (v3_2 + 1))), (0, .ref (zad G (6 + 6 * g))), (1, .int spring)]) rfl ?_
            refine z_goto ok dX0_arrange_113 92 (by decide) ?_
            refine z_locs [1, 2, 0] (lv' := [(0, .ref (zad G (6 + 6 * g))), (1, .int spring), (2, .int (nI (v3_2 + 1)))]) rfl ?_
            exact ih3 (v3_2 + 1) w5 (by omega) (by omega) hT3
      exact hl3 7 0 ew2 (by omega) (by omega) hT2
    have hl2 : ∀ (n2 : Nat) (v2_2 : Nat) (vw2 : xW), 6 < v2_2 + n2 → v2_2 ≤ 6 → d_X0_arrange_27 g spring kt2 n2 v2_2 vw2 = u → zZ k G N vw2 27 [(0, .ref (zad G (6 + 6 * g))), (1, .int spring), (2, .int (nI v2_2))] [] := by
      intro n2
      induction n2 with
      | zero =>
        intro v2_2 vw2 q2_0 q2_1
        exact absurd q2_0 (by omega)
      | succ n2 ih2 =>
        intro v2_2 vw2 q2_0 q2_1 hT2
        rw [d_X0_arrange_27] at hT2
        refine z_iload_n ok dX0_arrange_27 2 rfl ?_
        refine z_gets ok hE dX0_arrange_28 hst0 zw_164 ?_
        refine z_tlen ok hE dX0_arrange_31 hst0 ?_
        refine z_icmp_ge_n ok dX0_arrange_32 90 (by decide) v2_2 6 rfl rfl (by omega) (fun c6 => ?_) (fun c6 => ?_)
        · rw [if_pos c6] at hT2
          refine z_locs [0, 1, 2] (lv' := [(0, .ref (zad G (6 + 6 * g))), (1, .int spring), (2, .int (nI v2_2))]) rfl ?_
          exact hk2 v2_2 vw2 (by omega) hT2
        · rw [if_neg c6] at hT2
          refine z_aload_n ok dX0_arrange_35 0 rfl ?_
          refine z_iload_n ok dX0_arrange_36 2 rfl ?_
          refine z_iconst ok dX0_arrange_37 (x := 0) (by decide) ?_
          refine z_gets ok hE dX0_arrange_38 hst0 zw_164 ?_
          refine z_iload_n ok dX0_arrange_41 2 rfl ?_
          refine z_tald ok hE dX0_arrange_42 hst0 v2_2 rfl (by omega) ?_
          refine z_iload_n ok dX0_arrange_43 1 rfl ?_
          refine z_callVv ok old dX0_arrange_44 [] (c_X0_place G N hN hg vw2 g h_g v2_2 (by omega) 0 (zRow0 v2_2) spring) zy_X0_place zw_153 (6 + 6 * g) (zg_lt' hN h_g) (zE_board G vw2 h_g) rfl rfl rfl rfl rfl (by decide) (Nat.le_of_ble_eq_true rfl) ?_
          replace hT2 := zlet_open hT2
          obtain ⟨w7, hw7, hT2⟩ := hT2
          rw [← hw7]
          refine z_aload_n ok dX0_arrange_47 0 rfl ?_
          refine z_bipush ok dX0_arrange_48 (x := 6) (by decide) ?_
          refine z_iload_n ok dX0_arrange_50 2 rfl ?_
          refine z_iadd_n ok dX0_arrange_51 6 v2_2 rfl rfl ?_
          refine z_iconst ok dX0_arrange_52 (x := 0) (by decide) ?_
          refine z_iconst ok dX0_arrange_53 (x := 4) (by decide) ?_
          refine z_iload_n ok dX0_arrange_54 1 rfl ?_
          refine z_callVv ok old dX0_arrange_55 [] (c_X0_place G N hN hg w7 g h_g (6 + v2_2) (by omega) 0 4 spring) zy_X0_place zw_153 (6 + 6 * g) (zg_lt' hN h_g) (zE_board G w7 h_g) rfl rfl rfl rfl rfl (by decide) (Nat.le_of_ble_eq_true rfl) ?_
          replace hT2 := zlet_open hT2
          obtain ⟨w8, hw8, hT2⟩ := hT2
          rw [← hw8]
          refine z_aload_n ok dX0_arrange_58 0 rfl ?_
          refine z_bipush ok dX0_arrange_59 (x := 24) (by decide) ?_
          refine z_iload_n ok dX0_arrange_61 2 rfl ?_
          refine z_iadd_n ok dX0_arrange_62 24 v2_2 rfl rfl ?_
          refine z_iconst ok dX0_arrange_63 (x := 1) (by decide) ?_
          refine z_iconst ok dX0_arrange_64 (x := 4) (by decide) ?_
          refine z_iload_n ok dX0_arrange_65 1 rfl ?_
          refine z_callVv ok old dX0_arrange_66 [] (c_X0_place G N hN hg w8 g h_g (24 + v2_2) (by omega) 1 4 spring) zy_X0_place zw_153 (6 + 6 * g) (zg_lt' hN h_g) (zE_board G w8 h_g) rfl rfl rfl rfl rfl (by decide) (Nat.le_of_ble_eq_true rfl) ?_
          replace hT2 := zlet_open hT2
          obtain ⟨w9, hw9, hT2⟩ := hT2
          rw [← hw9]
          refine z_aload_n ok dX0_arrange_69 0 rfl ?_
          refine z_bipush ok dX0_arrange_70 (x := 30) (by decide) ?_
          refine z_iload_n ok dX0_arrange_72 2 rfl ?_
          refine z_iadd_n ok dX0_arrange_73 30 v2_2 rfl rfl ?_
          refine z_iconst ok dX0_arrange_74 (x := 1) (by decide) ?_
          refine z_gets ok hE dX0_arrange_75 hst0 zw_164 ?_
          refine z_iload_n ok dX0_arrange_78 2 rfl ?_
          refine z_tald ok hE dX0_arrange_79 hst0 v2_2 rfl (by omega) ?_
          refine z_iload_n ok dX0_arrange_80 1 rfl ?_
          refine z_callVv ok old dX0_arrange_81 [] (c_X0_place G N hN hg w9 g h_g (30 + v2_2) (by omega) 1 (zRow0 v2_2) spring) zy_X0_place zw_153 (6 + 6 * g) (zg_lt' hN h_g) (zE_board G w9 h_g) rfl rfl rfl rfl rfl (by decide) (Nat.le_of_ble_eq_true rfl) ?_
          replace hT2 := zlet_open hT2
          obtain ⟨w10, hw10, hT2⟩ := hT2
          rw [← hw10]
          refine z_iinc ok dX0_arrange_84 (hI 2 (by decide)) 2 rfl (y := (nI (v2_2 + 1))) (z_incn v2_2 1) (lv' := [(2, .int (nI (v2_2 + 1))), (0, .ref (zad G (6 + 6 * g))), (1, .int spring)]) rfl ?_
          refine z_goto ok dX0_arrange_87 27 (by decide) ?_
          refine z_locs [1, 2, 0] (lv' := [(0, .ref (zad G (6 + 6 * g))), (1, .int spring), (2, .int (nI (v2_2 + 1)))]) rfl ?_
          exact ih2 (v2_2 + 1) w10 (by omega) (by omega) hT2
    exact hl2 7 0 ew1 (by omega) (by omega) hT1
  have hl1 : ∀ (n1 : Nat) (v1_2 : Nat) (vw1 : xW), 36 < v1_2 + n1 → v1_2 ≤ 36 → d_X0_arrange_2 g kt1 n1 v1_2 vw1 = u → zZ k G N vw1 2 [(0, .ref (zad G (6 + 6 * g))), (1, .int spring), (2, .int (nI v1_2))] [] := by
    intro n1
    induction n1 with
    | zero =>
      intro v1_2 vw1 q1_0 q1_1
      exact absurd q1_0 (by omega)
    | succ n1 ih1 =>
      intro v1_2 vw1 q1_0 q1_1 hT1
      rw [d_X0_arrange_2] at hT1
      refine z_iload_n ok dX0_arrange_2 2 rfl ?_
      refine z_bipush ok dX0_arrange_3 (x := 36) (by decide) ?_
      refine z_icmp_ge_n ok dX0_arrange_5 25 (by decide) v1_2 36 rfl rfl (by omega) (fun c11 => ?_) (fun c11 => ?_)
      · rw [if_pos c11] at hT1
        refine z_locs [0, 1, 2] (lv' := [(0, .ref (zad G (6 + 6 * g))), (1, .int spring), (2, .int (nI v1_2))]) rfl ?_
        exact hk1 v1_2 vw1 (by omega) hT1
      · rw [if_neg c11] at hT1
        refine z_aload_n ok dX0_arrange_8 0 rfl ?_
        refine z_iload_n ok dX0_arrange_9 2 rfl ?_
        refine z_callVv ok old dX0_arrange_10 [] (c_X0_empty G N hN hg vw1 g h_g v1_2 (by omega)) zy_X0_empty zw_149 (6 + 6 * g) (zg_lt' hN h_g) (zE_board G vw1 h_g) rfl rfl rfl rfl rfl (by decide) (Nat.le_of_ble_eq_true rfl) ?_
        replace hT1 := zlet_open hT1
        obtain ⟨w12, hw12, hT1⟩ := hT1
        rw [← hw12]
        refine z_aload_n ok dX0_arrange_13 0 rfl ?_
        refine z_iload_n ok dX0_arrange_14 2 rfl ?_
        refine z_iconst ok dX0_arrange_15 (x := 0) (by decide) ?_
        refine z_callVv ok old dX0_arrange_16 [] (c_X0_markTower G N hN hg w12 g h_g v1_2 (by omega) 0) zy_X0_markTower zw_160 (6 + 6 * g) (zg_lt' hN h_g) (zE_board G w12 h_g) rfl rfl rfl rfl rfl (by decide) (Nat.le_of_ble_eq_true rfl) ?_
        replace hT1 := zlet_open hT1
        obtain ⟨w13, hw13, hT1⟩ := hT1
        rw [← hw13]
        refine z_iinc ok dX0_arrange_19 (hI 2 (by decide)) 2 rfl (y := (nI (v1_2 + 1))) (z_incn v1_2 1) (lv' := [(2, .int (nI (v1_2 + 1))), (0, .ref (zad G (6 + 6 * g))), (1, .int spring)]) rfl ?_
        refine z_goto ok dX0_arrange_22 2 (by decide) ?_
        refine z_locs [1, 2, 0] (lv' := [(0, .ref (zad G (6 + 6 * g))), (1, .int spring), (2, .int (nI (v1_2 + 1)))]) rfl ?_
        exact ih1 (v1_2 + 1) w13 (by omega) (by omega) hT1
  exact hl1 37 0 w (by omega) (by omega) hT
end
section
def d_X1_copyFrom (w : xW) (g : Nat) (h : Nat) : xW :=
  zlet (d_X0_copyFrom w g h) fun w1 =>
  zlet (xs w1 g 149 (xg w1 h 149)) fun w2 =>
  zlet (xs w2 g 150 (xg w2 h 150)) fun w3 =>
  zlet (xs w3 g 151 (xg w3 h 151)) fun w4 =>
  zlet (xs w4 g 144 (xg w4 h 144)) fun w5 =>
  zlet (xs w5 g 145 (xg w5 h 145)) fun w6 =>
  zlet (xs w6 g 146 (xg w6 h 146)) fun w7 =>
  zlet (xs w7 g 147 (xg w7 h 147)) fun w8 =>
  zlet (xs w8 g 148 (zb (xg w8 h 148))) fun w9 =>
  zlet (xs w9 g 152 (xg w9 h 152)) fun w10 =>
  zlet (xs w10 g 153 (xg w10 h 153)) fun w11 =>
  zlet (xs w11 g 154 (xg w11 h 154)) fun w12 =>
  zlet (xs w12 g 155 (xg w12 h 155)) fun w13 =>
  zlet (xs w13 g 156 (xg w13 h 156)) fun w14 =>
  zlet (xs w14 g 158 (xg w14 h 158)) fun w15 =>
  w15
set_option maxRecDepth 100000 in
set_option maxHeartbeats 4000000 in
theorem c_X1_copyFrom (G : zG) (N : Nat) (hN : 47 ≤ N) (hg : zGeo G N) (w : xW) (g : Nat) (h_g : g < 7) (h : Nat) (h_h : h < 7) : zM yX1_copyFrom cX1_copyFrom 2 none 2 81 G N [.ref (zad G (5 + 6 * g)), .ref (zad G (5 + 6 * h))] w none (d_X1_copyFrom w g h) := by
  generalize hT : d_X1_copyFrom w g h = u
  unfold d_X1_copyFrom at hT
  refine zM_of zy_X1_copyFrom.2.2.2.2.2.2.2 hg ⟨Nat.le_of_ble_eq_true rfl, by decide⟩ rfl (fun k ok hE hI => ?_)
  have old := hE.old
  refine z_aload_n ok dX1_copyFrom_0 0 rfl ?_
  refine z_get_X1_board ok dX1_copyFrom_1 g h_g hN zw_88 ?_
  refine z_aload_n ok dX1_copyFrom_4 1 rfl ?_
  refine z_get_X1_board ok dX1_copyFrom_5 h h_h hN zw_88 ?_
  refine z_callVNv ok old dX1_copyFrom_8 [] (c_X0_copyFrom G N hN hg w g h_g h h_h) zy_X0_copyFrom zw_218 (6 + 6 * g) (zg_lt' hN h_g) (zE_board G w h_g) rfl rfl rfl rfl rfl (by decide) (Nat.le_of_ble_eq_true rfl) ?_
  replace hT := zlet_open hT
  obtain ⟨w1, hw1, hT⟩ := hT
  rw [← hw1]
  refine z_aload_n ok dX1_copyFrom_11 0 rfl ?_
  refine z_aload_n ok dX1_copyFrom_12 1 rfl ?_
  refine z_get_X1_limit ok dX1_copyFrom_13 h h_h hN zw_90 ?_
  refine z_put_X1_limit ok dX1_copyFrom_16 g h_g hN zw_90 ?_
  replace hT := zlet_open hT
  obtain ⟨w2, hw2, hT⟩ := hT
  rw [← hw2]
  refine z_aload_n ok dX1_copyFrom_19 0 rfl ?_
  refine z_aload_n ok dX1_copyFrom_20 1 rfl ?_
  refine z_get_X1_bonus ok dX1_copyFrom_21 h h_h hN zw_92 ?_
  refine z_put_X1_bonus ok dX1_copyFrom_24 g h_g hN zw_92 ?_
  replace hT := zlet_open hT
  obtain ⟨w3, hw3, hT⟩ := hT
  rw [← hw3]
  refine z_aload_n ok dX1_copyFrom_27 0 rfl ?_
  refine z_aload_n ok dX1_copyFrom_28 1 rfl ?_
  refine z_get_X1_winding ok dX1_copyFrom_29 h h_h hN zw_93 ?_
  refine z_put_X1_winding ok dX1_copyFrom_32 g h_g hN zw_93 ?_
  replace hT := zlet_open hT
  obtain ⟨w4, hw4, hT⟩ := hT
  rw [← hw4]
  refine z_aload_n ok dX1_copyFrom_35 0 rfl ?_
  refine z_aload_n ok dX1_copyFrom_36 1 rfl ?_
  refine z_get_X1_mover ok dX1_copyFrom_37 h h_h hN zw_94 ?_
  refine z_put_X1_mover ok dX1_copyFrom_40 g h_g hN zw_94 ?_
  replace hT := zlet_open hT
  obtain ⟨w5, hw5, hT⟩ := hT
  rw [← hw5]
  refine z_aload_n ok dX1_copyFrom_43 0 rfl ?_
  refine z_aload_n ok dX1_copyFrom_44 1 rfl ?_
  refine z_get_X1_ending ok dX1_copyFrom_45 h h_h hN zw_96 ?_
  refine z_put_X1_ending ok dX1_copyFrom_48 g h_g hN zw_96 ?_
  replace hT := zlet_open hT
  obtain ⟨w6, hw6, hT⟩ := hT
  rw [← hw6]
  refine z_aload_n ok dX1_copyFrom_51 0 rfl ?_
  refine z_aload_n ok dX1_copyFrom_52 1 rfl ?_
  refine z_get_X1_winner ok dX1_copyFrom_53 h h_h hN zw_98 ?_
  refine z_put_X1_winner ok dX1_copyFrom_56 g h_g hN zw_98 ?_
  replace hT := zlet_open hT
  obtain ⟨w7, hw7, hT⟩ := hT
  rw [← hw7]
  refine z_aload_n ok dX1_copyFrom_59 0 rfl ?_
  refine z_aload_n ok dX1_copyFrom_60 1 rfl ?_
  refine z_get_X1_turnsMade ok dX1_copyFrom_61 h h_h hN zw_100 ?_
  refine z_put_X1_turnsMade ok dX1_copyFrom_64 g h_g hN zw_100 ?_
  replace hT := zlet_open hT
  obtain ⟨w8, hw8, hT⟩ := hT
  rw [← hw8]
  refine z_aload_n ok dX1_copyFrom_67 0 rfl ?_
  refine z_aload_n ok dX1_copyFrom_68 1 rfl ?_
  refine z_get_X1_justPassed ok dX1_copyFrom_69 h h_h hN zw_102 ?_
  refine z_put_X1_justPassed ok dX1_copyFrom_72 g h_g hN (zbz _).symm zw_102 ?_
  replace hT := zlet_open hT
  obtain ⟨w9, hw9, hT⟩ := hT
  rw [← hw9]
  refine z_aload_n ok dX1_copyFrom_75 0 rfl ?_
  refine z_aload_n ok dX1_copyFrom_76 1 rfl ?_
  refine z_get_X1_atBeginning ok dX1_copyFrom_77 h h_h hN zw_103 ?_
  refine z_put_X1_atBeginning ok dX1_copyFrom_80 g h_g hN zw_103 ?_
  replace hT := zlet_open hT
  obtain ⟨w10, hw10, hT⟩ := hT
  rw [← hw10]
  refine z_aload_n ok dX1_copyFrom_83 0 rfl ?_
  refine z_aload_n ok dX1_copyFrom_84 1 rfl ?_
  refine z_get_X1_wound ok dX1_copyFrom_85 h h_h hN zw_104 ?_
  refine z_put_X1_wound ok dX1_copyFrom_88 g h_g hN zw_104 ?_
  replace hT := zlet_open hT
  obtain ⟨w11, hw11, hT⟩ := hT
  rw [← hw11]
  refine z_aload_n ok dX1_copyFrom_91 0 rfl ?_
  refine z_aload_n ok dX1_copyFrom_92 1 rfl ?_
  refine z_get_X1_gainedByBonus ok dX1_copyFrom_93 h h_h hN zw_105 ?_
  refine z_put_X1_gainedByBonus ok dX1_copyFrom_96 g h_g hN zw_105 ?_
  replace hT := zlet_open hT
  obtain ⟨w12, hw12, hT⟩ := hT
  rw [← hw12]
  refine z_aload_n ok dX1_copyFrom_99 0 rfl ?_
  refine z_aload_n ok dX1_copyFrom_100 1 rfl ?_
  refine z_get_X1_spent ok dX1_copyFrom_101 h h_h hN zw_106 ?_
  refine z_put_X1_spent ok dX1_copyFrom_104 g h_g hN zw_106 ?_
  replace hT := zlet_open hT
  obtain ⟨w13, hw13, hT⟩ := hT
  rw [← hw13]
  refine z_aload_n ok dX1_copyFrom_107 0 rfl ?_
  refine z_aload_n ok dX1_copyFrom_108 1 rfl ?_
  refine z_get_X1_lost ok dX1_copyFrom_109 h h_h hN zw_107 ?_
  refine z_put_X1_lost ok dX1_copyFrom_112 g h_g hN zw_107 ?_
  replace hT := zlet_open hT
  obtain ⟨w14, hw14, hT⟩ := hT
  rw [← hw14]
  refine z_aload_n ok dX1_copyFrom_115 0 rfl ?_
  refine z_aload_n ok dX1_copyFrom_116 1 rfl ?_
  refine z_get_X1_putOn ok dX1_copyFrom_117 h h_h hN zw_108 ?_
  refine z_put_X1_putOn ok dX1_copyFrom_120 g h_g hN zw_108 ?_
  replace hT := zlet_open hT
  obtain ⟨w15, hw15, hT⟩ := hT
  rw [← hw15]
  exact z_vret ok hE dX1_copyFrom_123 hT

def d_X1_begin (w : xW) (g : Nat) : xW :=
  zlet (d_X0_arrange w g ((xg w g 149) / 2)) fun w1 =>
  zlet (xs w1 g 144 0) fun w2 =>
  zlet (xs w2 g 145 0) fun w3 =>
  zlet (xs w3 g 146 (-1)) fun w4 =>
  zlet (xs w4 g 147 0) fun w5 =>
  zlet (xs w5 g 148 0) fun w6 =>
  zlet (xs w6 g 152 (d_X0_springsInAll w6 g)) fun w7 =>
  zlet (xs w7 g 153 0) fun w8 =>
  zlet (xs w8 g 154 0) fun w9 =>
  zlet (xs w9 g 155 0) fun w10 =>
  zlet (xs w10 g 156 0) fun w11 =>
  zlet (xs w11 g 158 0) fun w12 =>
  w12
set_option maxRecDepth 100000 in
set_option maxHeartbeats 4000000 in
theorem c_X1_begin (G : zG) (N : Nat) (hN : 47 ≤ N) (hg : zGeo G N) (w : xW) (g : Nat) (h_g : g < 7) : zM yX1_begin cX1_begin 1 none 4 87 G N [.ref (zad G (5 + 6 * g))] w none (d_X1_begin w g) := by
  generalize hT : d_X1_begin w g = u
  unfold d_X1_begin at hT
  refine zM_of zy_X1_begin.2.2.2.2.2.2.2 hg ⟨Nat.le_of_ble_eq_true rfl, by decide⟩ rfl (fun k ok hE hI => ?_)
  have old := hE.old
  refine z_aload_n ok dX1_begin_0 0 rfl ?_
  refine z_get_X1_board ok dX1_begin_1 g h_g hN zw_88 ?_
  refine z_aload_n ok dX1_begin_4 0 rfl ?_
  refine z_get_X1_limit ok dX1_begin_5 g h_g hN zw_90 ?_
  refine z_iconst ok dX1_begin_8 (x := 2) (by decide) ?_
  refine z_idiv ok dX1_begin_9 (by decide) ?_
  refine z_callVNv ok old dX1_begin_10 [] (c_X0_arrange G N hN hg w g h_g ((xg w g 149) / 2)) zy_X0_arrange zw_145 (6 + 6 * g) (zg_lt' hN h_g) (zE_board G w h_g) rfl rfl rfl rfl rfl (by decide) (Nat.le_of_ble_eq_true rfl) ?_
  replace hT := zlet_open hT
  obtain ⟨w1, hw1, hT⟩ := hT
  rw [← hw1]
  refine z_aload_n ok dX1_begin_13 0 rfl ?_
  refine z_iconst ok dX1_begin_14 (x := 0) (by decide) ?_
  refine z_put_X1_mover ok dX1_begin_15 g h_g hN zw_94 ?_
  replace hT := zlet_open hT
  obtain ⟨w2, hw2, hT⟩ := hT
  rw [← hw2]
  refine z_aload_n ok dX1_begin_18 0 rfl ?_
  refine z_iconst ok dX1_begin_19 (x := 0) (by decide) ?_
  refine z_put_X1_ending ok dX1_begin_20 g h_g hN zw_96 ?_
  replace hT := zlet_open hT
  obtain ⟨w3, hw3, hT⟩ := hT
  rw [← hw3]
  refine z_aload_n ok dX1_begin_23 0 rfl ?_
  refine z_iconst ok dX1_begin_24 (x := (-1)) (by decide) ?_
  refine z_put_X1_winner ok dX1_begin_25 g h_g hN zw_98 ?_
  replace hT := zlet_open hT
  obtain ⟨w4, hw4, hT⟩ := hT
  rw [← hw4]
  refine z_aload_n ok dX1_begin_28 0 rfl ?_
  refine z_iconst ok dX1_begin_29 (x := 0) (by decide) ?_
  refine z_put_X1_turnsMade ok dX1_begin_30 g h_g hN zw_100 ?_
  replace hT := zlet_open hT
  obtain ⟨w5, hw5, hT⟩ := hT
  rw [← hw5]
  refine z_aload_n ok dX1_begin_33 0 rfl ?_
  refine z_iconst ok dX1_begin_34 (x := 0) (by decide) ?_
  refine z_put_X1_justPassed ok dX1_begin_35 g h_g hN (by decide) zw_102 ?_
  replace hT := zlet_open hT
  obtain ⟨w6, hw6, hT⟩ := hT
  rw [← hw6]
  refine z_aload_n ok dX1_begin_38 0 rfl ?_
  refine z_aload_n ok dX1_begin_39 0 rfl ?_
  refine z_get_X1_board ok dX1_begin_40 g h_g hN zw_88 ?_
  refine z_callVNi ok old dX1_begin_43 [.ref (zad G (5 + 6 * g))] (c_X0_springsInAll G N hN hg w6 g h_g) zy_X0_springsInAll zw_168 (6 + 6 * g) (zg_lt' hN h_g) (zE_board G w6 h_g) rfl rfl rfl rfl rfl (by decide) (Nat.le_of_ble_eq_true rfl) ?_
  refine z_put_X1_atBeginning ok dX1_begin_46 g h_g hN zw_103 ?_
  replace hT := zlet_open hT
  obtain ⟨w7, hw7, hT⟩ := hT
  rw [← hw7]
  refine z_aload_n ok dX1_begin_49 0 rfl ?_
  refine z_iconst ok dX1_begin_50 (x := 0) (by decide) ?_
  refine z_put_X1_wound ok dX1_begin_51 g h_g hN zw_104 ?_
  replace hT := zlet_open hT
  obtain ⟨w8, hw8, hT⟩ := hT
  rw [← hw8]
  refine z_aload_n ok dX1_begin_54 0 rfl ?_
  refine z_iconst ok dX1_begin_55 (x := 0) (by decide) ?_
  refine z_put_X1_gainedByBonus ok dX1_begin_56 g h_g hN zw_105 ?_
  replace hT := zlet_open hT
  obtain ⟨w9, hw9, hT⟩ := hT
  rw [← hw9]
  refine z_aload_n ok dX1_begin_59 0 rfl ?_
  refine z_iconst ok dX1_begin_60 (x := 0) (by decide) ?_
  refine z_put_X1_spent ok dX1_begin_61 g h_g hN zw_106 ?_
  replace hT := zlet_open hT
  obtain ⟨w10, hw10, hT⟩ := hT
  rw [← hw10]
  refine z_aload_n ok dX1_begin_64 0 rfl ?_
  refine z_iconst ok dX1_begin_65 (x := 0) (by decide) ?_
  refine z_put_X1_lost ok dX1_begin_66 g h_g hN zw_107 ?_
  replace hT := zlet_open hT
  obtain ⟨w11, hw11, hT⟩ := hT
  rw [← hw11]
  refine z_aload_n ok dX1_begin_69 0 rfl ?_
  refine z_iconst ok dX1_begin_70 (x := 0) (by decide) ?_
  refine z_put_X1_putOn ok dX1_begin_71 g h_g hN zw_108 ?_
  replace hT := zlet_open hT
  obtain ⟨w12, hw12, hT⟩ := hT
  rw [← hw12]
  exact z_vret ok hE dX1_begin_74 hT

def d_X1_isOver (w : xW) (g : Nat) : Int32 :=
  if (xg w g 145) = 0 then (0)
  else (1)
set_option maxRecDepth 100000 in
set_option maxHeartbeats 4000000 in
theorem c_X1_isOver (G : zG) (N : Nat) (hN : 47 ≤ N) (hg : zGeo G N) (w : xW) (g : Nat) (h_g : g < 7) : zM yX1_isOver cX1_isOver 1 (some .boolean) 0 0 G N [.ref (zad G (5 + 6 * g))] w (some (d_X1_isOver w g)) w := by
  generalize hT : d_X1_isOver w g = r
  unfold d_X1_isOver at hT
  refine zM_of zy_X1_isOver.2.2.2.2.2.2.2 hg ⟨Nat.le_of_ble_eq_true rfl, by decide⟩ rfl (fun k ok hE hI => ?_)
  have old := hE.old
  refine z_aload_n ok dX1_isOver_0 0 rfl ?_
  refine z_get_X1_ending ok dX1_isOver_1 g h_g hN zw_96 ?_
  refine z_if_eq ok dX1_isOver_4 11 (by decide) (fun c1 => ?_) (fun c1 => ?_)
  · rw [if_pos c1] at hT
    refine z_iconst ok dX1_isOver_11 (x := 0) (by decide) ?_
    exact z_iret ok hE dX1_isOver_12 rfl ⟨hT, rfl⟩
  · rw [if_neg c1] at hT
    refine z_iconst ok dX1_isOver_7 (x := 1) (by decide) ?_
    refine z_goto ok dX1_isOver_8 12 (by decide) ?_
    exact z_iret ok hE dX1_isOver_12 rfl ⟨hT, rfl⟩

def d_X1_setting (w : xW) (g : Nat) (what : Int32) : Int32 :=
  if what = 0 then ((xg w g 149))
  else (if what = 1 then ((xg w g 150))
  else ((xg w g 151)))
set_option maxRecDepth 100000 in
set_option maxHeartbeats 4000000 in
theorem c_X1_setting (G : zG) (N : Nat) (hN : 47 ≤ N) (hg : zGeo G N) (w : xW) (g : Nat) (h_g : g < 7) (what : Int32) : zM yX1_setting cX1_setting 2 (some .int) 0 0 G N [.ref (zad G (5 + 6 * g)), .int what] w (some (d_X1_setting w g what)) w := by
  generalize hT : d_X1_setting w g what = r
  unfold d_X1_setting at hT
  refine zM_of zy_X1_setting.2.2.2.2.2.2.2 hg ⟨Nat.le_of_ble_eq_true rfl, by decide⟩ rfl (fun k ok hE hI => ?_)
  have old := hE.old
  refine z_iload_n ok dX1_setting_0 1 rfl ?_
  by_cases c1 : what = 0
  · rw [if_pos c1] at hT
    refine z_lookup ok dX1_setting_1 28 27 (by decide) (by rw [c1]; decide) (by decide) ?_
    refine z_aload_n ok dX1_setting_28 0 rfl ?_
    refine z_get_X1_limit ok dX1_setting_29 g h_g hN zw_90 ?_
    exact z_iret ok hE dX1_setting_32 rfl ⟨hT, rfl⟩
  · rw [if_neg c1] at hT
    by_cases c2 : what = 1
    · rw [if_pos c2] at hT
      refine z_lookup ok dX1_setting_1 33 32 (by decide) (by rw [c2]; decide) (by decide) ?_
      refine z_aload_n ok dX1_setting_33 0 rfl ?_
      refine z_get_X1_bonus ok dX1_setting_34 g h_g hN zw_92 ?_
      exact z_iret ok hE dX1_setting_37 rfl ⟨hT, rfl⟩
    · rw [if_neg c2] at hT
      refine z_lookup ok dX1_setting_1 38 37 (by decide) (zlook_out2 c1 c2) (by decide) ?_
      refine z_aload_n ok dX1_setting_38 0 rfl ?_
      refine z_get_X1_winding ok dX1_setting_39 g h_g hN zw_93 ?_
      exact z_iret ok hE dX1_setting_42 rfl ⟨hT, rfl⟩

def d_X1_cutSprings_2k  (e1_1 : Nat) (ew1 : xW) : xW :=
  ew1
def d_X1_cutSprings_2 (g : Nat) (kt1 : Nat → xW → xW) : Nat → Nat → xW → xW
  | 0, _, _ => default
  | n1 + 1, v1_1, vw1 => if 36 ≤ v1_1 then (kt1 v1_1 vw1)
  else (zlet (((d_X0_springOn vw1 g v1_1) - (xg vw1 g 149))) fun x3 =>
  if x3 ≤ 0 then (d_X1_cutSprings_2 g kt1 n1 (v1_1 + 1) vw1)
  else (zlet (d_X0_changeSpring vw1 g v1_1 (xg vw1 g 149)) fun w5 =>
  zlet (xs w5 g 158 ((xg w5 g 158) - x3)) fun w6 =>
  d_X1_cutSprings_2 g kt1 n1 (v1_1 + 1) w6))
def d_X1_cutSprings (w : xW) (g : Nat) : xW :=
  d_X1_cutSprings_2 g d_X1_cutSprings_2k 37 0 w
set_option maxRecDepth 100000 in
set_option maxHeartbeats 4000000 in
theorem c_X1_cutSprings (G : zG) (N : Nat) (hN : 47 ≤ N) (hg : zGeo G N) (w : xW) (g : Nat) (h_g : g < 7) : zM yX1_cutSprings cX1_cutSprings 3 none 2 42 G N [.ref (zad G (5 + 6 * g))] w none (d_X1_cutSprings w g) := by
  generalize hT : d_X1_cutSprings w g = u
  unfold d_X1_cutSprings at hT
  refine zM_of zy_X1_cutSprings.2.2.2.2.2.2.2 hg ⟨Nat.le_of_ble_eq_true rfl, by decide⟩ rfl (fun k ok hE hI => ?_)
  have old := hE.old
  refine z_iconst ok dX1_cutSprings_0 (x := 0) (by decide) ?_
  refine z_istore_n ok dX1_cutSprings_1 (hI 1 (by decide)) (lv' := [(1, .int 0), (0, .ref (zad G (5 + 6 * g)))]) rfl ?_
  refine z_locs [1, 0] (lv' := [(0, .ref (zad G (5 + 6 * g))), (1, .int 0)]) rfl ?_
  obtain ⟨kt1, hkt1⟩ : ∃ z, z = d_X1_cutSprings_2k := ⟨_, rfl⟩
  rw [← hkt1] at hT
  have hk1 : ∀ (e1_1 : Nat) (ew1 : xW), e1_1 ≤ 36 → kt1 e1_1 ew1 = u → zZ k G N ew1 54 [(0, .ref (zad G (5 + 6 * g))), (1, .int (nI e1_1))] [] := by
    intro e1_1 ew1 q1_0 hT1
    rw [hkt1, d_X1_cutSprings_2k] at hT1
    exact z_vret ok hE dX1_cutSprings_54 hT1
  have hl1 : ∀ (n1 : Nat) (v1_1 : Nat) (vw1 : xW), 36 < v1_1 + n1 → v1_1 ≤ 36 → d_X1_cutSprings_2 g kt1 n1 v1_1 vw1 = u → zZ k G N vw1 2 [(0, .ref (zad G (5 + 6 * g))), (1, .int (nI v1_1))] [] := by
    intro n1
    induction n1 with
    | zero =>
      intro v1_1 vw1 q1_0 q1_1
      exact absurd q1_0 (by omega)
    | succ n1 ih1 =>
      intro v1_1 vw1 q1_0 q1_1 hT1
      rw [d_X1_cutSprings_2] at hT1
      refine z_iload_n ok dX1_cutSprings_2 1 rfl ?_
      refine z_bipush ok dX1_cutSprings_3 (x := 36) (by decide) ?_
      refine z_icmp_ge_n ok dX1_cutSprings_5 54 (by decide) v1_1 36 rfl rfl (by omega) (fun c2 => ?_) (fun c2 => ?_)
      · rw [if_pos c2] at hT1
        refine z_locs [0, 1] (lv' := [(0, .ref (zad G (5 + 6 * g))), (1, .int (nI v1_1))]) rfl ?_
        exact hk1 v1_1 vw1 (by omega) hT1
      · rw [if_neg c2] at hT1
        refine z_aload_n ok dX1_cutSprings_8 0 rfl ?_
        refine z_get_X1_board ok dX1_cutSprings_9 g h_g hN zw_88 ?_
        refine z_iload_n ok dX1_cutSprings_12 1 rfl ?_
        refine z_callVNi ok old dX1_cutSprings_13 [] (c_X0_springOn G N hN hg vw1 g h_g v1_1 (by omega)) zy_X0_springOn zw_245 (6 + 6 * g) (zg_lt' hN h_g) (zE_board G vw1 h_g) rfl rfl rfl rfl rfl (by decide) (Nat.le_of_ble_eq_true rfl) ?_
        refine z_aload_n ok dX1_cutSprings_16 0 rfl ?_
        refine z_get_X1_limit ok dX1_cutSprings_17 g h_g hN zw_90 ?_
        refine z_isub ok dX1_cutSprings_20 ?_
        replace hT1 := zlet_open hT1
        obtain ⟨x3, hx3, hT1⟩ := hT1
        rw [← hx3]
        refine z_istore_n ok dX1_cutSprings_21 (hI 2 (by decide)) (lv' := [(2, .int x3), (0, .ref (zad G (5 + 6 * g))), (1, .int (nI v1_1))]) rfl ?_
        refine z_iload_n ok dX1_cutSprings_22 0 rfl ?_
        refine z_if_le ok dX1_cutSprings_23 48 (by decide) (fun c4 => ?_) (fun c4 => ?_)
        · rw [if_pos c4] at hT1
          refine z_iinc ok dX1_cutSprings_48 (hI 1 (by decide)) 2 rfl (y := (nI (v1_1 + 1))) (z_incn v1_1 1) (lv' := [(1, .int (nI (v1_1 + 1))), (2, .int x3), (0, .ref (zad G (5 + 6 * g)))]) rfl ?_
          refine z_goto ok dX1_cutSprings_51 2 (by decide) ?_
          refine z_locs [2, 0] (lv' := [(0, .ref (zad G (5 + 6 * g))), (1, .int (nI (v1_1 + 1)))]) rfl ?_
          exact ih1 (v1_1 + 1) vw1 (by omega) (by omega) hT1
        · rw [if_neg c4] at hT1
          refine z_aload_n ok dX1_cutSprings_26 1 rfl ?_
          refine z_get_X1_board ok dX1_cutSprings_27 g h_g hN zw_88 ?_
          refine z_iload_n ok dX1_cutSprings_30 2 rfl ?_
          refine z_aload_n ok dX1_cutSprings_31 1 rfl ?_
          refine z_get_X1_limit ok dX1_cutSprings_32 g h_g hN zw_90 ?_
          refine z_callVNv ok old dX1_cutSprings_35 [] (c_X0_changeSpring G N hN hg vw1 g h_g v1_1 (by omega) (xg vw1 g 149)) zy_X0_changeSpring zw_249 (6 + 6 * g) (zg_lt' hN h_g) (zE_board G vw1 h_g) rfl rfl rfl rfl rfl (by decide) (Nat.le_of_ble_eq_true rfl) ?_
          replace hT1 := zlet_open hT1
          obtain ⟨w5, hw5, hT1⟩ := hT1
          rw [← hw5]
          refine z_aload_n ok dX1_cutSprings_38 1 rfl ?_
          refine z_dup ok dX1_cutSprings_39 rfl ?_
          refine z_get_X1_putOn ok dX1_cutSprings_40 g h_g hN zw_108 ?_
          refine z_iload_n ok dX1_cutSprings_43 0 rfl ?_
          refine z_isub ok dX1_cutSprings_44 ?_
          refine z_put_X1_putOn ok dX1_cutSprings_45 g h_g hN zw_108 ?_
          replace hT1 := zlet_open hT1
          obtain ⟨w6, hw6, hT1⟩ := hT1
          rw [← hw6]
          refine z_iinc ok dX1_cutSprings_48 (hI 1 (by decide)) 2 rfl (y := (nI (v1_1 + 1))) (z_incn v1_1 1) (lv' := [(1, .int (nI (v1_1 + 1))), (2, .int x3), (0, .ref (zad G (5 + 6 * g)))]) rfl ?_
          refine z_goto ok dX1_cutSprings_51 2 (by decide) ?_
          refine z_locs [2, 0] (lv' := [(0, .ref (zad G (5 + 6 * g))), (1, .int (nI (v1_1 + 1)))]) rfl ?_
          exact ih1 (v1_1 + 1) w6 (by omega) (by omega) hT1
  exact hl1 37 0 w (by omega) (by omega) hT

def d_X1_changeSetting (w : xW) (g : Nat) (what : Int32) (value : Int32) : xW :=
  if what = 0 then (zlet (xs w g 149 value) fun w2 =>
  zlet (d_X1_cutSprings w2 g) fun w3 =>
  w3)
  else (if what = 1 then (zlet (xs w g 150 value) fun w5 =>
  w5)
  else (zlet (xs w g 151 value) fun w6 =>
  w6))
set_option maxRecDepth 100000 in
set_option maxHeartbeats 4000000 in
theorem c_X1_changeSetting (G : zG) (N : Nat) (hN : 47 ≤ N) (hg : zGeo G N) (w : xW) (g : Nat) (h_g : g < 7) (what : Int32) (value : Int32) : zM yX1_changeSetting cX1_changeSetting 3 none 3 64 G N [.ref (zad G (5 + 6 * g)), .int what, .int value] w none (d_X1_changeSetting w g what value) := by
  generalize hT : d_X1_changeSetting w g what value = u
  unfold d_X1_changeSetting at hT
  refine zM_of zy_X1_changeSetting.2.2.2.2.2.2.2 hg ⟨Nat.le_of_ble_eq_true rfl, by decide⟩ rfl (fun k ok hE hI => ?_)
  have old := hE.old
  refine z_iload_n ok dX1_changeSetting_0 1 rfl ?_
  by_cases c1 : what = 0
  · rw [if_pos c1] at hT
    refine z_lookup ok dX1_changeSetting_1 28 27 (by decide) (by rw [c1]; decide) (by decide) ?_
    refine z_aload_n ok dX1_changeSetting_28 0 rfl ?_
    refine z_iload_n ok dX1_changeSetting_29 2 rfl ?_
    refine z_put_X1_limit ok dX1_changeSetting_30 g h_g hN zw_90 ?_
    replace hT := zlet_open hT
    obtain ⟨w2, hw2, hT⟩ := hT
    rw [← hw2]
    refine z_aload_n ok dX1_changeSetting_33 0 rfl ?_
    refine z_callVv ok old dX1_changeSetting_34 [] (c_X1_cutSprings G N hN hg w2 g h_g) zy_X1_cutSprings zw_241 (5 + 6 * g) (zg_lt hN h_g) (zE_game G w2 h_g) rfl rfl rfl rfl rfl (by decide) (Nat.le_of_ble_eq_true rfl) ?_
    replace hT := zlet_open hT
    obtain ⟨w3, hw3, hT⟩ := hT
    rw [← hw3]
    refine z_goto ok dX1_changeSetting_37 53 (by decide) ?_
    exact z_vret ok hE dX1_changeSetting_53 hT
  · rw [if_neg c1] at hT
    by_cases c4 : what = 1
    · rw [if_pos c4] at hT
      refine z_lookup ok dX1_changeSetting_1 40 39 (by decide) (by rw [c4]; decide) (by decide) ?_
      refine z_aload_n ok dX1_changeSetting_40 0 rfl ?_
      refine z_iload_n ok dX1_changeSetting_41 2 rfl ?_
      refine z_put_X1_bonus ok dX1_changeSetting_42 g h_g hN zw_92 ?_
      replace hT := zlet_open hT
      obtain ⟨w5, hw5, hT⟩ := hT
      rw [← hw5]
      refine z_goto ok dX1_changeSetting_45 53 (by decide) ?_
      exact z_vret ok hE dX1_changeSetting_53 hT
    · rw [if_neg c4] at hT
      refine z_lookup ok dX1_changeSetting_1 48 47 (by decide) (zlook_out2 c1 c4) (by decide) ?_
      refine z_aload_n ok dX1_changeSetting_48 0 rfl ?_
      refine z_iload_n ok dX1_changeSetting_49 2 rfl ?_
      refine z_put_X1_winding ok dX1_changeSetting_50 g h_g hN zw_93 ?_
      replace hT := zlet_open hT
      obtain ⟨w6, hw6, hT⟩ := hT
      rw [← hw6]
      exact z_vret ok hE dX1_changeSetting_53 hT

def d_X1_account (w : xW) (g : Nat) (number : Int32) : Int32 :=
  if number = 0 then ((xg w g 152))
  else (if number = 1 then ((xg w g 153))
  else (if number = 2 then ((xg w g 154))
  else (if number = 3 then ((xg w g 155))
  else (if number = 4 then ((xg w g 156))
  else (if number = 5 then ((d_X0_springsInAll w g))
  else ((xg w g 158)))))))
set_option maxRecDepth 100000 in
set_option maxHeartbeats 4000000 in
theorem c_X1_account (G : zG) (N : Nat) (hN : 47 ≤ N) (hg : zGeo G N) (w : xW) (g : Nat) (h_g : g < 7) (number : Int32) : zM yX1_account cX1_account 2 (some .int) 2 43 G N [.ref (zad G (5 + 6 * g)), .int number] w (some (d_X1_account w g number)) w := by
  generalize hT : d_X1_account w g number = r
  unfold d_X1_account at hT
  refine zM_of zy_X1_account.2.2.2.2.2.2.2 hg ⟨Nat.le_of_ble_eq_true rfl, by decide⟩ rfl (fun k ok hE hI => ?_)
  have old := hE.old
  refine z_iload_n ok dX1_account_0 1 rfl ?_
  by_cases c1 : number = 0
  · rw [if_pos c1] at hT
    refine z_tableIn ok dX1_account_1 40 39 (by rw [c1]; decide) ?_
    refine z_aload_n ok dX1_account_40 0 rfl ?_
    refine z_get_X1_atBeginning ok dX1_account_41 g h_g hN zw_103 ?_
    exact z_iret ok hE dX1_account_44 rfl ⟨hT, rfl⟩
  · rw [if_neg c1] at hT
    by_cases c2 : number = 1
    · rw [if_pos c2] at hT
      refine z_tableIn ok dX1_account_1 45 44 (by rw [c2]; decide) ?_
      refine z_aload_n ok dX1_account_45 0 rfl ?_
      refine z_get_X1_wound ok dX1_account_46 g h_g hN zw_104 ?_
      exact z_iret ok hE dX1_account_49 rfl ⟨hT, rfl⟩
    · rw [if_neg c2] at hT
      by_cases c3 : number = 2
      · rw [if_pos c3] at hT
        refine z_tableIn ok dX1_account_1 50 49 (by rw [c3]; decide) ?_
        refine z_aload_n ok dX1_account_50 0 rfl ?_
        refine z_get_X1_gainedByBonus ok dX1_account_51 g h_g hN zw_105 ?_
        exact z_iret ok hE dX1_account_54 rfl ⟨hT, rfl⟩
      · rw [if_neg c3] at hT
        by_cases c4 : number = 3
        · rw [if_pos c4] at hT
          refine z_tableIn ok dX1_account_1 55 54 (by rw [c4]; decide) ?_
          refine z_aload_n ok dX1_account_55 0 rfl ?_
          refine z_get_X1_spent ok dX1_account_56 g h_g hN zw_106 ?_
          exact z_iret ok hE dX1_account_59 rfl ⟨hT, rfl⟩
        · rw [if_neg c4] at hT
          by_cases c5 : number = 4
          · rw [if_pos c5] at hT
            refine z_tableIn ok dX1_account_1 60 59 (by rw [c5]; decide) ?_
            refine z_aload_n ok dX1_account_60 0 rfl ?_
            refine z_get_X1_lost ok dX1_account_61 g h_g hN zw_107 ?_
            exact z_iret ok hE dX1_account_64 rfl ⟨hT, rfl⟩
          · rw [if_neg c5] at hT
            by_cases c6 : number = 5
            · rw [if_pos c6] at hT
              refine z_tableIn ok dX1_account_1 65 64 (by rw [c6]; decide) ?_
              refine z_aload_n ok dX1_account_65 0 rfl ?_
              refine z_get_X1_board ok dX1_account_66 g h_g hN zw_88 ?_
              refine z_callVNi ok old dX1_account_69 [] (c_X0_springsInAll G N hN hg w g h_g) zy_X0_springsInAll zw_168 (6 + 6 * g) (zg_lt' hN h_g) (zE_board G w h_g) rfl rfl rfl rfl rfl (by decide) (Nat.le_of_ble_eq_true rfl) ?_
              exact z_iret ok hE dX1_account_72 rfl ⟨hT, rfl⟩
            · rw [if_neg c6] at hT
              refine z_tableOut ok dX1_account_1 73 (ztab_out6 c1 c2 c3 c4 c5 c6) (by decide) ?_
              refine z_aload_n ok dX1_account_73 0 rfl ?_
              refine z_get_X1_putOn ok dX1_account_74 g h_g hN zw_108 ?_
              exact z_iret ok hE dX1_account_77 rfl ⟨hT, rfl⟩

def d_X1_putInstead (w : xW) (g : Nat) (c : Nat) (side : Int32) (kind : Int32) (spring : Int32) : xW :=
  zlet (xs w g 158 ((xg w g 158) - (d_X0_springOn w g c))) fun w1 =>
  if side = (-1) then (zlet (d_X0_empty w1 g c) fun w5 =>
  zlet (xs w5 g 158 ((xg w5 g 158) + (d_X0_springOn w5 g c))) fun w6 =>
  w6)
  else (zlet (d_X0_place w1 g c side kind spring) fun w3 =>
  zlet (xs w3 g 158 ((xg w3 g 158) + (d_X0_springOn w3 g c))) fun w4 =>
  w4)
set_option maxRecDepth 100000 in
set_option maxHeartbeats 4000000 in
theorem c_X1_putInstead (G : zG) (N : Nat) (hN : 47 ≤ N) (hg : zGeo G N) (w : xW) (g : Nat) (h_g : g < 7) (c : Nat) (h_c : c < 36) (side : Int32) (kind : Int32) (spring : Int32) : zM yX1_putInstead cX1_putInstead 5 none 3 65 G N [.ref (zad G (5 + 6 * g)), .int (nI c), .int side, .int kind, .int spring] w none (d_X1_putInstead w g c side kind spring) := by
  generalize hT : d_X1_putInstead w g c side kind spring = u
  unfold d_X1_putInstead at hT
  refine zM_of zy_X1_putInstead.2.2.2.2.2.2.2 hg ⟨Nat.le_of_ble_eq_true rfl, by decide⟩ rfl (fun k ok hE hI => ?_)
  have old := hE.old
  refine z_aload_n ok dX1_putInstead_0 0 rfl ?_
  refine z_dup ok dX1_putInstead_1 rfl ?_
  refine z_get_X1_putOn ok dX1_putInstead_2 g h_g hN zw_108 ?_
  refine z_aload_n ok dX1_putInstead_5 0 rfl ?_
  refine z_get_X1_board ok dX1_putInstead_6 g h_g hN zw_88 ?_
  refine z_iload_n ok dX1_putInstead_9 1 rfl ?_
  refine z_callVNi ok old dX1_putInstead_10 [.int (xg w g 158), .ref (zad G (5 + 6 * g))] (c_X0_springOn G N hN hg w g h_g c (by omega)) zy_X0_springOn zw_245 (6 + 6 * g) (zg_lt' hN h_g) (zE_board G w h_g) rfl rfl rfl rfl rfl (by decide) (Nat.le_of_ble_eq_true rfl) ?_
  refine z_isub ok dX1_putInstead_13 ?_
  refine z_put_X1_putOn ok dX1_putInstead_14 g h_g hN zw_108 ?_
  replace hT := zlet_open hT
  obtain ⟨w1, hw1, hT⟩ := hT
  rw [← hw1]
  refine z_iload_n ok dX1_putInstead_17 2 rfl ?_
  refine z_iconst ok dX1_putInstead_18 (x := (-1)) (by decide) ?_
  refine z_icmp_ne ok dX1_putInstead_19 33 (by decide) (fun c2 => ?_) (fun c2 => ?_)
  · rw [if_neg c2] at hT
    refine z_aload_n ok dX1_putInstead_33 0 rfl ?_
    refine z_get_X1_board ok dX1_putInstead_34 g h_g hN zw_88 ?_
    refine z_iload_n ok dX1_putInstead_37 1 rfl ?_
    refine z_iload_n ok dX1_putInstead_38 2 rfl ?_
    refine z_iload_n ok dX1_putInstead_39 3 rfl ?_
    refine z_iload ok dX1_putInstead_40 4 rfl ?_
    refine z_callVNv ok old dX1_putInstead_42 [] (c_X0_place G N hN hg w1 g h_g c (by omega) side kind spring) zy_X0_place zw_278 (6 + 6 * g) (zg_lt' hN h_g) (zE_board G w1 h_g) rfl rfl rfl rfl rfl (by decide) (Nat.le_of_ble_eq_true rfl) ?_
    replace hT := zlet_open hT
    obtain ⟨w3, hw3, hT⟩ := hT
    rw [← hw3]
    refine z_aload_n ok dX1_putInstead_45 0 rfl ?_
    refine z_dup ok dX1_putInstead_46 rfl ?_
    refine z_get_X1_putOn ok dX1_putInstead_47 g h_g hN zw_108 ?_
    refine z_aload_n ok dX1_putInstead_50 0 rfl ?_
    refine z_get_X1_board ok dX1_putInstead_51 g h_g hN zw_88 ?_
    refine z_iload_n ok dX1_putInstead_54 1 rfl ?_
    refine z_callVNi ok old dX1_putInstead_55 [.int (xg w3 g 158), .ref (zad G (5 + 6 * g))] (c_X0_springOn G N hN hg w3 g h_g c (by omega)) zy_X0_springOn zw_245 (6 + 6 * g) (zg_lt' hN h_g) (zE_board G w3 h_g) rfl rfl rfl rfl rfl (by decide) (Nat.le_of_ble_eq_true rfl) ?_
    refine z_iadd ok dX1_putInstead_58 ?_
    refine z_put_X1_putOn ok dX1_putInstead_59 g h_g hN zw_108 ?_
    replace hT := zlet_open hT
    obtain ⟨w4, hw4, hT⟩ := hT
    rw [← hw4]
    exact z_vret ok hE dX1_putInstead_62 hT
  · rw [if_pos c2] at hT
    refine z_aload_n ok dX1_putInstead_22 0 rfl ?_
    refine z_get_X1_board ok dX1_putInstead_23 g h_g hN zw_88 ?_
    refine z_iload_n ok dX1_putInstead_26 1 rfl ?_
    refine z_callVNv ok old dX1_putInstead_27 [] (c_X0_empty G N hN hg w1 g h_g c (by omega)) zy_X0_empty zw_277 (6 + 6 * g) (zg_lt' hN h_g) (zE_board G w1 h_g) rfl rfl rfl rfl rfl (by decide) (Nat.le_of_ble_eq_true rfl) ?_
    replace hT := zlet_open hT
    obtain ⟨w5, hw5, hT⟩ := hT
    rw [← hw5]
    refine z_goto ok dX1_putInstead_30 45 (by decide) ?_
    refine z_aload_n ok dX1_putInstead_45 0 rfl ?_
    refine z_dup ok dX1_putInstead_46 rfl ?_
    refine z_get_X1_putOn ok dX1_putInstead_47 g h_g hN zw_108 ?_
    refine z_aload_n ok dX1_putInstead_50 0 rfl ?_
    refine z_get_X1_board ok dX1_putInstead_51 g h_g hN zw_88 ?_
    refine z_iload_n ok dX1_putInstead_54 1 rfl ?_
    refine z_callVNi ok old dX1_putInstead_55 [.int (xg w5 g 158), .ref (zad G (5 + 6 * g))] (c_X0_springOn G N hN hg w5 g h_g c (by omega)) zy_X0_springOn zw_245 (6 + 6 * g) (zg_lt' hN h_g) (zE_board G w5 h_g) rfl rfl rfl rfl rfl (by decide) (Nat.le_of_ble_eq_true rfl) ?_
    refine z_iadd ok dX1_putInstead_58 ?_
    refine z_put_X1_putOn ok dX1_putInstead_59 g h_g hN zw_108 ?_
    replace hT := zlet_open hT
    obtain ⟨w6, hw6, hT⟩ := hT
    rw [← hw6]
    exact z_vret ok hE dX1_putInstead_62 hT

def d_X1_reasonAgainst (w : xW) (g : Nat) (f : Nat) (t : Nat) : Int32 :=
  if (d_X1_isOver w g) = 0 then (if (d_X0_hasPiece w g f) = 0 then (3)
  else (if (d_X0_sideOn w g f) = (xg w g 144) then (if (d_X0_sideOn w g t) = (xg w g 144) then (5)
  else (zlet ((d_X0_price w g f t)) fun x5 =>
  if x5 = 0 then (6)
  else (if x5 ≤ (d_X0_springOn w g f) then (0)
  else (7))))
  else (4)))
  else (2)
set_option maxRecDepth 100000 in
set_option maxHeartbeats 4000000 in
theorem c_X1_reasonAgainst (G : zG) (N : Nat) (hN : 47 ≤ N) (hg : zGeo G N) (w : xW) (g : Nat) (h_g : g < 7) (f : Nat) (h_f : f < 36) (t : Nat) (h_t : t < 36) : zM yX1_reasonAgainst cX1_reasonAgainst 4 (some .int) 3 77 G N [.ref (zad G (5 + 6 * g)), .int (nI f), .int (nI t)] w (some (d_X1_reasonAgainst w g f t)) w := by
  generalize hT : d_X1_reasonAgainst w g f t = r
  unfold d_X1_reasonAgainst at hT
  refine zM_of zy_X1_reasonAgainst.2.2.2.2.2.2.2 hg ⟨Nat.le_of_ble_eq_true rfl, by decide⟩ rfl (fun k ok hE hI => ?_)
  have old := hE.old
  refine z_aload_n ok dX1_reasonAgainst_0 0 rfl ?_
  refine z_callVi ok old dX1_reasonAgainst_1 [] (c_X1_isOver G N hN hg w g h_g) zy_X1_isOver zw_320 (5 + 6 * g) (zg_lt hN h_g) (zE_game G w h_g) rfl rfl rfl rfl rfl (by decide) (Nat.le_of_ble_eq_true rfl) ?_
  refine z_if_eq ok dX1_reasonAgainst_4 9 (by decide) (fun c1 => ?_) (fun c1 => ?_)
  · rw [if_pos c1] at hT
    refine z_aload_n ok dX1_reasonAgainst_9 0 rfl ?_
    refine z_get_X1_board ok dX1_reasonAgainst_10 g h_g hN zw_88 ?_
    refine z_iload_n ok dX1_reasonAgainst_13 1 rfl ?_
    refine z_callVNi ok old dX1_reasonAgainst_14 [] (c_X0_hasPiece G N hN hg w g h_g f (by omega)) zy_X0_hasPiece zw_321 (6 + 6 * g) (zg_lt' hN h_g) (zE_board G w h_g) rfl rfl rfl rfl rfl (by decide) (Nat.le_of_ble_eq_true rfl) ?_
    refine z_if_ne ok dX1_reasonAgainst_17 22 (by decide) (fun c2 => ?_) (fun c2 => ?_)
    · rw [if_neg c2] at hT
      refine z_aload_n ok dX1_reasonAgainst_22 0 rfl ?_
      refine z_get_X1_board ok dX1_reasonAgainst_23 g h_g hN zw_88 ?_
      refine z_iload_n ok dX1_reasonAgainst_26 1 rfl ?_
      refine z_callVNi ok old dX1_reasonAgainst_27 [] (c_X0_sideOn G N hN hg w g h_g f (by omega)) zy_X0_sideOn zw_322 (6 + 6 * g) (zg_lt' hN h_g) (zE_board G w h_g) rfl rfl rfl rfl rfl (by decide) (Nat.le_of_ble_eq_true rfl) ?_
      refine z_aload_n ok dX1_reasonAgainst_30 0 rfl ?_
      refine z_get_X1_mover ok dX1_reasonAgainst_31 g h_g hN zw_94 ?_
      refine z_icmp_eq ok dX1_reasonAgainst_34 39 (by decide) (fun c3 => ?_) (fun c3 => ?_)
      · rw [if_pos c3] at hT
        refine z_aload_n ok dX1_reasonAgainst_39 0 rfl ?_
        refine z_get_X1_board ok dX1_reasonAgainst_40 g h_g hN zw_88 ?_
        refine z_iload_n ok dX1_reasonAgainst_43 2 rfl ?_
        refine z_callVNi ok old dX1_reasonAgainst_44 [] (c_X0_sideOn G N hN hg w g h_g t (by omega)) zy_X0_sideOn zw_322 (6 + 6 * g) (zg_lt' hN h_g) (zE_board G w h_g) rfl rfl rfl rfl rfl (by decide) (Nat.le_of_ble_eq_true rfl) ?_
        refine z_aload_n ok dX1_reasonAgainst_47 0 rfl ?_
        refine z_get_X1_mover ok dX1_reasonAgainst_48 g h_g hN zw_94 ?_
        refine z_icmp_ne ok dX1_reasonAgainst_51 56 (by decide) (fun c4 => ?_) (fun c4 => ?_)
        · rw [if_neg c4] at hT
          refine z_aload_n ok dX1_reasonAgainst_56 0 rfl ?_
          refine z_get_X1_board ok dX1_reasonAgainst_57 g h_g hN zw_88 ?_
          refine z_iload_n ok dX1_reasonAgainst_60 1 rfl ?_
          refine z_iload_n ok dX1_reasonAgainst_61 2 rfl ?_
          refine z_callVNi ok old dX1_reasonAgainst_62 [] (c_X0_price G N hN hg w g h_g f (by omega) t (by omega)) zy_X0_price zw_323 (6 + 6 * g) (zg_lt' hN h_g) (zE_board G w h_g) rfl rfl rfl rfl rfl (by decide) (Nat.le_of_ble_eq_true rfl) ?_
          replace hT := zlet_open hT
          obtain ⟨x5, hx5, hT⟩ := hT
          rw [← hx5]
          refine z_istore_n ok dX1_reasonAgainst_65 (hI 3 (by decide)) (lv' := [(3, .int x5), (0, .ref (zad G (5 + 6 * g))), (1, .int (nI f)), (2, .int (nI t))]) rfl ?_
          refine z_iload_n ok dX1_reasonAgainst_66 0 rfl ?_
          refine z_if_ne ok dX1_reasonAgainst_67 73 (by decide) (fun c6 => ?_) (fun c6 => ?_)
          · rw [if_neg c6] at hT
            refine z_aload_n ok dX1_reasonAgainst_73 1 rfl ?_
            refine z_get_X1_board ok dX1_reasonAgainst_74 g h_g hN zw_88 ?_
            refine z_iload_n ok dX1_reasonAgainst_77 2 rfl ?_
            refine z_callVNi ok old dX1_reasonAgainst_78 [] (c_X0_springOn G N hN hg w g h_g f (by omega)) zy_X0_springOn zw_245 (6 + 6 * g) (zg_lt' hN h_g) (zE_board G w h_g) rfl rfl rfl rfl rfl (by decide) (Nat.le_of_ble_eq_true rfl) ?_
            refine z_iload_n ok dX1_reasonAgainst_81 0 rfl ?_
            refine z_icmp_ge ok dX1_reasonAgainst_82 90 (by decide) (fun c7 => ?_) (fun c7 => ?_)
            · rw [if_pos c7] at hT
              refine z_iconst ok dX1_reasonAgainst_90 (x := 0) (by decide) ?_
              exact z_iret ok hE dX1_reasonAgainst_91 rfl ⟨hT, rfl⟩
            · rw [if_neg c7] at hT
              refine z_bipush ok dX1_reasonAgainst_85 (x := 7) (by decide) ?_
              refine z_goto ok dX1_reasonAgainst_87 91 (by decide) ?_
              exact z_iret ok hE dX1_reasonAgainst_91 rfl ⟨hT, rfl⟩
          · rw [if_pos c6] at hT
            refine z_bipush ok dX1_reasonAgainst_70 (x := 6) (by decide) ?_
            exact z_iret ok hE dX1_reasonAgainst_72 rfl ⟨hT, rfl⟩
        · rw [if_pos c4] at hT
          refine z_iconst ok dX1_reasonAgainst_54 (x := 5) (by decide) ?_
          exact z_iret ok hE dX1_reasonAgainst_55 rfl ⟨hT, rfl⟩
      · rw [if_neg c3] at hT
        refine z_iconst ok dX1_reasonAgainst_37 (x := 4) (by decide) ?_
        exact z_iret ok hE dX1_reasonAgainst_38 rfl ⟨hT, rfl⟩
    · rw [if_pos c2] at hT
      refine z_iconst ok dX1_reasonAgainst_20 (x := 3) (by decide) ?_
      exact z_iret ok hE dX1_reasonAgainst_21 rfl ⟨hT, rfl⟩
  · rw [if_neg c1] at hT
    refine z_iconst ok dX1_reasonAgainst_7 (x := 2) (by decide) ?_
    exact z_iret ok hE dX1_reasonAgainst_8 rfl ⟨hT, rfl⟩

def d_X1_reasonAgainstPass (w : xW) (g : Nat) : Int32 :=
  if (d_X1_isOver w g) = 0 then (if (d_X0_movesOf w g (xg w g 144)) ≤ 0 then (0)
  else (8))
  else (2)
set_option maxRecDepth 100000 in
set_option maxHeartbeats 4000000 in
theorem c_X1_reasonAgainstPass (G : zG) (N : Nat) (hN : 47 ≤ N) (hg : zGeo G N) (w : xW) (g : Nat) (h_g : g < 7) : zM yX1_reasonAgainstPass cX1_reasonAgainstPass 1 (some .int) 5 124 G N [.ref (zad G (5 + 6 * g))] w (some (d_X1_reasonAgainstPass w g)) w := by
  generalize hT : d_X1_reasonAgainstPass w g = r
  unfold d_X1_reasonAgainstPass at hT
  refine zM_of zy_X1_reasonAgainstPass.2.2.2.2.2.2.2 hg ⟨Nat.le_of_ble_eq_true rfl, by decide⟩ rfl (fun k ok hE hI => ?_)
  have old := hE.old
  refine z_aload_n ok dX1_reasonAgainstPass_0 0 rfl ?_
  refine z_callVi ok old dX1_reasonAgainstPass_1 [] (c_X1_isOver G N hN hg w g h_g) zy_X1_isOver zw_320 (5 + 6 * g) (zg_lt hN h_g) (zE_game G w h_g) rfl rfl rfl rfl rfl (by decide) (Nat.le_of_ble_eq_true rfl) ?_
  refine z_if_eq ok dX1_reasonAgainstPass_4 9 (by decide) (fun c1 => ?_) (fun c1 => ?_)
  · rw [if_pos c1] at hT
    refine z_aload_n ok dX1_reasonAgainstPass_9 0 rfl ?_
    refine z_get_X1_board ok dX1_reasonAgainstPass_10 g h_g hN zw_88 ?_
    refine z_aload_n ok dX1_reasonAgainstPass_13 0 rfl ?_
    refine z_get_X1_mover ok dX1_reasonAgainstPass_14 g h_g hN zw_94 ?_
    refine z_callVNi ok old dX1_reasonAgainstPass_17 [] (c_X0_movesOf G N hN hg w g h_g (xg w g 144)) zy_X0_movesOf zw_373 (6 + 6 * g) (zg_lt' hN h_g) (zE_board G w h_g) rfl rfl rfl rfl rfl (by decide) (Nat.le_of_ble_eq_true rfl) ?_
    refine z_if_le ok dX1_reasonAgainstPass_20 28 (by decide) (fun c2 => ?_) (fun c2 => ?_)
    · rw [if_pos c2] at hT
      refine z_iconst ok dX1_reasonAgainstPass_28 (x := 0) (by decide) ?_
      exact z_iret ok hE dX1_reasonAgainstPass_29 rfl ⟨hT, rfl⟩
    · rw [if_neg c2] at hT
      refine z_bipush ok dX1_reasonAgainstPass_23 (x := 8) (by decide) ?_
      refine z_goto ok dX1_reasonAgainstPass_25 29 (by decide) ?_
      exact z_iret ok hE dX1_reasonAgainstPass_29 rfl ⟨hT, rfl⟩
  · rw [if_neg c1] at hT
    refine z_iconst ok dX1_reasonAgainstPass_7 (x := 2) (by decide) ?_
    exact z_iret ok hE dX1_reasonAgainstPass_8 rfl ⟨hT, rfl⟩

def d_X1_springBehindTaking (w : xW) (g : Nat) (spring : Int32) (taken : Int32) : Int32 × xW :=
  zlet ((taken / 2)) fun x1 =>
  zlet (((spring + x1) + (xg w g 150))) fun x2 =>
  zlet ((if (xg w g 149) < x2 then (xg w g 149) else x2)) fun x3 =>
  zlet (xs w g 154 ((xg w g 154) + (xg w g 150))) fun w4 =>
  zlet (xs w4 g 156 ((xg w4 g 156) + (((taken - x1) + x2) - x3))) fun w5 =>
  (x3, w5)
set_option maxRecDepth 100000 in
set_option maxHeartbeats 4000000 in
theorem c_X1_springBehindTaking (G : zG) (N : Nat) (hN : 47 ≤ N) (hg : zGeo G N) (w : xW) (g : Nat) (h_g : g < 7) (spring : Int32) (taken : Int32) : zM yX1_springBehindTaking cX1_springBehindTaking 6 (some .int) 1 13 G N [.ref (zad G (5 + 6 * g)), .int spring, .int taken] w (some (d_X1_springBehindTaking w g spring taken).1) (d_X1_springBehindTaking w g spring taken).2 := by
  obtain ⟨r, u, hT⟩ := zpair (d_X1_springBehindTaking w g spring taken)
  rw [hT]
  dsimp only
  unfold d_X1_springBehindTaking at hT
  refine zM_of zy_X1_springBehindTaking.2.2.2.2.2.2.2 hg ⟨Nat.le_of_ble_eq_true rfl, by decide⟩ rfl (fun k ok hE hI => ?_)
  have old := hE.old
  refine z_iload_n ok dX1_springBehindTaking_0 2 rfl ?_
  refine z_iconst ok dX1_springBehindTaking_1 (x := 2) (by decide) ?_
  refine z_idiv ok dX1_springBehindTaking_2 (by decide) ?_
  replace hT := zlet_open hT
  obtain ⟨x1, hx1, hT⟩ := hT
  rw [← hx1]
  refine z_istore_n ok dX1_springBehindTaking_3 (hI 3 (by decide)) (lv' := [(3, .int x1), (0, .ref (zad G (5 + 6 * g))), (1, .int spring), (2, .int taken)]) rfl ?_
  refine z_iload_n ok dX1_springBehindTaking_4 2 rfl ?_
  refine z_iload_n ok dX1_springBehindTaking_5 0 rfl ?_
  refine z_iadd ok dX1_springBehindTaking_6 ?_
  refine z_aload_n ok dX1_springBehindTaking_7 1 rfl ?_
  refine z_get_X1_bonus ok dX1_springBehindTaking_8 g h_g hN zw_92 ?_
  refine z_iadd ok dX1_springBehindTaking_11 ?_
  replace hT := zlet_open hT
  obtain ⟨x2, hx2, hT⟩ := hT
  rw [← hx2]
  refine z_istore ok dX1_springBehindTaking_12 (hI 4 (by decide)) (lv' := [(4, .int x2), (3, .int x1), (0, .ref (zad G (5 + 6 * g))), (1, .int spring), (2, .int taken)]) rfl ?_
  refine z_iload ok dX1_springBehindTaking_14 0 rfl ?_
  refine z_aload_n ok dX1_springBehindTaking_16 2 rfl ?_
  refine z_get_X1_limit ok dX1_springBehindTaking_17 g h_g hN zw_90 ?_
  refine z_min ok dX1_springBehindTaking_20 zw_357 zw_358 zw_52 zw_359 ⟨by decide, Nat.le_of_ble_eq_true rfl⟩ ?_
  replace hT := zlet_open hT
  obtain ⟨x3, hx3, hT⟩ := hT
  rw [← hx3]
  refine z_istore ok dX1_springBehindTaking_23 (hI 5 (by decide)) (lv' := [(5, .int x3), (4, .int x2), (3, .int x1), (0, .ref (zad G (5 + 6 * g))), (1, .int spring), (2, .int taken)]) rfl ?_
  refine z_aload_n ok dX1_springBehindTaking_25 3 rfl ?_
  refine z_dup ok dX1_springBehindTaking_26 rfl ?_
  refine z_get_X1_gainedByBonus ok dX1_springBehindTaking_27 g h_g hN zw_105 ?_
  refine z_aload_n ok dX1_springBehindTaking_30 3 rfl ?_
  refine z_get_X1_bonus ok dX1_springBehindTaking_31 g h_g hN zw_92 ?_
  refine z_iadd ok dX1_springBehindTaking_34 ?_
  refine z_put_X1_gainedByBonus ok dX1_springBehindTaking_35 g h_g hN zw_105 ?_
  replace hT := zlet_open hT
  obtain ⟨w4, hw4, hT⟩ := hT
  rw [← hw4]
  refine z_aload_n ok dX1_springBehindTaking_38 3 rfl ?_
  refine z_dup ok dX1_springBehindTaking_39 rfl ?_
  refine z_get_X1_lost ok dX1_springBehindTaking_40 g h_g hN zw_107 ?_
  refine z_iload_n ok dX1_springBehindTaking_43 5 rfl ?_
  refine z_iload_n ok dX1_springBehindTaking_44 2 rfl ?_
  refine z_isub ok dX1_springBehindTaking_45 ?_
  refine z_iload ok dX1_springBehindTaking_46 1 rfl ?_
  refine z_iadd ok dX1_springBehindTaking_48 ?_
  refine z_iload ok dX1_springBehindTaking_49 0 rfl ?_
  refine z_isub ok dX1_springBehindTaking_51 ?_
  refine z_iadd ok dX1_springBehindTaking_52 ?_
  refine z_put_X1_lost ok dX1_springBehindTaking_53 g h_g hN zw_107 ?_
  replace hT := zlet_open hT
  obtain ⟨w5, hw5, hT⟩ := hT
  rw [← hw5]
  refine z_iload ok dX1_springBehindTaking_56 0 rfl ?_
  exact z_iret ok hE dX1_springBehindTaking_58 rfl ⟨congrArg Prod.fst hT, congrArg Prod.snd hT⟩

def d_X1_beginTurn_7k  (e2_2 : Nat) (ew2 : xW) : xW :=
  ew2
def d_X1_beginTurn_7 (g : Nat) (side : Int32) (kt2 : Nat → xW → xW) : Nat → Nat → xW → xW
  | 0, _, _ => default
  | n2 + 1, v2_2, vw2 => if 36 ≤ v2_2 then (kt2 v2_2 vw2)
  else (if (d_X0_sideOn vw2 g v2_2) = side then (if (d_X0_isTower vw2 g v2_2) = 0 then (d_X1_beginTurn_7 g side kt2 n2 (v2_2 + 1) vw2)
  else (zlet ((if ((xg vw2 g 149) - (d_X0_springOn vw2 g v2_2)) < (xg vw2 g 151) then ((xg vw2 g 149) - (d_X0_springOn vw2 g v2_2)) else (xg vw2 g 151))) fun x6 =>
  zlet (d_X0_changeSpring vw2 g v2_2 ((d_X0_springOn vw2 g v2_2) + x6)) fun w7 =>
  zlet (xs w7 g 153 ((xg w7 g 153) + x6)) fun w8 =>
  d_X1_beginTurn_7 g side kt2 n2 (v2_2 + 1) w8))
  else (d_X1_beginTurn_7 g side kt2 n2 (v2_2 + 1) vw2))
def d_X1_beginTurn (w : xW) (g : Nat) (side : Int32) : xW :=
  zlet (xs w g 144 side) fun w1 =>
  d_X1_beginTurn_7 g side d_X1_beginTurn_7k 37 0 w1
set_option maxRecDepth 100000 in
set_option maxHeartbeats 4000000 in
theorem c_X1_beginTurn (G : zG) (N : Nat) (hN : 47 ≤ N) (hg : zGeo G N) (w : xW) (g : Nat) (h_g : g < 7) (side : Int32) : zM yX1_beginTurn cX1_beginTurn 4 none 2 42 G N [.ref (zad G (5 + 6 * g)), .int side] w none (d_X1_beginTurn w g side) := by
  generalize hT : d_X1_beginTurn w g side = u
  unfold d_X1_beginTurn at hT
  refine zM_of zy_X1_beginTurn.2.2.2.2.2.2.2 hg ⟨Nat.le_of_ble_eq_true rfl, by decide⟩ rfl (fun k ok hE hI => ?_)
  have old := hE.old
  refine z_aload_n ok dX1_beginTurn_0 0 rfl ?_
  refine z_iload_n ok dX1_beginTurn_1 1 rfl ?_
  refine z_put_X1_mover ok dX1_beginTurn_2 g h_g hN zw_94 ?_
  replace hT := zlet_open hT
  obtain ⟨w1, hw1, hT⟩ := hT
  rw [← hw1]
  refine z_iconst ok dX1_beginTurn_5 (x := 0) (by decide) ?_
  refine z_istore_n ok dX1_beginTurn_6 (hI 2 (by decide)) (lv' := [(2, .int 0), (0, .ref (zad G (5 + 6 * g))), (1, .int side)]) rfl ?_
  refine z_locs [1, 2, 0] (lv' := [(0, .ref (zad G (5 + 6 * g))), (1, .int side), (2, .int 0)]) rfl ?_
  obtain ⟨kt2, hkt2⟩ : ∃ z, z = d_X1_beginTurn_7k := ⟨_, rfl⟩
  rw [← hkt2] at hT
  have hk2 : ∀ (e2_2 : Nat) (ew2 : xW), e2_2 ≤ 36 → kt2 e2_2 ew2 = u → zZ k G N ew2 91 [(0, .ref (zad G (5 + 6 * g))), (1, .int side), (2, .int (nI e2_2))] [] := by
    intro e2_2 ew2 q2_0 hT2
    rw [hkt2, d_X1_beginTurn_7k] at hT2
    exact z_vret ok hE dX1_beginTurn_91 hT2
  have hl2 : ∀ (n2 : Nat) (v2_2 : Nat) (vw2 : xW), 36 < v2_2 + n2 → v2_2 ≤ 36 → d_X1_beginTurn_7 g side kt2 n2 v2_2 vw2 = u → zZ k G N vw2 7 [(0, .ref (zad G (5 + 6 * g))), (1, .int side), (2, .int (nI v2_2))] [] := by
    intro n2
    induction n2 with
    | zero =>
      intro v2_2 vw2 q2_0 q2_1
      exact absurd q2_0 (by omega)
    | succ n2 ih2 =>
      intro v2_2 vw2 q2_0 q2_1 hT2
      rw [d_X1_beginTurn_7] at hT2
      refine z_iload_n ok dX1_beginTurn_7 2 rfl ?_
      refine z_bipush ok dX1_beginTurn_8 (x := 36) (by decide) ?_
      refine z_icmp_ge_n ok dX1_beginTurn_10 91 (by decide) v2_2 36 rfl rfl (by omega) (fun c3 => ?_) (fun c3 => ?_)
      · rw [if_pos c3] at hT2
        refine z_locs [0, 1, 2] (lv' := [(0, .ref (zad G (5 + 6 * g))), (1, .int side), (2, .int (nI v2_2))]) rfl ?_
        exact hk2 v2_2 vw2 (by omega) hT2
      · rw [if_neg c3] at hT2
        refine z_aload_n ok dX1_beginTurn_13 0 rfl ?_
        refine z_get_X1_board ok dX1_beginTurn_14 g h_g hN zw_88 ?_
        refine z_iload_n ok dX1_beginTurn_17 2 rfl ?_
        refine z_callVNi ok old dX1_beginTurn_18 [] (c_X0_sideOn G N hN hg vw2 g h_g v2_2 (by omega)) zy_X0_sideOn zw_322 (6 + 6 * g) (zg_lt' hN h_g) (zE_board G vw2 h_g) rfl rfl rfl rfl rfl (by decide) (Nat.le_of_ble_eq_true rfl) ?_
        refine z_iload_n ok dX1_beginTurn_21 1 rfl ?_
        refine z_icmp_ne ok dX1_beginTurn_22 85 (by decide) (fun c4 => ?_) (fun c4 => ?_)
        · rw [if_neg c4] at hT2
          refine z_iinc ok dX1_beginTurn_85 (hI 2 (by decide)) 2 rfl (y := (nI (v2_2 + 1))) (z_incn v2_2 1) (lv' := [(2, .int (nI (v2_2 + 1))), (0, .ref (zad G (5 + 6 * g))), (1, .int side)]) rfl ?_
          refine z_goto ok dX1_beginTurn_88 7 (by decide) ?_
          refine z_locs [1, 2, 0] (lv' := [(0, .ref (zad G (5 + 6 * g))), (1, .int side), (2, .int (nI (v2_2 + 1)))]) rfl ?_
          exact ih2 (v2_2 + 1) vw2 (by omega) (by omega) hT2
        · rw [if_pos c4] at hT2
          refine z_aload_n ok dX1_beginTurn_25 0 rfl ?_
          refine z_get_X1_board ok dX1_beginTurn_26 g h_g hN zw_88 ?_
          refine z_iload_n ok dX1_beginTurn_29 2 rfl ?_
          refine z_callVNi ok old dX1_beginTurn_30 [] (c_X0_isTower G N hN hg vw2 g h_g v2_2 (by omega)) zy_X0_isTower zw_364 (6 + 6 * g) (zg_lt' hN h_g) (zE_board G vw2 h_g) rfl rfl rfl rfl rfl (by decide) (Nat.le_of_ble_eq_true rfl) ?_
          refine z_if_eq ok dX1_beginTurn_33 85 (by decide) (fun c5 => ?_) (fun c5 => ?_)
          · rw [if_pos c5] at hT2
            refine z_iinc ok dX1_beginTurn_85 (hI 2 (by decide)) 2 rfl (y := (nI (v2_2 + 1))) (z_incn v2_2 1) (lv' := [(2, .int (nI (v2_2 + 1))), (0, .ref (zad G (5 + 6 * g))), (1, .int side)]) rfl ?_
            refine z_goto ok dX1_beginTurn_88 7 (by decide) ?_
            refine z_locs [1, 2, 0] (lv' := [(0, .ref (zad G (5 + 6 * g))), (1, .int side), (2, .int (nI (v2_2 + 1)))]) rfl ?_
            exact ih2 (v2_2 + 1) vw2 (by omega) (by omega) hT2
          · rw [if_neg c5] at hT2
            refine z_aload_n ok dX1_beginTurn_36 0 rfl ?_
            refine z_get_X1_winding ok dX1_beginTurn_37 g h_g hN zw_93 ?_
            refine z_aload_n ok dX1_beginTurn_40 0 rfl ?_
            refine z_get_X1_limit ok dX1_beginTurn_41 g h_g hN zw_90 ?_
            refine z_aload_n ok dX1_beginTurn_44 0 rfl ?_
            refine z_get_X1_board ok dX1_beginTurn_45 g h_g hN zw_88 ?_
            refine z_iload_n ok dX1_beginTurn_48 2 rfl ?_
            refine z_callVNi ok old dX1_beginTurn_49 [.int (xg vw2 g 149), .int (xg vw2 g 151)] (c_X0_springOn G N hN hg vw2 g h_g v2_2 (by omega)) zy_X0_springOn zw_245 (6 + 6 * g) (zg_lt' hN h_g) (zE_board G vw2 h_g) rfl rfl rfl rfl rfl (by decide) (Nat.le_of_ble_eq_true rfl) ?_
            refine z_isub ok dX1_beginTurn_52 ?_
            refine z_min ok dX1_beginTurn_53 zw_357 zw_358 zw_52 zw_359 ⟨by decide, Nat.le_of_ble_eq_true rfl⟩ ?_
            replace hT2 := zlet_open hT2
            obtain ⟨x6, hx6, hT2⟩ := hT2
            rw [← hx6]
            refine z_istore_n ok dX1_beginTurn_56 (hI 3 (by decide)) (lv' := [(3, .int x6), (0, .ref (zad G (5 + 6 * g))), (1, .int side), (2, .int (nI v2_2))]) rfl ?_
            refine z_aload_n ok dX1_beginTurn_57 1 rfl ?_
            refine z_get_X1_board ok dX1_beginTurn_58 g h_g hN zw_88 ?_
            refine z_iload_n ok dX1_beginTurn_61 3 rfl ?_
            refine z_aload_n ok dX1_beginTurn_62 1 rfl ?_
            refine z_get_X1_board ok dX1_beginTurn_63 g h_g hN zw_88 ?_
            refine z_iload_n ok dX1_beginTurn_66 3 rfl ?_
            refine z_callVNi ok old dX1_beginTurn_67 [.int (nI v2_2), .ref (zad G (6 + 6 * g))] (c_X0_springOn G N hN hg vw2 g h_g v2_2 (by omega)) zy_X0_springOn zw_245 (6 + 6 * g) (zg_lt' hN h_g) (zE_board G vw2 h_g) rfl rfl rfl rfl rfl (by decide) (Nat.le_of_ble_eq_true rfl) ?_
            refine z_iload_n ok dX1_beginTurn_70 0 rfl ?_
            refine z_iadd ok dX1_beginTurn_71 ?_
            refine z_callVNv ok old dX1_beginTurn_72 [] (c_X0_changeSpring G N hN hg vw2 g h_g v2_2 (by omega) ((d_X0_springOn vw2 g v2_2) + x6)) zy_X0_changeSpring zw_249 (6 + 6 * g) (zg_lt' hN h_g) (zE_board G vw2 h_g) rfl rfl rfl rfl rfl (by decide) (Nat.le_of_ble_eq_true rfl) ?_
            replace hT2 := zlet_open hT2
            obtain ⟨w7, hw7, hT2⟩ := hT2
            rw [← hw7]
            refine z_aload_n ok dX1_beginTurn_75 1 rfl ?_
            refine z_dup ok dX1_beginTurn_76 rfl ?_
            refine z_get_X1_wound ok dX1_beginTurn_77 g h_g hN zw_104 ?_
            refine z_iload_n ok dX1_beginTurn_80 0 rfl ?_
            refine z_iadd ok dX1_beginTurn_81 ?_
            refine z_put_X1_wound ok dX1_beginTurn_82 g h_g hN zw_104 ?_
            replace hT2 := zlet_open hT2
            obtain ⟨w8, hw8, hT2⟩ := hT2
            rw [← hw8]
            refine z_iinc ok dX1_beginTurn_85 (hI 2 (by decide)) 3 rfl (y := (nI (v2_2 + 1))) (z_incn v2_2 1) (lv' := [(2, .int (nI (v2_2 + 1))), (3, .int x6), (0, .ref (zad G (5 + 6 * g))), (1, .int side)]) rfl ?_
            refine z_goto ok dX1_beginTurn_88 7 (by decide) ?_
            refine z_locs [2, 3, 0] (lv' := [(0, .ref (zad G (5 + 6 * g))), (1, .int side), (2, .int (nI (v2_2 + 1)))]) rfl ?_
            exact ih2 (v2_2 + 1) w8 (by omega) (by omega) hT2
  exact hl2 37 0 w1 (by omega) (by omega) hT

def d_X1_carryOut (w : xW) (g : Nat) (f : Nat) (t : Nat) : Int32 × xW :=
  zlet ((d_X0_price w g f t)) fun x1 =>
  zlet ((d_X0_kindOn w g f)) fun x2 =>
  zlet (((d_X0_springOn w g f) - x1)) fun x3 =>
  zlet (if (d_X0_hasPiece w g t) = 0 then ((x3, w))
  else (zlet (d_X1_springBehindTaking w g x3 (d_X0_springOn w g t)) fun p18 =>
  zlet (if (d_X0_kindOn p18.2 g t) = 0 then (zlet (xs p18.2 g 145 1) fun w21 =>
  zlet (xs w21 g 146 (xg w21 g 144)) fun w22 =>
  w22)
  else (p18.2) : xW) fun w19 =>
  (p18.1, w19)) : Int32 × xW) fun p4 =>
  zlet (if (xg p4.2 g 144) = 0 then (5)
  else (0) : Int32) fun x5 =>
  zlet (if x2 = 4 then (if (nI (t / 6)) = x5 then (1)
  else (0))
  else (0) : Int32) fun x6 =>
  zlet (if x6 = 0 then (x2)
  else (1) : Int32) fun x7 =>
  zlet (d_X0_place p4.2 g t (xg p4.2 g 144) x7 p4.1) fun w8 =>
  zlet (d_X0_empty w8 g f) fun w9 =>
  zlet (xs w9 g 155 ((xg w9 g 155) + x1)) fun w10 =>
  zlet (xs w10 g 147 ((xg w10 g 147) + 1)) fun w11 =>
  zlet (xs w11 g 148 0) fun w12 =>
  (x1, w12)
set_option maxRecDepth 100000 in
set_option maxHeartbeats 4000000 in
theorem c_X1_carryOut (G : zG) (N : Nat) (hN : 47 ≤ N) (hg : zGeo G N) (w : xW) (g : Nat) (h_g : g < 7) (f : Nat) (h_f : f < 36) (t : Nat) (h_t : t < 36) : zM yX1_carryOut cX1_carryOut 8 (some .int) 3 77 G N [.ref (zad G (5 + 6 * g)), .int (nI f), .int (nI t)] w (some (d_X1_carryOut w g f t).1) (d_X1_carryOut w g f t).2 := by
  obtain ⟨r, u, hT⟩ := zpair (d_X1_carryOut w g f t)
  rw [hT]
  dsimp only
  unfold d_X1_carryOut at hT
  refine zM_of zy_X1_carryOut.2.2.2.2.2.2.2 hg ⟨Nat.le_of_ble_eq_true rfl, by decide⟩ rfl (fun k ok hE hI => ?_)
  have old := hE.old
  refine z_aload_n ok dX1_carryOut_0 0 rfl ?_
  refine z_get_X1_board ok dX1_carryOut_1 g h_g hN zw_88 ?_
  refine z_iload_n ok dX1_carryOut_4 1 rfl ?_
  refine z_iload_n ok dX1_carryOut_5 2 rfl ?_
  refine z_callVNi ok old dX1_carryOut_6 [] (c_X0_price G N hN hg w g h_g f (by omega) t (by omega)) zy_X0_price zw_323 (6 + 6 * g) (zg_lt' hN h_g) (zE_board G w h_g) rfl rfl rfl rfl rfl (by decide) (Nat.le_of_ble_eq_true rfl) ?_
  replace hT := zlet_open hT
  obtain ⟨x1, hx1, hT⟩ := hT
  rw [← hx1]
  refine z_istore_n ok dX1_carryOut_9 (hI 3 (by decide)) (lv' := [(3, .int x1), (0, .ref (zad G (5 + 6 * g))), (1, .int (nI f)), (2, .int (nI t))]) rfl ?_
  refine z_aload_n ok dX1_carryOut_10 1 rfl ?_
  refine z_get_X1_board ok dX1_carryOut_11 g h_g hN zw_88 ?_
  refine z_iload_n ok dX1_carryOut_14 2 rfl ?_
  refine z_callVNi ok old dX1_carryOut_15 [] (c_X0_kindOn G N hN hg w g h_g f (by omega)) zy_X0_kindOn zw_352 (6 + 6 * g) (zg_lt' hN h_g) (zE_board G w h_g) rfl rfl rfl rfl rfl (by decide) (Nat.le_of_ble_eq_true rfl) ?_
  replace hT := zlet_open hT
  obtain ⟨x2, hx2, hT⟩ := hT
  rw [← hx2]
  refine z_istore ok dX1_carryOut_18 (hI 4 (by decide)) (lv' := [(4, .int x2), (3, .int x1), (0, .ref (zad G (5 + 6 * g))), (1, .int (nI f)), (2, .int (nI t))]) rfl ?_
  refine z_aload_n ok dX1_carryOut_20 2 rfl ?_
  refine z_get_X1_board ok dX1_carryOut_21 g h_g hN zw_88 ?_
  refine z_iload_n ok dX1_carryOut_24 3 rfl ?_
  refine z_callVNi ok old dX1_carryOut_25 [] (c_X0_springOn G N hN hg w g h_g f (by omega)) zy_X0_springOn zw_245 (6 + 6 * g) (zg_lt' hN h_g) (zE_board G w h_g) rfl rfl rfl rfl rfl (by decide) (Nat.le_of_ble_eq_true rfl) ?_
  refine z_iload_n ok dX1_carryOut_28 1 rfl ?_
  refine z_isub ok dX1_carryOut_29 ?_
  replace hT := zlet_open hT
  obtain ⟨x3, hx3, hT⟩ := hT
  rw [← hx3]
  refine z_istore ok dX1_carryOut_30 (hI 5 (by decide)) (lv' := [(5, .int x3), (4, .int x2), (3, .int x1), (0, .ref (zad G (5 + 6 * g))), (1, .int (nI f)), (2, .int (nI t))]) rfl ?_
  refine z_aload_n ok dX1_carryOut_32 3 rfl ?_
  refine z_get_X1_board ok dX1_carryOut_33 g h_g hN zw_88 ?_
  refine z_iload_n ok dX1_carryOut_36 5 rfl ?_
  refine z_callVNi ok old dX1_carryOut_37 [] (c_X0_hasPiece G N hN hg w g h_g t (by omega)) zy_X0_hasPiece zw_321 (6 + 6 * g) (zg_lt' hN h_g) (zE_board G w h_g) rfl rfl rfl rfl rfl (by decide) (Nat.le_of_ble_eq_true rfl) ?_
  replace hT := zlet_open hT
  obtain ⟨p4, hp4, hT⟩ := hT
  have hsp4 := hp4.symm
  have hJp4 : zZ k G N p4.2 83 [(0, .ref (zad G (5 + 6 * g))), (1, .int (nI f)), (2, .int (nI t)), (3, .int x1), (4, .int x2), (5, .int p4.1)] [] := by
    refine z_aload_n ok dX1_carryOut_83 0 rfl ?_
    refine z_get_X1_mover ok dX1_carryOut_84 g h_g hN zw_94 ?_
    replace hT := zlet_open hT
    obtain ⟨x5, hx5, hT⟩ := hT
    have hsx5 := hx5.symm
    have hJx5 : zZ k G N p4.2 95 [(0, .ref (zad G (5 + 6 * g))), (1, .int (nI f)), (2, .int (nI t)), (3, .int x1), (4, .int x2), (5, .int p4.1)] [.int x5] := by
      refine z_istore ok dX1_carryOut_95 (hI 6 (by decide)) (lv' := [(6, .int x5), (0, .ref (zad G (5 + 6 * g))), (1, .int (nI f)), (2, .int (nI t)), (3, .int x1), (4, .int x2), (5, .int p4.1)]) rfl ?_
      refine z_iload ok dX1_carryOut_97 5 rfl ?_
      refine z_iconst ok dX1_carryOut_99 (x := 4) (by decide) ?_
      replace hT := zlet_open hT
      obtain ⟨x6, hx6, hT⟩ := hT
      have hsx6 := hx6.symm
      have hJx6 : zZ k G N p4.2 117 [(0, .ref (zad G (5 + 6 * g))), (1, .int (nI f)), (2, .int (nI t)), (3, .int x1), (4, .int x2), (5, .int p4.1), (6, .int x5)] [.int x6] := by
        refine z_istore ok dX1_carryOut_117 (hI 7 (by decide)) (lv' := [(7, .int x6), (0, .ref (zad G (5 + 6 * g))), (1, .int (nI f)), (2, .int (nI t)), (3, .int x1), (4, .int x2), (5, .int p4.1), (6, .int x5)]) rfl ?_
        refine z_aload_n ok dX1_carryOut_119 1 rfl ?_
        refine z_get_X1_board ok dX1_carryOut_120 g h_g hN zw_88 ?_
        refine z_iload_n ok dX1_carryOut_123 3 rfl ?_
        refine z_aload_n ok dX1_carryOut_124 1 rfl ?_
        refine z_get_X1_mover ok dX1_carryOut_125 g h_g hN zw_94 ?_
        refine z_iload ok dX1_carryOut_128 0 rfl ?_
        replace hT := zlet_open hT
        obtain ⟨x7, hx7, hT⟩ := hT
        have hsx7 := hx7.symm
        have hJx7 : zZ k G N p4.2 139 [(0, .ref (zad G (5 + 6 * g))), (1, .int (nI f)), (2, .int (nI t)), (3, .int x1), (4, .int x2), (5, .int p4.1), (6, .int x5), (7, .int x6)] [.int x7, .int (xg p4.2 g 144), .int (nI t), .ref (zad G (6 + 6 * g))] := by
          refine z_iload ok dX1_carryOut_139 5 rfl ?_
          refine z_callVNv ok old dX1_carryOut_141 [] (c_X0_place G N hN hg p4.2 g h_g t (by omega) (xg p4.2 g 144) x7 p4.1) zy_X0_place zw_278 (6 + 6 * g) (zg_lt' hN h_g) (zE_board G p4.2 h_g) rfl rfl rfl rfl rfl (by decide) (Nat.le_of_ble_eq_true rfl) ?_
          replace hT := zlet_open hT
          obtain ⟨w8, hw8, hT⟩ := hT
          rw [← hw8]
          refine z_aload_n ok dX1_carryOut_144 0 rfl ?_
          refine z_get_X1_board ok dX1_carryOut_145 g h_g hN zw_88 ?_
          refine z_iload_n ok dX1_carryOut_148 1 rfl ?_
          refine z_callVNv ok old dX1_carryOut_149 [] (c_X0_empty G N hN hg w8 g h_g f (by omega)) zy_X0_empty zw_277 (6 + 6 * g) (zg_lt' hN h_g) (zE_board G w8 h_g) rfl rfl rfl rfl rfl (by decide) (Nat.le_of_ble_eq_true rfl) ?_
          replace hT := zlet_open hT
          obtain ⟨w9, hw9, hT⟩ := hT
          rw [← hw9]
          refine z_aload_n ok dX1_carryOut_152 0 rfl ?_
          refine z_dup ok dX1_carryOut_153 rfl ?_
          refine z_get_X1_spent ok dX1_carryOut_154 g h_g hN zw_106 ?_
          refine z_iload_n ok dX1_carryOut_157 3 rfl ?_
          refine z_iadd ok dX1_carryOut_158 ?_
          refine z_put_X1_spent ok dX1_carryOut_159 g h_g hN zw_106 ?_
          replace hT := zlet_open hT
          obtain ⟨w10, hw10, hT⟩ := hT
          rw [← hw10]
          refine z_aload_n ok dX1_carryOut_162 0 rfl ?_
          refine z_dup ok dX1_carryOut_163 rfl ?_
          refine z_get_X1_turnsMade ok dX1_carryOut_164 g h_g hN zw_100 ?_
          refine z_iconst ok dX1_carryOut_167 (x := 1) (by decide) ?_
          refine z_iadd ok dX1_carryOut_168 ?_
          refine z_put_X1_turnsMade ok dX1_carryOut_169 g h_g hN zw_100 ?_
          replace hT := zlet_open hT
          obtain ⟨w11, hw11, hT⟩ := hT
          rw [← hw11]
          refine z_aload_n ok dX1_carryOut_172 0 rfl ?_
          refine z_iconst ok dX1_carryOut_173 (x := 0) (by decide) ?_
          refine z_put_X1_justPassed ok dX1_carryOut_174 g h_g hN (by decide) zw_102 ?_
          replace hT := zlet_open hT
          obtain ⟨w12, hw12, hT⟩ := hT
          rw [← hw12]
          refine z_iload_n ok dX1_carryOut_177 3 rfl ?_
          exact z_iret ok hE dX1_carryOut_178 rfl ⟨congrArg Prod.fst hT, congrArg Prod.snd hT⟩
        refine z_if_eq ok dX1_carryOut_130 137 (by decide) (fun c13 => ?_) (fun c13 => ?_)
        · rw [if_pos c13] at hsx7
          refine z_iload ok dX1_carryOut_137 5 rfl ?_
          rw [← hsx7] at hJx7
          refine z_locs [1, 2, 3, 4, 5, 6, 7, 0] (lv' := [(0, .ref (zad G (5 + 6 * g))), (1, .int (nI f)), (2, .int (nI t)), (3, .int x1), (4, .int x2), (5, .int p4.1), (6, .int x5), (7, .int x6)]) rfl ?_
          exact hJx7
        · rw [if_neg c13] at hsx7
          refine z_iconst ok dX1_carryOut_133 (x := 1) (by decide) ?_
          refine z_goto ok dX1_carryOut_134 139 (by decide) ?_
          rw [← hsx7] at hJx7
          refine z_locs [1, 2, 3, 4, 5, 6, 7, 0] (lv' := [(0, .ref (zad G (5 + 6 * g))), (1, .int (nI f)), (2, .int (nI t)), (3, .int x1), (4, .int x2), (5, .int p4.1), (6, .int x5), (7, .int x6)]) rfl ?_
          exact hJx7
      refine z_icmp_ne ok dX1_carryOut_100 116 (by decide) (fun c14 => ?_) (fun c14 => ?_)
      · rw [if_neg c14] at hsx6
        refine z_iconst ok dX1_carryOut_116 (x := 0) (by decide) ?_
        rw [← hsx6] at hJx6
        refine z_locs [1, 2, 3, 4, 5, 6, 0] (lv' := [(0, .ref (zad G (5 + 6 * g))), (1, .int (nI f)), (2, .int (nI t)), (3, .int x1), (4, .int x2), (5, .int p4.1), (6, .int x5)]) rfl ?_
        exact hJx6
      · rw [if_pos c14] at hsx6
        refine z_iload_n ok dX1_carryOut_103 3 rfl ?_
        refine z_bipush ok dX1_carryOut_104 (x := 6) (by decide) ?_
        refine z_idiv_n ok dX1_carryOut_106 t 6 rfl rfl (by omega) (by omega) (by omega) ?_
        refine z_iload ok dX1_carryOut_107 0 rfl ?_
        refine z_icmp_ne ok dX1_carryOut_109 116 (by decide) (fun c15 => ?_) (fun c15 => ?_)
        · rw [if_neg c15] at hsx6
          refine z_iconst ok dX1_carryOut_116 (x := 0) (by decide) ?_
          rw [← hsx6] at hJx6
          refine z_locs [1, 2, 3, 4, 5, 6, 0] (lv' := [(0, .ref (zad G (5 + 6 * g))), (1, .int (nI f)), (2, .int (nI t)), (3, .int x1), (4, .int x2), (5, .int p4.1), (6, .int x5)]) rfl ?_
          exact hJx6
        · rw [if_pos c15] at hsx6
          refine z_iconst ok dX1_carryOut_112 (x := 1) (by decide) ?_
          refine z_goto ok dX1_carryOut_113 117 (by decide) ?_
          rw [← hsx6] at hJx6
          refine z_locs [1, 2, 3, 4, 5, 6, 0] (lv' := [(0, .ref (zad G (5 + 6 * g))), (1, .int (nI f)), (2, .int (nI t)), (3, .int x1), (4, .int x2), (5, .int p4.1), (6, .int x5)]) rfl ?_
          exact hJx6
    refine z_if_ne ok dX1_carryOut_87 94 (by decide) (fun c16 => ?_) (fun c16 => ?_)
    · rw [if_neg c16] at hsx5
      refine z_iconst ok dX1_carryOut_94 (x := 0) (by decide) ?_
      rw [← hsx5] at hJx5
      refine z_locs [0, 1, 2, 3, 4, 5] (lv' := [(0, .ref (zad G (5 + 6 * g))), (1, .int (nI f)), (2, .int (nI t)), (3, .int x1), (4, .int x2), (5, .int p4.1)]) rfl ?_
      exact hJx5
    · rw [if_pos c16] at hsx5
      refine z_iconst ok dX1_carryOut_90 (x := 5) (by decide) ?_
      refine z_goto ok dX1_carryOut_91 95 (by decide) ?_
      rw [← hsx5] at hJx5
      refine z_locs [0, 1, 2, 3, 4, 5] (lv' := [(0, .ref (zad G (5 + 6 * g))), (1, .int (nI f)), (2, .int (nI t)), (3, .int x1), (4, .int x2), (5, .int p4.1)]) rfl ?_
      exact hJx5
  refine z_if_eq ok dX1_carryOut_40 83 (by decide) (fun c17 => ?_) (fun c17 => ?_)
  · rw [if_pos c17] at hsp4
    rw [← hsp4] at hJp4
    refine z_locs [3, 4, 5, 2, 1, 0] (lv' := [(0, .ref (zad G (5 + 6 * g))), (1, .int (nI f)), (2, .int (nI t)), (3, .int x1), (4, .int x2), (5, .int x3)]) rfl ?_
    exact hJp4
  · rw [if_neg c17] at hsp4
    refine z_aload_n ok dX1_carryOut_43 3 rfl ?_
    refine z_iload ok dX1_carryOut_44 0 rfl ?_
    refine z_aload_n ok dX1_carryOut_46 3 rfl ?_
    refine z_get_X1_board ok dX1_carryOut_47 g h_g hN zw_88 ?_
    refine z_iload_n ok dX1_carryOut_50 5 rfl ?_
    refine z_callVNi ok old dX1_carryOut_51 [.int x3, .ref (zad G (5 + 6 * g))] (c_X0_springOn G N hN hg w g h_g t (by omega)) zy_X0_springOn zw_245 (6 + 6 * g) (zg_lt' hN h_g) (zE_board G w h_g) rfl rfl rfl rfl rfl (by decide) (Nat.le_of_ble_eq_true rfl) ?_
    refine z_callVi ok old dX1_carryOut_54 [] (c_X1_springBehindTaking G N hN hg w g h_g x3 (d_X0_springOn w g t)) zy_X1_springBehindTaking zw_353 (5 + 6 * g) (zg_lt hN h_g) (zE_game G w h_g) rfl rfl rfl rfl rfl (by decide) (Nat.le_of_ble_eq_true rfl) ?_
    replace hsp4 := zlet_open hsp4
    obtain ⟨p18, hp18, hsp4⟩ := hsp4
    rw [← hp18]
    refine z_istore ok dX1_carryOut_57 (hI 5 (by decide)) (lv' := [(5, .int p18.1), (4, .int x2), (3, .int x1), (0, .ref (zad G (5 + 6 * g))), (1, .int (nI f)), (2, .int (nI t))]) rfl ?_
    refine z_aload_n ok dX1_carryOut_59 3 rfl ?_
    refine z_get_X1_board ok dX1_carryOut_60 g h_g hN zw_88 ?_
    refine z_iload_n ok dX1_carryOut_63 5 rfl ?_
    refine z_callVNi ok old dX1_carryOut_64 [] (c_X0_kindOn G N hN hg p18.2 g h_g t (by omega)) zy_X0_kindOn zw_352 (6 + 6 * g) (zg_lt' hN h_g) (zE_board G p18.2 h_g) rfl rfl rfl rfl rfl (by decide) (Nat.le_of_ble_eq_true rfl) ?_
    replace hsp4 := zlet_open hsp4
    obtain ⟨w19, hw19, hsp4⟩ := hsp4
    have hsw19 := hw19.symm
    have hJw19 : zZ k G N w19 83 [(0, .ref (zad G (5 + 6 * g))), (1, .int (nI f)), (2, .int (nI t)), (3, .int x1), (4, .int x2), (5, .int p18.1)] [] := by
      rw [← hsp4] at hJp4
      refine z_locs [0, 1, 2, 3, 4, 5] (lv' := [(0, .ref (zad G (5 + 6 * g))), (1, .int (nI f)), (2, .int (nI t)), (3, .int x1), (4, .int x2), (5, .int p18.1)]) rfl ?_
      exact hJp4
    refine z_if_ne ok dX1_carryOut_67 83 (by decide) (fun c20 => ?_) (fun c20 => ?_)
    · rw [if_neg c20] at hsw19
      rw [← hsw19] at hJw19
      refine z_locs [3, 4, 5, 2, 1, 0] (lv' := [(0, .ref (zad G (5 + 6 * g))), (1, .int (nI f)), (2, .int (nI t)), (3, .int x1), (4, .int x2), (5, .int p18.1)]) rfl ?_
      exact hJw19
    · rw [if_pos c20] at hsw19
      refine z_aload_n ok dX1_carryOut_70 3 rfl ?_
      refine z_iconst ok dX1_carryOut_71 (x := 1) (by decide) ?_
      refine z_put_X1_ending ok dX1_carryOut_72 g h_g hN zw_96 ?_
      replace hsw19 := zlet_open hsw19
      obtain ⟨w21, hw21, hsw19⟩ := hsw19
      rw [← hw21]
      refine z_aload_n ok dX1_carryOut_75 3 rfl ?_
      refine z_aload_n ok dX1_carryOut_76 3 rfl ?_
      refine z_get_X1_mover ok dX1_carryOut_77 g h_g hN zw_94 ?_
      refine z_put_X1_winner ok dX1_carryOut_80 g h_g hN zw_98 ?_
      replace hsw19 := zlet_open hsw19
      obtain ⟨w22, hw22, hsw19⟩ := hsw19
      rw [← hw22]
      rw [← hsw19] at hJw19
      refine z_locs [3, 4, 5, 2, 1, 0] (lv' := [(0, .ref (zad G (5 + 6 * g))), (1, .int (nI f)), (2, .int (nI t)), (3, .int x1), (4, .int x2), (5, .int p18.1)]) rfl ?_
      exact hJw19

def d_X1_makeMove (w : xW) (g : Nat) (f : Nat) (t : Nat) : Int32 × xW :=
  zlet (d_X1_carryOut w g f t) fun p1 =>
  if (d_X1_isOver p1.2 g) = 0 then (zlet (d_X1_beginTurn p1.2 g (1 - (xg p1.2 g 144))) fun w3 =>
  (p1.1, w3))
  else ((p1.1, p1.2))
set_option maxRecDepth 100000 in
set_option maxHeartbeats 4000000 in
theorem c_X1_makeMove (G : zG) (N : Nat) (hN : 47 ≤ N) (hg : zGeo G N) (w : xW) (g : Nat) (h_g : g < 7) (f : Nat) (h_f : f < 36) (t : Nat) (h_t : t < 36) : zM yX1_makeMove cX1_makeMove 4 (some .int) 4 104 G N [.ref (zad G (5 + 6 * g)), .int (nI f), .int (nI t)] w (some (d_X1_makeMove w g f t).1) (d_X1_makeMove w g f t).2 := by
  obtain ⟨r, u, hT⟩ := zpair (d_X1_makeMove w g f t)
  rw [hT]
  dsimp only
  unfold d_X1_makeMove at hT
  refine zM_of zy_X1_makeMove.2.2.2.2.2.2.2 hg ⟨Nat.le_of_ble_eq_true rfl, by decide⟩ rfl (fun k ok hE hI => ?_)
  have old := hE.old
  refine z_aload_n ok dX1_makeMove_0 0 rfl ?_
  refine z_iload_n ok dX1_makeMove_1 1 rfl ?_
  refine z_iload_n ok dX1_makeMove_2 2 rfl ?_
  refine z_callVi ok old dX1_makeMove_3 [] (c_X1_carryOut G N hN hg w g h_g f (by omega) t (by omega)) zy_X1_carryOut zw_348 (5 + 6 * g) (zg_lt hN h_g) (zE_game G w h_g) rfl rfl rfl rfl rfl (by decide) (Nat.le_of_ble_eq_true rfl) ?_
  replace hT := zlet_open hT
  obtain ⟨p1, hp1, hT⟩ := hT
  rw [← hp1]
  refine z_istore_n ok dX1_makeMove_6 (hI 3 (by decide)) (lv' := [(3, .int p1.1), (0, .ref (zad G (5 + 6 * g))), (1, .int (nI f)), (2, .int (nI t))]) rfl ?_
  refine z_aload_n ok dX1_makeMove_7 1 rfl ?_
  refine z_callVi ok old dX1_makeMove_8 [] (c_X1_isOver G N hN hg p1.2 g h_g) zy_X1_isOver zw_320 (5 + 6 * g) (zg_lt hN h_g) (zE_game G p1.2 h_g) rfl rfl rfl rfl rfl (by decide) (Nat.le_of_ble_eq_true rfl) ?_
  refine z_if_ne ok dX1_makeMove_11 24 (by decide) (fun c2 => ?_) (fun c2 => ?_)
  · rw [if_neg c2] at hT
    refine z_iload_n ok dX1_makeMove_24 0 rfl ?_
    exact z_iret ok hE dX1_makeMove_25 rfl ⟨congrArg Prod.fst hT, congrArg Prod.snd hT⟩
  · rw [if_pos c2] at hT
    refine z_aload_n ok dX1_makeMove_14 1 rfl ?_
    refine z_iconst ok dX1_makeMove_15 (x := 1) (by decide) ?_
    refine z_aload_n ok dX1_makeMove_16 1 rfl ?_
    refine z_get_X1_mover ok dX1_makeMove_17 g h_g hN zw_94 ?_
    refine z_isub ok dX1_makeMove_20 ?_
    refine z_callVv ok old dX1_makeMove_21 [] (c_X1_beginTurn G N hN hg p1.2 g h_g (1 - (xg p1.2 g 144))) zy_X1_beginTurn zw_360 (5 + 6 * g) (zg_lt hN h_g) (zE_game G p1.2 h_g) rfl rfl rfl rfl rfl (by decide) (Nat.le_of_ble_eq_true rfl) ?_
    replace hT := zlet_open hT
    obtain ⟨w3, hw3, hT⟩ := hT
    rw [← hw3]
    refine z_iload_n ok dX1_makeMove_24 0 rfl ?_
    exact z_iret ok hE dX1_makeMove_25 rfl ⟨congrArg Prod.fst hT, congrArg Prod.snd hT⟩

def d_X1_makePass (w : xW) (g : Nat) : xW :=
  zlet (xs w g 147 ((xg w g 147) + 1)) fun w1 =>
  if (zb (xg w1 g 148)) = 0 then (zlet (xs w1 g 148 1) fun w3 =>
  zlet (d_X1_beginTurn w3 g (1 - (xg w3 g 144))) fun w4 =>
  w4)
  else (zlet (xs w1 g 145 2) fun w5 =>
  zlet (((d_X0_springsOf w5 g 0) - (d_X0_springsOf w5 g 1))) fun x6 =>
  if x6 = 0 then (w5)
  else (if x6 ≤ 0 then (zlet (xs w5 g 146 1) fun w9 =>
  w9)
  else (zlet (xs w5 g 146 0) fun w10 =>
  w10)))
set_option maxRecDepth 100000 in
set_option maxHeartbeats 4000000 in
theorem c_X1_makePass (G : zG) (N : Nat) (hN : 47 ≤ N) (hg : zGeo G N) (w : xW) (g : Nat) (h_g : g < 7) : zM yX1_makePass cX1_makePass 2 none 3 65 G N [.ref (zad G (5 + 6 * g))] w none (d_X1_makePass w g) := by
  generalize hT : d_X1_makePass w g = u
  unfold d_X1_makePass at hT
  refine zM_of zy_X1_makePass.2.2.2.2.2.2.2 hg ⟨Nat.le_of_ble_eq_true rfl, by decide⟩ rfl (fun k ok hE hI => ?_)
  have old := hE.old
  refine z_aload_n ok dX1_makePass_0 0 rfl ?_
  refine z_dup ok dX1_makePass_1 rfl ?_
  refine z_get_X1_turnsMade ok dX1_makePass_2 g h_g hN zw_100 ?_
  refine z_iconst ok dX1_makePass_5 (x := 1) (by decide) ?_
  refine z_iadd ok dX1_makePass_6 ?_
  refine z_put_X1_turnsMade ok dX1_makePass_7 g h_g hN zw_100 ?_
  replace hT := zlet_open hT
  obtain ⟨w1, hw1, hT⟩ := hT
  rw [← hw1]
  refine z_aload_n ok dX1_makePass_10 0 rfl ?_
  refine z_get_X1_justPassed ok dX1_makePass_11 g h_g hN zw_102 ?_
  refine z_if_eq ok dX1_makePass_14 60 (by decide) (fun c2 => ?_) (fun c2 => ?_)
  · rw [if_pos c2] at hT
    refine z_aload_n ok dX1_makePass_60 0 rfl ?_
    refine z_iconst ok dX1_makePass_61 (x := 1) (by decide) ?_
    refine z_put_X1_justPassed ok dX1_makePass_62 g h_g hN (by decide) zw_102 ?_
    replace hT := zlet_open hT
    obtain ⟨w3, hw3, hT⟩ := hT
    rw [← hw3]
    refine z_aload_n ok dX1_makePass_65 0 rfl ?_
    refine z_iconst ok dX1_makePass_66 (x := 1) (by decide) ?_
    refine z_aload_n ok dX1_makePass_67 0 rfl ?_
    refine z_get_X1_mover ok dX1_makePass_68 g h_g hN zw_94 ?_
    refine z_isub ok dX1_makePass_71 ?_
    refine z_callVv ok old dX1_makePass_72 [] (c_X1_beginTurn G N hN hg w3 g h_g (1 - (xg w3 g 144))) zy_X1_beginTurn zw_360 (5 + 6 * g) (zg_lt hN h_g) (zE_game G w3 h_g) rfl rfl rfl rfl rfl (by decide) (Nat.le_of_ble_eq_true rfl) ?_
    replace hT := zlet_open hT
    obtain ⟨w4, hw4, hT⟩ := hT
    rw [← hw4]
    exact z_vret ok hE dX1_makePass_75 hT
  · rw [if_neg c2] at hT
    refine z_aload_n ok dX1_makePass_17 0 rfl ?_
    refine z_iconst ok dX1_makePass_18 (x := 2) (by decide) ?_
    refine z_put_X1_ending ok dX1_makePass_19 g h_g hN zw_96 ?_
    replace hT := zlet_open hT
    obtain ⟨w5, hw5, hT⟩ := hT
    rw [← hw5]
    refine z_aload_n ok dX1_makePass_22 0 rfl ?_
    refine z_get_X1_board ok dX1_makePass_23 g h_g hN zw_88 ?_
    refine z_iconst ok dX1_makePass_26 (x := 0) (by decide) ?_
    refine z_callVNi ok old dX1_makePass_27 [] (c_X0_springsOf G N hN hg w5 g h_g 0) zy_X0_springsOf zw_387 (6 + 6 * g) (zg_lt' hN h_g) (zE_board G w5 h_g) rfl rfl rfl rfl rfl (by decide) (Nat.le_of_ble_eq_true rfl) ?_
    refine z_aload_n ok dX1_makePass_30 0 rfl ?_
    refine z_get_X1_board ok dX1_makePass_31 g h_g hN zw_88 ?_
    refine z_iconst ok dX1_makePass_34 (x := 1) (by decide) ?_
    refine z_callVNi ok old dX1_makePass_35 [.int (d_X0_springsOf w5 g 0)] (c_X0_springsOf G N hN hg w5 g h_g 1) zy_X0_springsOf zw_387 (6 + 6 * g) (zg_lt' hN h_g) (zE_board G w5 h_g) rfl rfl rfl rfl rfl (by decide) (Nat.le_of_ble_eq_true rfl) ?_
    refine z_isub ok dX1_makePass_38 ?_
    replace hT := zlet_open hT
    obtain ⟨x6, hx6, hT⟩ := hT
    rw [← hx6]
    refine z_istore_n ok dX1_makePass_39 (hI 1 (by decide)) (lv' := [(1, .int x6), (0, .ref (zad G (5 + 6 * g)))]) rfl ?_
    refine z_iload_n ok dX1_makePass_40 0 rfl ?_
    refine z_if_eq ok dX1_makePass_41 57 (by decide) (fun c7 => ?_) (fun c7 => ?_)
    · rw [if_pos c7] at hT
      refine z_goto ok dX1_makePass_57 75 (by decide) ?_
      exact z_vret ok hE dX1_makePass_75 hT
    · rw [if_neg c7] at hT
      refine z_aload_n ok dX1_makePass_44 1 rfl ?_
      refine z_iload_n ok dX1_makePass_45 0 rfl ?_
      refine z_if_le ok dX1_makePass_46 53 (by decide) (fun c8 => ?_) (fun c8 => ?_)
      · rw [if_pos c8] at hT
        refine z_iconst ok dX1_makePass_53 (x := 1) (by decide) ?_
        refine z_put_X1_winner ok dX1_makePass_54 g h_g hN zw_98 ?_
        replace hT := zlet_open hT
        obtain ⟨w9, hw9, hT⟩ := hT
        rw [← hw9]
        refine z_goto ok dX1_makePass_57 75 (by decide) ?_
        exact z_vret ok hE dX1_makePass_75 hT
      · rw [if_neg c8] at hT
        refine z_iconst ok dX1_makePass_49 (x := 0) (by decide) ?_
        refine z_goto ok dX1_makePass_50 54 (by decide) ?_
        refine z_put_X1_winner ok dX1_makePass_54 g h_g hN zw_98 ?_
        replace hT := zlet_open hT
        obtain ⟨w10, hw10, hT⟩ := hT
        rw [← hw10]
        refine z_goto ok dX1_makePass_57 75 (by decide) ?_
        exact z_vret ok hE dX1_makePass_75 hT
end
section
theorem zisCell {w : xW} {x : Int32} (h : ¬ d_X2_isCell w x = 0) : x = nI x.toNatClampNeg ∧ x.toNatClampNeg < 36 := by
  unfold d_X2_isCell at h
  by_cases h1 : x < 0
  · rw [if_pos h1] at h; exact absurd rfl h
  · rw [if_neg h1] at h
    by_cases h2 : 36 ≤ x
    · rw [if_pos h2] at h; exact absurd rfl h
    · exact zidx h1 h2
theorem zidx13 {x : Int32} (h1 : ¬ x < 0) (h2 : x ≤ 12) : x = nI x.toNatClampNeg ∧ x.toNatClampNeg < 13 := zidxN (by decide) h1 (by
  have := Int32.le_iff_toInt_le.mp h2
  intro q
  have q2 := Int32.le_iff_toInt_le.mp q
  have e : (12 : Int32).toInt = 12 := rfl
  rw [nI_toInt (by decide)] at q2
  omega)
theorem zidx_undo {w w1 : xW} (h1 : ¬ xg w 10 0 ≤ 0) (h2 : xg w 10 0 ≤ 5) (hw : w1 = xs w 10 0 (xg w 10 0 - 1)) : xg w1 10 0 = nI (xg w1 10 0).toNatClampNeg ∧ (xg w1 10 0).toNatClampNeg < 5 := by
  rw [hw, xg_same]
  rcases pk_ix (xg w 10 0) (n := 6) (by decide) with q | q | ⟨j, hj, e⟩
  · exact absurd (Int32.le_of_lt q) h1
  · have a1 := Int32.le_iff_toInt_le.mp h2
    have a2 := Int32.le_iff_toInt_le.mp q
    have e1 : (5 : Int32).toInt = 5 := rfl
    rw [nI_toInt (by decide)] at a2
    omega
  · rw [e] at h1 ⊢
    have : j ≠ 0 := fun z => h1 (by rw [z]; decide)
    rw [show (1 : Int32) = nI 1 from rfl, pk_sub (by omega), zcl (by omega)]
    exact ⟨rfl, by omega⟩
theorem zclamp_lt (x : Int32) : x.toNatClampNeg < 2147483648 := by
  have := Int32.toInt_lt x
  show x.toInt.toNat < 2147483648
  omega
theorem zlt_cl {x : Int32} {c : Nat} (h : ¬ x ≤ nI c) (hc : c < 2147483648) : c < x.toNatClampNeg := by
  have h1 : ¬ x.toInt ≤ (nI c).toInt := fun q => h (Int32.le_iff_toInt_le.mpr q)
  rw [nI_toInt hc] at h1
  show c < x.toInt.toNat
  omega
theorem c_X2_stateAt_n (G : zG) (N : Nat) (hN : 47 ≤ N) (hg : zGeo G N) (w : xW) (i : Int32) (h : i < 0 ∨ 5 ≤ i) : zMV yX2_stateAt cX2_stateAt 2 (some (.object "ClockworkChess$Game")) 0 0 G N [.ref (zad G 0), .int i] w (some .null) w := by
  refine zMV_of zy_X2_stateAt.2.2.2.2.2.2.2 hg ⟨Nat.le_of_ble_eq_true rfl, by decide⟩ rfl (fun k ok hE hI => ?_)
  refine z_iload_n ok dX2_stateAt_0 1 rfl ?_
  have ke : zZ k G N w 22 [(0, .ref (zad G 0)), (1, .int i)] [] := by
    refine z_null ok dX2_stateAt_22 ?_
    exact z_aret ok hE dX2_stateAt_23 (Or.inl rfl) ⟨rfl, rfl⟩
  refine z_if_lt ok dX2_stateAt_1 22 (by decide) (fun _ => ke) (fun c1 => ?_)
  refine z_iload_n ok dX2_stateAt_4 1 rfl ?_
  refine z_aload_n ok dX2_stateAt_5 0 rfl ?_
  refine z_get_X2_states ok dX2_stateAt_6 hN zw_178 ?_
  refine z_alen ok dX2_stateAt_9 1 (by omega) (zE_1 G w) (t := 2) (ty := .object RX1) (x := 5) rfl rfl ?_
  exact z_icmp_ge ok dX2_stateAt_10 22 (by decide) (fun _ => ke) (fun c2 => absurd h (fun q => q.elim c1 c2))
theorem c_X2_stateAt_r (G : zG) (N : Nat) (hN : 47 ≤ N) (hg : zGeo G N) (w : xW) (i : Int32) (h1 : ¬ i < 0) (h2 : ¬ 5 ≤ i) : zMV yX2_stateAt cX2_stateAt 2 (some (.object "ClockworkChess$Game")) 0 0 G N [.ref (zad G 0), .int i] w (some (.ref (zad G (5 + 6 * zpg w i.toNatClampNeg)))) w := by
  refine zMV_of zy_X2_stateAt.2.2.2.2.2.2.2 hg ⟨Nat.le_of_ble_eq_true rfl, by decide⟩ rfl (fun k ok hE hI => ?_)
  refine z_iload_n ok dX2_stateAt_0 1 rfl ?_
  refine z_if_lt ok dX2_stateAt_1 22 (by decide) (fun q => absurd q h1) (fun _ => ?_)
  refine z_iload_n ok dX2_stateAt_4 1 rfl ?_
  refine z_aload_n ok dX2_stateAt_5 0 rfl ?_
  refine z_get_X2_states ok dX2_stateAt_6 hN zw_178 ?_
  refine z_alen ok dX2_stateAt_9 1 (by omega) (zE_1 G w) (t := 2) (ty := .object RX1) (x := 5) rfl rfl ?_
  refine z_icmp_ge ok dX2_stateAt_10 22 (by decide) (fun q => absurd q h2) (fun _ => ?_)
  refine z_aload_n ok dX2_stateAt_13 0 rfl ?_
  refine z_get_X2_states ok dX2_stateAt_14 hN zw_178 ?_
  refine z_iload_n ok dX2_stateAt_17 1 rfl ?_
  refine z_aald ok dX2_stateAt_18 (by omega) i.toNatClampNeg (zidx5 h1 h2).1 (zidx5 h1 h2).2 ?_
  refine z_goto ok dX2_stateAt_19 23 (by decide) ?_
  exact z_aret ok hE dX2_stateAt_23 (Or.inr ⟨_, rfl⟩) ⟨rfl, rfl⟩
def d_X2_isSide (w : xW) (s : Int32) : Int32 :=
  if s = 0 then (1)
  else (if s = 1 then (1)
  else (0))
set_option maxRecDepth 100000 in
set_option maxHeartbeats 4000000 in
theorem c_X2_isSide (G : zG) (N : Nat) (hN : 47 ≤ N) (hg : zGeo G N) (w : xW) (s : Int32) : zM yX2_isSide cX2_isSide 1 (some .boolean) 0 0 G N [.int s] w (some (d_X2_isSide w s)) w := by
  generalize hT : d_X2_isSide w s = r
  unfold d_X2_isSide at hT
  refine zM_of zy_X2_isSide.2.2.2.2.2.2 hg ⟨Nat.le_of_ble_eq_true rfl, by decide⟩ rfl (fun k ok hE hI => ?_)
  have old := hE.old
  refine z_iload_n ok dX2_isSide_0 0 rfl ?_
  refine z_if_eq ok dX2_isSide_1 9 (by decide) (fun c1 => ?_) (fun c1 => ?_)
  · rw [if_pos c1] at hT
    refine z_iconst ok dX2_isSide_9 (x := 1) (by decide) ?_
    refine z_goto ok dX2_isSide_10 14 (by decide) ?_
    exact z_iret ok hE dX2_isSide_14 rfl ⟨hT, rfl⟩
  · rw [if_neg c1] at hT
    refine z_iload_n ok dX2_isSide_4 0 rfl ?_
    refine z_iconst ok dX2_isSide_5 (x := 1) (by decide) ?_
    refine z_icmp_ne ok dX2_isSide_6 13 (by decide) (fun c2 => ?_) (fun c2 => ?_)
    · rw [if_neg c2] at hT
      refine z_iconst ok dX2_isSide_13 (x := 0) (by decide) ?_
      exact z_iret ok hE dX2_isSide_14 rfl ⟨hT, rfl⟩
    · rw [if_pos c2] at hT
      refine z_iconst ok dX2_isSide_9 (x := 1) (by decide) ?_
      refine z_goto ok dX2_isSide_10 14 (by decide) ?_
      exact z_iret ok hE dX2_isSide_14 rfl ⟨hT, rfl⟩

def d_X2_isAccount (w : xW) (n : Int32) : Int32 :=
  if n < 0 then (0)
  else (if 6 < n then (0)
  else (1))
set_option maxRecDepth 100000 in
set_option maxHeartbeats 4000000 in
theorem c_X2_isAccount (G : zG) (N : Nat) (hN : 47 ≤ N) (hg : zGeo G N) (w : xW) (n : Int32) : zM yX2_isAccount cX2_isAccount 1 (some .boolean) 0 0 G N [.int n] w (some (d_X2_isAccount w n)) w := by
  generalize hT : d_X2_isAccount w n = r
  unfold d_X2_isAccount at hT
  refine zM_of zy_X2_isAccount.2.2.2.2.2.2 hg ⟨Nat.le_of_ble_eq_true rfl, by decide⟩ rfl (fun k ok hE hI => ?_)
  have old := hE.old
  refine z_iload_n ok dX2_isAccount_0 0 rfl ?_
  refine z_if_lt ok dX2_isAccount_1 14 (by decide) (fun c1 => ?_) (fun c1 => ?_)
  · rw [if_pos c1] at hT
    refine z_iconst ok dX2_isAccount_14 (x := 0) (by decide) ?_
    exact z_iret ok hE dX2_isAccount_15 rfl ⟨hT, rfl⟩
  · rw [if_neg c1] at hT
    refine z_iload_n ok dX2_isAccount_4 0 rfl ?_
    refine z_bipush ok dX2_isAccount_5 (x := 6) (by decide) ?_
    refine z_icmp_gt ok dX2_isAccount_7 14 (by decide) (fun c2 => ?_) (fun c2 => ?_)
    · rw [if_pos c2] at hT
      refine z_iconst ok dX2_isAccount_14 (x := 0) (by decide) ?_
      exact z_iret ok hE dX2_isAccount_15 rfl ⟨hT, rfl⟩
    · rw [if_neg c2] at hT
      refine z_iconst ok dX2_isAccount_10 (x := 1) (by decide) ?_
      refine z_goto ok dX2_isAccount_11 15 (by decide) ?_
      exact z_iret ok hE dX2_isAccount_15 rfl ⟨hT, rfl⟩

def d_X2_isSetting (w : xW) (what : Int32) (value : Int32) : Int32 :=
  if what = 0 then (if value < 1 then (0)
  else (if 12 < value then (0)
  else (1)))
  else (if what = 1 then (if value < 0 then (0)
  else (if 5 < value then (0)
  else (1)))
  else (if what = 2 then (if value < 0 then (0)
  else (if 5 < value then (0)
  else (1)))
  else (0)))
set_option maxRecDepth 100000 in
set_option maxHeartbeats 4000000 in
theorem c_X2_isSetting (G : zG) (N : Nat) (hN : 47 ≤ N) (hg : zGeo G N) (w : xW) (what : Int32) (value : Int32) : zM yX2_isSetting cX2_isSetting 2 (some .boolean) 0 0 G N [.int what, .int value] w (some (d_X2_isSetting w what value)) w := by
  generalize hT : d_X2_isSetting w what value = r
  unfold d_X2_isSetting at hT
  refine zM_of zy_X2_isSetting.2.2.2.2.2.2 hg ⟨Nat.le_of_ble_eq_true rfl, by decide⟩ rfl (fun k ok hE hI => ?_)
  have old := hE.old
  refine z_iload_n ok dX2_isSetting_0 0 rfl ?_
  refine z_if_ne ok dX2_isSetting_1 21 (by decide) (fun c1 => ?_) (fun c1 => ?_)
  · rw [if_neg c1] at hT
    refine z_iload_n ok dX2_isSetting_21 0 rfl ?_
    refine z_iconst ok dX2_isSetting_22 (x := 1) (by decide) ?_
    refine z_icmp_eq ok dX2_isSetting_23 31 (by decide) (fun c2 => ?_) (fun c2 => ?_)
    · rw [if_pos c2] at hT
      refine z_iload_n ok dX2_isSetting_31 1 rfl ?_
      refine z_if_lt ok dX2_isSetting_32 44 (by decide) (fun c3 => ?_) (fun c3 => ?_)
      · rw [if_pos c3] at hT
        refine z_iconst ok dX2_isSetting_44 (x := 0) (by decide) ?_
        exact z_iret ok hE dX2_isSetting_45 rfl ⟨hT, rfl⟩
      · rw [if_neg c3] at hT
        refine z_iload_n ok dX2_isSetting_35 1 rfl ?_
        refine z_iconst ok dX2_isSetting_36 (x := 5) (by decide) ?_
        refine z_icmp_gt ok dX2_isSetting_37 44 (by decide) (fun c4 => ?_) (fun c4 => ?_)
        · rw [if_pos c4] at hT
          refine z_iconst ok dX2_isSetting_44 (x := 0) (by decide) ?_
          exact z_iret ok hE dX2_isSetting_45 rfl ⟨hT, rfl⟩
        · rw [if_neg c4] at hT
          refine z_iconst ok dX2_isSetting_40 (x := 1) (by decide) ?_
          refine z_goto ok dX2_isSetting_41 45 (by decide) ?_
          exact z_iret ok hE dX2_isSetting_45 rfl ⟨hT, rfl⟩
    · rw [if_neg c2] at hT
      refine z_iload_n ok dX2_isSetting_26 0 rfl ?_
      refine z_iconst ok dX2_isSetting_27 (x := 2) (by decide) ?_
      refine z_icmp_ne ok dX2_isSetting_28 44 (by decide) (fun c5 => ?_) (fun c5 => ?_)
      · rw [if_neg c5] at hT
        refine z_iconst ok dX2_isSetting_44 (x := 0) (by decide) ?_
        exact z_iret ok hE dX2_isSetting_45 rfl ⟨hT, rfl⟩
      · rw [if_pos c5] at hT
        refine z_iload_n ok dX2_isSetting_31 1 rfl ?_
        refine z_if_lt ok dX2_isSetting_32 44 (by decide) (fun c6 => ?_) (fun c6 => ?_)
        · rw [if_pos c6] at hT
          refine z_iconst ok dX2_isSetting_44 (x := 0) (by decide) ?_
          exact z_iret ok hE dX2_isSetting_45 rfl ⟨hT, rfl⟩
        · rw [if_neg c6] at hT
          refine z_iload_n ok dX2_isSetting_35 1 rfl ?_
          refine z_iconst ok dX2_isSetting_36 (x := 5) (by decide) ?_
          refine z_icmp_gt ok dX2_isSetting_37 44 (by decide) (fun c7 => ?_) (fun c7 => ?_)
          · rw [if_pos c7] at hT
            refine z_iconst ok dX2_isSetting_44 (x := 0) (by decide) ?_
            exact z_iret ok hE dX2_isSetting_45 rfl ⟨hT, rfl⟩
          · rw [if_neg c7] at hT
            refine z_iconst ok dX2_isSetting_40 (x := 1) (by decide) ?_
            refine z_goto ok dX2_isSetting_41 45 (by decide) ?_
            exact z_iret ok hE dX2_isSetting_45 rfl ⟨hT, rfl⟩
  · rw [if_pos c1] at hT
    refine z_iload_n ok dX2_isSetting_4 1 rfl ?_
    refine z_iconst ok dX2_isSetting_5 (x := 1) (by decide) ?_
    refine z_icmp_lt ok dX2_isSetting_6 19 (by decide) (fun c8 => ?_) (fun c8 => ?_)
    · rw [if_pos c8] at hT
      refine z_iconst ok dX2_isSetting_19 (x := 0) (by decide) ?_
      exact z_iret ok hE dX2_isSetting_20 rfl ⟨hT, rfl⟩
    · rw [if_neg c8] at hT
      refine z_iload_n ok dX2_isSetting_9 1 rfl ?_
      refine z_bipush ok dX2_isSetting_10 (x := 12) (by decide) ?_
      refine z_icmp_gt ok dX2_isSetting_12 19 (by decide) (fun c9 => ?_) (fun c9 => ?_)
      · rw [if_pos c9] at hT
        refine z_iconst ok dX2_isSetting_19 (x := 0) (by decide) ?_
        exact z_iret ok hE dX2_isSetting_20 rfl ⟨hT, rfl⟩
      · rw [if_neg c9] at hT
        refine z_iconst ok dX2_isSetting_15 (x := 1) (by decide) ?_
        refine z_goto ok dX2_isSetting_16 20 (by decide) ?_
        exact z_iret ok hE dX2_isSetting_20 rfl ⟨hT, rfl⟩

def d_X2_record_21k (w : xW) (e7_2 : Nat) (ew7 : xW) : xW :=
  zlet (xp ew7 (5 - 1) (zpg w 0)) fun w8 =>
  zlet (xs w8 10 0 (nI (5 - 1))) fun w9 =>
  w9
def d_X2_record_21  (kt7 : Nat → xW → xW) : Nat → Nat → xW → xW
  | 0, _, _ => default
  | n7 + 1, v7_2, vw7 => if 5 ≤ v7_2 then (kt7 v7_2 vw7)
  else (zlet (xp vw7 (v7_2 - 1) (zpg vw7 v7_2)) fun w11 =>
  d_X2_record_21  kt7 n7 (v7_2 + 1) w11)
def d_X2_record (w : xW)  : xW :=
  zlet (if (xg w 10 0) < 5 then (w)
  else (d_X2_record_21  (d_X2_record_21k w) 6 1 w) : xW) fun w1 =>
  if (xg w1 10 0) < 0 then (w1)
  else (if 5 ≤ (xg w1 10 0) then (w1)
  else (zlet (d_X1_copyFrom w1 (zpg w1 (xg w1 10 0).toNatClampNeg) 0) fun w4 =>
  zlet (xs w4 10 0 ((xg w4 10 0) + 1)) fun w5 =>
  w5))
set_option maxRecDepth 100000 in
set_option maxHeartbeats 4000000 in
theorem c_X2_record (G : zG) (N : Nat) (hN : 47 ≤ N) (hg : zGeo G N) (w : xW) : zM yX2_record cX2_record 3 none 3 102 G N [.ref (zad G 0)] w none (d_X2_record w) := by
  generalize hT : d_X2_record w = u
  unfold d_X2_record at hT
  refine zM_of zy_X2_record.2.2.2.2.2.2.2 hg ⟨Nat.le_of_ble_eq_true rfl, by decide⟩ rfl (fun k ok hE hI => ?_)
  have old := hE.old
  refine z_aload_n ok dX2_record_0 0 rfl ?_
  refine z_get_X2_stateCount ok dX2_record_1 hN zw_179 ?_
  refine z_aload_n ok dX2_record_4 0 rfl ?_
  refine z_get_X2_states ok dX2_record_5 hN zw_178 ?_
  refine z_alen ok dX2_record_8 1 (by omega) (zE_1 G w) (t := 2) (ty := .object RX1) (x := 5) rfl rfl ?_
  replace hT := zlet_open hT
  obtain ⟨w1, hw1, hT⟩ := hT
  have hsw1 := hw1.symm
  have hJw1 : zZ k G N w1 74 [(0, .ref (zad G 0))] [] := by
    refine z_aload_n ok dX2_record_74 0 rfl ?_
    refine z_aload_n ok dX2_record_75 0 rfl ?_
    refine z_get_X2_stateCount ok dX2_record_76 hN zw_179 ?_
    by_cases c2 : (xg w1 10 0) < 0
    · rw [if_pos c2] at hT
      refine z_callVV ok old dX2_record_79 [] (c_X2_stateAt_n G N hN hg w1 (xg w1 10 0) (Or.inl c2)) zy_X2_stateAt zw_210 0 (by omega) (zE_0 G w1) rfl rfl rfl rfl rfl (by decide) (Nat.le_of_ble_eq_true rfl) ?_
      refine z_astore_nN ok dX2_record_82 (hI 1 (by decide)) (lv' := [(1, .null), (0, .ref (zad G 0))]) rfl ?_
      refine z_aload_nN ok dX2_record_83 0 rfl ?_
      refine z_ifnullN ok dX2_record_84 105 (by decide) ?_
      exact z_vret ok hE dX2_record_105 hT
    · rw [if_neg c2] at hT
      by_cases c3 : 5 ≤ (xg w1 10 0)
      · rw [if_pos c3] at hT
        refine z_callVV ok old dX2_record_79 [] (c_X2_stateAt_n G N hN hg w1 (xg w1 10 0) (Or.inr c3)) zy_X2_stateAt zw_210 0 (by omega) (zE_0 G w1) rfl rfl rfl rfl rfl (by decide) (Nat.le_of_ble_eq_true rfl) ?_
        refine z_astore_nN ok dX2_record_82 (hI 1 (by decide)) (lv' := [(1, .null), (0, .ref (zad G 0))]) rfl ?_
        refine z_aload_nN ok dX2_record_83 0 rfl ?_
        refine z_ifnullN ok dX2_record_84 105 (by decide) ?_
        exact z_vret ok hE dX2_record_105 hT
      · rw [if_neg c3] at hT
        refine z_callVV ok old dX2_record_79 [] (c_X2_stateAt_r G N hN hg w1 (xg w1 10 0) c2 c3) zy_X2_stateAt zw_210 0 (by omega) (zE_0 G w1) rfl rfl rfl rfl rfl (by decide) (Nat.le_of_ble_eq_true rfl) ?_
        refine z_astore_n ok dX2_record_82 (hI 1 (by decide)) (lv' := [(1, .ref (zad G (5 + 6 * (zpg w1 (xg w1 10 0).toNatClampNeg)))), (0, .ref (zad G 0))]) rfl ?_
        refine z_aload_n ok dX2_record_83 0 rfl ?_
        refine z_ifnull ok dX2_record_84 ?_
        refine z_aload_n ok dX2_record_87 0 rfl ?_
        refine z_aload_n ok dX2_record_88 1 rfl ?_
        refine z_get_X2_game ok dX2_record_89 hN zw_176 ?_
        refine z_callVNv ok old dX2_record_92 [] (c_X1_copyFrom G N hN hg w1 (zpg w1 (xg w1 10 0).toNatClampNeg) (zpg_lt _ _) 0 (by decide)) zy_X1_copyFrom zw_214 (5 + 6 * (zpg w1 (xg w1 10 0).toNatClampNeg)) (zg_lt hN (zpg_lt _ _)) (zE_game G w1 (zpg_lt _ _)) rfl rfl rfl rfl rfl (by decide) (Nat.le_of_ble_eq_true rfl) ?_
        replace hT := zlet_open hT
        obtain ⟨w4, hw4, hT⟩ := hT
        rw [← hw4]
        refine z_aload_n ok dX2_record_95 1 rfl ?_
        refine z_dup ok dX2_record_96 rfl ?_
        refine z_get_X2_stateCount ok dX2_record_97 hN zw_179 ?_
        refine z_iconst ok dX2_record_100 (x := 1) (by decide) ?_
        refine z_iadd ok dX2_record_101 ?_
        refine z_put_X2_stateCount ok dX2_record_102 hN zw_179 ?_
        replace hT := zlet_open hT
        obtain ⟨w5, hw5, hT⟩ := hT
        rw [← hw5]
        exact z_vret ok hE dX2_record_105 hT
  refine z_icmp_lt ok dX2_record_9 74 (by decide) (fun c6 => ?_) (fun c6 => ?_)
  · rw [if_pos c6] at hsw1
    rw [← hsw1] at hJw1
    refine z_locs [0] (lv' := [(0, .ref (zad G 0))]) rfl ?_
    exact hJw1
  · rw [if_neg c6] at hsw1
    refine z_aload_n ok dX2_record_12 0 rfl ?_
    refine z_get_X2_states ok dX2_record_13 hN zw_178 ?_
    refine z_iconst ok dX2_record_16 (x := 0) (by decide) ?_
    refine z_aald ok dX2_record_17 (by omega) 0 rfl (by omega) ?_
    refine z_astore_n ok dX2_record_18 (hI 1 (by decide)) (lv' := [(1, .ref (zad G (5 + 6 * (zpg w 0)))), (0, .ref (zad G 0))]) rfl ?_
    refine z_iconst ok dX2_record_19 (x := 1) (by decide) ?_
    refine z_istore_n ok dX2_record_20 (hI 2 (by decide)) (lv' := [(2, .int 1), (1, .ref (zad G (5 + 6 * (zpg w 0)))), (0, .ref (zad G 0))]) rfl ?_
    refine z_locs [2, 1, 0] (lv' := [(0, .ref (zad G 0)), (1, .ref (zad G (5 + 6 * (zpg w 0)))), (2, .int 1)]) rfl ?_
    obtain ⟨kt7, hkt7⟩ : ∃ z, z = (d_X2_record_21k w) := ⟨_, rfl⟩
    rw [← hkt7] at hsw1
    have hk7 : ∀ (e7_2 : Nat) (ew7 : xW), e7_2 ≤ 5 → 1 ≤ e7_2 → kt7 e7_2 ew7 = w1 → zZ k G N ew7 50 [(0, .ref (zad G 0)), (1, .ref (zad G (5 + 6 * (zpg w 0)))), (2, .int (nI e7_2))] [] := by
      intro e7_2 ew7 q7_0 q7_1 hT7
      rw [hkt7, d_X2_record_21k] at hT7
      refine z_aload_n ok dX2_record_50 0 rfl ?_
      refine z_get_X2_states ok dX2_record_51 hN zw_178 ?_
      refine z_aload_n ok dX2_record_54 0 rfl ?_
      refine z_get_X2_states ok dX2_record_55 hN zw_178 ?_
      refine z_alen ok dX2_record_58 1 (by omega) (zE_1 G ew7) (t := 2) (ty := .object RX1) (x := 5) rfl rfl ?_
      refine z_iconst ok dX2_record_59 (x := 1) (by decide) ?_
      refine z_isub_n ok dX2_record_60 5 1 rfl rfl (by omega) ?_
      refine z_aload_n ok dX2_record_61 1 rfl ?_
      refine z_aast ok dX2_record_62 (by omega) (zpg w 0) (zpg_lt _ _) (zg_lt hN (zpg_lt _ _)) (5 - 1) rfl (by omega) ?_
      replace hT7 := zlet_open hT7
      obtain ⟨w8, hw8, hT7⟩ := hT7
      rw [← hw8]
      refine z_aload_n ok dX2_record_63 0 rfl ?_
      refine z_aload_n ok dX2_record_64 0 rfl ?_
      refine z_get_X2_states ok dX2_record_65 hN zw_178 ?_
      refine z_alen ok dX2_record_68 1 (by omega) (zE_1 G w8) (t := 2) (ty := .object RX1) (x := 5) rfl rfl ?_
      refine z_iconst ok dX2_record_69 (x := 1) (by decide) ?_
      refine z_isub_n ok dX2_record_70 5 1 rfl rfl (by omega) ?_
      refine z_put_X2_stateCount ok dX2_record_71 hN zw_179 ?_
      replace hT7 := zlet_open hT7
      obtain ⟨w9, hw9, hT7⟩ := hT7
      rw [← hw9]
      rw [← hT7] at hJw1
      refine z_locs [0] (lv' := [(0, .ref (zad G 0))]) rfl ?_
      exact hJw1
    have hl7 : ∀ (n7 : Nat) (v7_2 : Nat) (vw7 : xW), 5 < v7_2 + n7 → v7_2 ≤ 5 → 1 ≤ v7_2 → d_X2_record_21  kt7 n7 v7_2 vw7 = w1 → zZ k G N vw7 21 [(0, .ref (zad G 0)), (1, .ref (zad G (5 + 6 * (zpg w 0)))), (2, .int (nI v7_2))] [] := by
      intro n7
      induction n7 with
      | zero =>
        intro v7_2 vw7 q7_0 q7_1 q7_2
        exact absurd q7_0 (by omega)
      | succ n7 ih7 =>
        intro v7_2 vw7 q7_0 q7_1 q7_2 hT7
        rw [d_X2_record_21] at hT7
        refine z_iload_n ok dX2_record_21 2 rfl ?_
        refine z_aload_n ok dX2_record_22 0 rfl ?_
        refine z_get_X2_states ok dX2_record_23 hN zw_178 ?_
        refine z_alen ok dX2_record_26 1 (by omega) (zE_1 G vw7) (t := 2) (ty := .object RX1) (x := 5) rfl rfl ?_
        refine z_icmp_ge_n ok dX2_record_27 50 (by decide) v7_2 5 rfl rfl (by omega) (fun c10 => ?_) (fun c10 => ?_)
        · rw [if_pos c10] at hT7
          refine z_locs [0, 1, 2] (lv' := [(0, .ref (zad G 0)), (1, .ref (zad G (5 + 6 * (zpg w 0)))), (2, .int (nI v7_2))]) rfl ?_
          exact hk7 v7_2 vw7 (by omega) (by first | assumption | omega) hT7
        · rw [if_neg c10] at hT7
          refine z_aload_n ok dX2_record_30 0 rfl ?_
          refine z_get_X2_states ok dX2_record_31 hN zw_178 ?_
          refine z_iload_n ok dX2_record_34 2 rfl ?_
          refine z_iconst ok dX2_record_35 (x := 1) (by decide) ?_
          refine z_isub_n ok dX2_record_36 v7_2 1 rfl rfl (by omega) ?_
          refine z_aload_n ok dX2_record_37 0 rfl ?_
          refine z_get_X2_states ok dX2_record_38 hN zw_178 ?_
          refine z_iload_n ok dX2_record_41 2 rfl ?_
          refine z_aald ok dX2_record_42 (by omega) v7_2 rfl (by omega) ?_
          refine z_aast ok dX2_record_43 (by omega) (zpg vw7 v7_2) (zpg_lt _ _) (zg_lt hN (zpg_lt _ _)) (v7_2 - 1) rfl (by omega) ?_
          replace hT7 := zlet_open hT7
          obtain ⟨w11, hw11, hT7⟩ := hT7
          rw [← hw11]
          refine z_iinc ok dX2_record_44 (hI 2 (by decide)) 2 rfl (y := (nI (v7_2 + 1))) (z_incn v7_2 1) (lv' := [(2, .int (nI (v7_2 + 1))), (0, .ref (zad G 0)), (1, .ref (zad G (5 + 6 * (zpg w 0))))]) rfl ?_
          refine z_goto ok dX2_record_47 21 (by decide) ?_
          refine z_locs [1, 2, 0] (lv' := [(0, .ref (zad G 0)), (1, .ref (zad G (5 + 6 * (zpg w 0)))), (2, .int (nI (v7_2 + 1)))]) rfl ?_
          exact ih7 (v7_2 + 1) w11 (by omega) (by omega) (by first | assumption | omega) hT7
    exact hl7 6 1 w (by omega) (by omega) (by first | assumption | omega) hsw1

def d_X2_setUp (w : xW)  : Int32 × xW :=
  zlet (d_X2_record w) fun w1 =>
  zlet (d_X1_begin w1 0) fun w2 =>
  ((d_X0_springsInAll w2 0), w2)
set_option maxRecDepth 100000 in
set_option maxHeartbeats 4000000 in
theorem c_X2_setUp (G : zG) (N : Nat) (hN : 47 ≤ N) (hg : zGeo G N) (w : xW) : zM yX2_setUp cX2_setUp 1 (some .int) 5 124 G N [.ref (zad G 0)] w (some (d_X2_setUp w).1) (d_X2_setUp w).2 := by
  obtain ⟨r, u, hT⟩ := zpair (d_X2_setUp w)
  rw [hT]
  dsimp only
  unfold d_X2_setUp at hT
  refine zM_of zy_X2_setUp.2.2.2.2.2.2.2 hg ⟨Nat.le_of_ble_eq_true rfl, by decide⟩ rfl (fun k ok hE hI => ?_)
  have old := hE.old
  refine z_aload_n ok dX2_setUp_0 0 rfl ?_
  refine z_callVv ok old dX2_setUp_1 [] (c_X2_record G N hN hg w ) zy_X2_record zw_206 0 (by omega) (zE_0 G w) rfl rfl rfl rfl rfl (by decide) (Nat.le_of_ble_eq_true rfl) ?_
  replace hT := zlet_open hT
  obtain ⟨w1, hw1, hT⟩ := hT
  rw [← hw1]
  refine z_aload_n ok dX2_setUp_4 0 rfl ?_
  refine z_get_X2_game ok dX2_setUp_5 hN zw_176 ?_
  refine z_callVNv ok old dX2_setUp_8 [] (c_X1_begin G N hN hg w1 0 (by decide)) zy_X1_begin zw_141 (5 + 6 * 0) (zg_lt hN (by decide)) (zE_game G w1 (by decide)) rfl rfl rfl rfl rfl (by decide) (Nat.le_of_ble_eq_true rfl) ?_
  replace hT := zlet_open hT
  obtain ⟨w2, hw2, hT⟩ := hT
  rw [← hw2]
  refine z_aload_n ok dX2_setUp_11 0 rfl ?_
  refine z_get_X2_game ok dX2_setUp_12 hN zw_176 ?_
  refine z_getN_X1_board ok dX2_setUp_15 0 (by decide) hN zw_89 ?_
  refine z_callVNi ok old dX2_setUp_18 [] (c_X0_springsInAll G N hN hg w2 0 (by decide)) zy_X0_springsInAll zw_225 (6 + 6 * 0) (zg_lt' hN (by decide)) (zE_board G w2 (by decide)) rfl rfl rfl rfl rfl (by decide) (Nat.le_of_ble_eq_true rfl) ?_
  exact z_iret ok hE dX2_setUp_21 rfl ⟨congrArg Prod.fst hT, congrArg Prod.snd hT⟩

def d_X2_set (w : xW) (what : Int32) (value : Int32) : Int32 × xW :=
  if (d_X2_isSetting w what value) = 0 then (((-1), w))
  else (zlet (d_X2_record w) fun w2 =>
  zlet ((d_X1_setting w2 0 what)) fun x3 =>
  zlet (d_X1_changeSetting w2 0 what value) fun w4 =>
  (x3, w4))
set_option maxRecDepth 100000 in
set_option maxHeartbeats 4000000 in
theorem c_X2_set (G : zG) (N : Nat) (hN : 47 ≤ N) (hg : zGeo G N) (w : xW) (what : Int32) (value : Int32) : zM yX2_set cX2_set 4 (some .int) 4 124 G N [.ref (zad G 0), .int what, .int value] w (some (d_X2_set w what value).1) (d_X2_set w what value).2 := by
  obtain ⟨r, u, hT⟩ := zpair (d_X2_set w what value)
  rw [hT]
  dsimp only
  unfold d_X2_set at hT
  refine zM_of zy_X2_set.2.2.2.2.2.2.2 hg ⟨Nat.le_of_ble_eq_true rfl, by decide⟩ rfl (fun k ok hE hI => ?_)
  have old := hE.old
  refine z_iload_n ok dX2_set_0 1 rfl ?_
  refine z_iload_n ok dX2_set_1 2 rfl ?_
  refine z_callSi ok old dX2_set_2 [] (c_X2_isSetting G N hN hg w what value) zy_X2_isSetting zw_230 rfl rfl (by decide) (Nat.le_of_ble_eq_true rfl) ?_
  refine z_if_ne ok dX2_set_5 10 (by decide) (fun c1 => ?_) (fun c1 => ?_)
  · rw [if_neg c1] at hT
    refine z_aload_n ok dX2_set_10 0 rfl ?_
    refine z_callVv ok old dX2_set_11 [] (c_X2_record G N hN hg w ) zy_X2_record zw_206 0 (by omega) (zE_0 G w) rfl rfl rfl rfl rfl (by decide) (Nat.le_of_ble_eq_true rfl) ?_
    replace hT := zlet_open hT
    obtain ⟨w2, hw2, hT⟩ := hT
    rw [← hw2]
    refine z_aload_n ok dX2_set_14 0 rfl ?_
    refine z_get_X2_game ok dX2_set_15 hN zw_176 ?_
    refine z_iload_n ok dX2_set_18 1 rfl ?_
    refine z_callVNi ok old dX2_set_19 [] (c_X1_setting G N hN hg w2 0 (by decide) what) zy_X1_setting zw_233 (5 + 6 * 0) (zg_lt hN (by decide)) (zE_game G w2 (by decide)) rfl rfl rfl rfl rfl (by decide) (Nat.le_of_ble_eq_true rfl) ?_
    replace hT := zlet_open hT
    obtain ⟨x3, hx3, hT⟩ := hT
    rw [← hx3]
    refine z_istore_n ok dX2_set_22 (hI 3 (by decide)) (lv' := [(3, .int x3), (0, .ref (zad G 0)), (1, .int what), (2, .int value)]) rfl ?_
    refine z_aload_n ok dX2_set_23 1 rfl ?_
    refine z_get_X2_game ok dX2_set_24 hN zw_176 ?_
    refine z_iload_n ok dX2_set_27 2 rfl ?_
    refine z_iload_n ok dX2_set_28 3 rfl ?_
    refine z_callVNv ok old dX2_set_29 [] (c_X1_changeSetting G N hN hg w2 0 (by decide) what value) zy_X1_changeSetting zw_237 (5 + 6 * 0) (zg_lt hN (by decide)) (zE_game G w2 (by decide)) rfl rfl rfl rfl rfl (by decide) (Nat.le_of_ble_eq_true rfl) ?_
    replace hT := zlet_open hT
    obtain ⟨w4, hw4, hT⟩ := hT
    rw [← hw4]
    refine z_iload_n ok dX2_set_32 0 rfl ?_
    exact z_iret ok hE dX2_set_33 rfl ⟨congrArg Prod.fst hT, congrArg Prod.snd hT⟩
  · rw [if_pos c1] at hT
    refine z_iconst ok dX2_set_8 (x := (-1)) (by decide) ?_
    exact z_iret ok hE dX2_set_9 rfl ⟨congrArg Prod.fst hT, congrArg Prod.snd hT⟩

def d_X2_put (w : xW) (cell : Int32) (side : Int32) (kind : Int32) (spring : Int32) : Int32 × xW :=
  zlet (if (d_X2_isSide w side) = 0 then (if side = (-1) then (1)
  else (0))
  else (1) : Int32) fun x1 =>
  zlet (if kind < 0 then (0)
  else (if 4 < kind then (0)
  else (1)) : Int32) fun x2 =>
  zlet (if spring < 0 then (0)
  else (if (xg w 0 149) < spring then (0)
  else (1)) : Int32) fun x3 =>
  if (d_X2_isCell w cell) = 0 then (((-1), w))
  else (if x1 = 0 then (((-1), w))
  else (if x2 = 0 then (((-1), w))
  else (if x3 = 0 then (((-1), w))
  else (zlet cell.toNatClampNeg fun c_cell =>
  if (d_X1_isOver w 0) = 0 then (zlet (d_X2_record w) fun w9 =>
  zlet ((d_X0_hasPiece w9 0 c_cell)) fun x10 =>
  zlet (d_X1_putInstead w9 0 c_cell side kind spring) fun w11 =>
  if x10 = 0 then ((0, w11))
  else ((1, w11)))
  else (((-2), w))))))
set_option maxRecDepth 100000 in
set_option maxHeartbeats 4000000 in
theorem c_X2_put (G : zG) (N : Nat) (hN : 47 ≤ N) (hg : zGeo G N) (w : xW) (cell : Int32) (side : Int32) (kind : Int32) (spring : Int32) : zM yX2_put cX2_put 9 (some .int) 4 124 G N [.ref (zad G 0), .int cell, .int side, .int kind, .int spring] w (some (d_X2_put w cell side kind spring).1) (d_X2_put w cell side kind spring).2 := by
  obtain ⟨r, u, hT⟩ := zpair (d_X2_put w cell side kind spring)
  rw [hT]
  dsimp only
  unfold d_X2_put at hT
  refine zM_of zy_X2_put.2.2.2.2.2.2.2 hg ⟨Nat.le_of_ble_eq_true rfl, by decide⟩ rfl (fun k ok hE hI => ?_)
  have old := hE.old
  refine z_iload_n ok dX2_put_0 2 rfl ?_
  refine z_callSi ok old dX2_put_1 [] (c_X2_isSide G N hN hg w side) zy_X2_isSide zw_257 rfl rfl (by decide) (Nat.le_of_ble_eq_true rfl) ?_
  replace hT := zlet_open hT
  obtain ⟨x1, hx1, hT⟩ := hT
  have hsx1 := hx1.symm
  have hJx1 : zZ k G N w 17 [(0, .ref (zad G 0)), (1, .int cell), (2, .int side), (3, .int kind), (4, .int spring)] [.int x1] := by
    refine z_istore ok dX2_put_17 (hI 5 (by decide)) (lv' := [(5, .int x1), (0, .ref (zad G 0)), (1, .int cell), (2, .int side), (3, .int kind), (4, .int spring)]) rfl ?_
    refine z_iload_n ok dX2_put_19 4 rfl ?_
    replace hT := zlet_open hT
    obtain ⟨x2, hx2, hT⟩ := hT
    have hsx2 := hx2.symm
    have hJx2 : zZ k G N w 33 [(0, .ref (zad G 0)), (1, .int cell), (2, .int side), (3, .int kind), (4, .int spring), (5, .int x1)] [.int x2] := by
      refine z_istore ok dX2_put_33 (hI 6 (by decide)) (lv' := [(6, .int x2), (0, .ref (zad G 0)), (1, .int cell), (2, .int side), (3, .int kind), (4, .int spring), (5, .int x1)]) rfl ?_
      refine z_iload ok dX2_put_35 5 rfl ?_
      replace hT := zlet_open hT
      obtain ⟨x3, hx3, hT⟩ := hT
      have hsx3 := hx3.symm
      have hJx3 : zZ k G N w 57 [(0, .ref (zad G 0)), (1, .int cell), (2, .int side), (3, .int kind), (4, .int spring), (5, .int x1), (6, .int x2)] [.int x3] := by
        refine z_istore ok dX2_put_57 (hI 7 (by decide)) (lv' := [(7, .int x3), (0, .ref (zad G 0)), (1, .int cell), (2, .int side), (3, .int kind), (4, .int spring), (5, .int x1), (6, .int x2)]) rfl ?_
        refine z_iload_n ok dX2_put_59 2 rfl ?_
        refine z_callSi ok old dX2_put_60 [] (c_X2_isCell G N hN hg w cell) zy_X2_isCell zw_260 rfl rfl (by decide) (Nat.le_of_ble_eq_true rfl) ?_
        refine z_if_eq ok dX2_put_63 81 (by decide) (fun c4 => ?_) (fun c4 => ?_)
        · rw [if_pos c4] at hT
          refine z_iconst ok dX2_put_81 (x := (-1)) (by decide) ?_
          exact z_iret ok hE dX2_put_82 rfl ⟨congrArg Prod.fst hT, congrArg Prod.snd hT⟩
        · rw [if_neg c4] at hT
          refine z_iload ok dX2_put_66 6 rfl ?_
          refine z_if_eq ok dX2_put_68 81 (by decide) (fun c5 => ?_) (fun c5 => ?_)
          · rw [if_pos c5] at hT
            refine z_iconst ok dX2_put_81 (x := (-1)) (by decide) ?_
            exact z_iret ok hE dX2_put_82 rfl ⟨congrArg Prod.fst hT, congrArg Prod.snd hT⟩
          · rw [if_neg c5] at hT
            refine z_iload ok dX2_put_71 7 rfl ?_
            refine z_if_eq ok dX2_put_73 81 (by decide) (fun c6 => ?_) (fun c6 => ?_)
            · rw [if_pos c6] at hT
              refine z_iconst ok dX2_put_81 (x := (-1)) (by decide) ?_
              exact z_iret ok hE dX2_put_82 rfl ⟨congrArg Prod.fst hT, congrArg Prod.snd hT⟩
            · rw [if_neg c6] at hT
              refine z_iload ok dX2_put_76 0 rfl ?_
              refine z_if_ne ok dX2_put_78 83 (by decide) (fun c7 => ?_) (fun c7 => ?_)
              · rw [if_neg c7] at hT
                replace hT := zlet_open hT
                obtain ⟨c_cell, hc_cell, hT⟩ := hT
                obtain ⟨lc_cell, ec_cell⟩ := zcellx (zisCell (by assumption)) hc_cell
                subst ec_cell
                refine z_aload_n ok dX2_put_83 1 rfl ?_
                refine z_get_X2_game ok dX2_put_84 hN zw_176 ?_
                refine z_callVNi ok old dX2_put_87 [] (c_X1_isOver G N hN hg w 0 (by decide)) zy_X1_isOver zw_261 (5 + 6 * 0) (zg_lt hN (by decide)) (zE_game G w (by decide)) rfl rfl rfl rfl rfl (by decide) (Nat.le_of_ble_eq_true rfl) ?_
                refine z_if_eq ok dX2_put_90 96 (by decide) (fun c8 => ?_) (fun c8 => ?_)
                · rw [if_pos c8] at hT
                  refine z_aload_n ok dX2_put_96 1 rfl ?_
                  refine z_callVv ok old dX2_put_97 [] (c_X2_record G N hN hg w ) zy_X2_record zw_206 0 (by omega) (zE_0 G w) rfl rfl rfl rfl rfl (by decide) (Nat.le_of_ble_eq_true rfl) ?_
                  replace hT := zlet_open hT
                  obtain ⟨w9, hw9, hT⟩ := hT
                  rw [← hw9]
                  refine z_aload_n ok dX2_put_100 1 rfl ?_
                  refine z_get_X2_game ok dX2_put_101 hN zw_176 ?_
                  refine z_getN_X1_board ok dX2_put_104 0 (by decide) hN zw_89 ?_
                  refine z_iload_n ok dX2_put_107 2 rfl ?_
                  refine z_callVNi ok old dX2_put_108 [] (c_X0_hasPiece G N hN hg w9 0 (by decide) c_cell (by omega)) zy_X0_hasPiece zw_265 (6 + 6 * 0) (zg_lt' hN (by decide)) (zE_board G w9 (by decide)) rfl rfl rfl rfl rfl (by decide) (Nat.le_of_ble_eq_true rfl) ?_
                  replace hT := zlet_open hT
                  obtain ⟨x10, hx10, hT⟩ := hT
                  rw [← hx10]
                  refine z_istore ok dX2_put_111 (hI 8 (by decide)) (lv' := [(8, .int x10), (7, .int x3), (0, .ref (zad G 0)), (1, .int (nI c_cell)), (2, .int side), (3, .int kind), (4, .int spring), (5, .int x1), (6, .int x2)]) rfl ?_
                  refine z_aload_n ok dX2_put_113 2 rfl ?_
                  refine z_get_X2_game ok dX2_put_114 hN zw_176 ?_
                  refine z_iload_n ok dX2_put_117 3 rfl ?_
                  refine z_iload_n ok dX2_put_118 4 rfl ?_
                  refine z_iload_n ok dX2_put_119 5 rfl ?_
                  refine z_iload ok dX2_put_120 6 rfl ?_
                  refine z_callVNv ok old dX2_put_122 [] (c_X1_putInstead G N hN hg w9 0 (by decide) c_cell (by omega) side kind spring) zy_X1_putInstead zw_273 (5 + 6 * 0) (zg_lt hN (by decide)) (zE_game G w9 (by decide)) rfl rfl rfl rfl rfl (by decide) (Nat.le_of_ble_eq_true rfl) ?_
                  replace hT := zlet_open hT
                  obtain ⟨w11, hw11, hT⟩ := hT
                  rw [← hw11]
                  refine z_iload ok dX2_put_125 0 rfl ?_
                  refine z_if_eq ok dX2_put_127 134 (by decide) (fun c12 => ?_) (fun c12 => ?_)
                  · rw [if_pos c12] at hT
                    refine z_iconst ok dX2_put_134 (x := 0) (by decide) ?_
                    exact z_iret ok hE dX2_put_135 rfl ⟨congrArg Prod.fst hT, congrArg Prod.snd hT⟩
                  · rw [if_neg c12] at hT
                    refine z_iconst ok dX2_put_130 (x := 1) (by decide) ?_
                    refine z_goto ok dX2_put_131 135 (by decide) ?_
                    exact z_iret ok hE dX2_put_135 rfl ⟨congrArg Prod.fst hT, congrArg Prod.snd hT⟩
                · rw [if_neg c8] at hT
                  refine z_bipush ok dX2_put_93 (x := (-2)) (by decide) ?_
                  exact z_iret ok hE dX2_put_95 rfl ⟨congrArg Prod.fst hT, congrArg Prod.snd hT⟩
              · rw [if_pos c7] at hT
                refine z_iconst ok dX2_put_81 (x := (-1)) (by decide) ?_
                exact z_iret ok hE dX2_put_82 rfl ⟨congrArg Prod.fst hT, congrArg Prod.snd hT⟩
      refine z_if_lt ok dX2_put_37 56 (by decide) (fun c13 => ?_) (fun c13 => ?_)
      · rw [if_pos c13] at hsx3
        refine z_iconst ok dX2_put_56 (x := 0) (by decide) ?_
        rw [← hsx3] at hJx3
        refine z_locs [1, 2, 3, 4, 5, 6, 0] (lv' := [(0, .ref (zad G 0)), (1, .int cell), (2, .int side), (3, .int kind), (4, .int spring), (5, .int x1), (6, .int x2)]) rfl ?_
        exact hJx3
      · rw [if_neg c13] at hsx3
        refine z_iload ok dX2_put_40 5 rfl ?_
        refine z_aload_n ok dX2_put_42 1 rfl ?_
        refine z_get_X2_game ok dX2_put_43 hN zw_176 ?_
        refine z_getN_X1_limit ok dX2_put_46 0 (by decide) hN zw_91 ?_
        refine z_icmp_gt ok dX2_put_49 56 (by decide) (fun c14 => ?_) (fun c14 => ?_)
        · rw [if_pos c14] at hsx3
          refine z_iconst ok dX2_put_56 (x := 0) (by decide) ?_
          rw [← hsx3] at hJx3
          refine z_locs [1, 2, 3, 4, 5, 6, 0] (lv' := [(0, .ref (zad G 0)), (1, .int cell), (2, .int side), (3, .int kind), (4, .int spring), (5, .int x1), (6, .int x2)]) rfl ?_
          exact hJx3
        · rw [if_neg c14] at hsx3
          refine z_iconst ok dX2_put_52 (x := 1) (by decide) ?_
          refine z_goto ok dX2_put_53 57 (by decide) ?_
          rw [← hsx3] at hJx3
          refine z_locs [1, 2, 3, 4, 5, 6, 0] (lv' := [(0, .ref (zad G 0)), (1, .int cell), (2, .int side), (3, .int kind), (4, .int spring), (5, .int x1), (6, .int x2)]) rfl ?_
          exact hJx3
    refine z_if_lt ok dX2_put_20 32 (by decide) (fun c15 => ?_) (fun c15 => ?_)
    · rw [if_pos c15] at hsx2
      refine z_iconst ok dX2_put_32 (x := 0) (by decide) ?_
      rw [← hsx2] at hJx2
      refine z_locs [1, 2, 3, 4, 5, 0] (lv' := [(0, .ref (zad G 0)), (1, .int cell), (2, .int side), (3, .int kind), (4, .int spring), (5, .int x1)]) rfl ?_
      exact hJx2
    · rw [if_neg c15] at hsx2
      refine z_iload_n ok dX2_put_23 4 rfl ?_
      refine z_iconst ok dX2_put_24 (x := 4) (by decide) ?_
      refine z_icmp_gt ok dX2_put_25 32 (by decide) (fun c16 => ?_) (fun c16 => ?_)
      · rw [if_pos c16] at hsx2
        refine z_iconst ok dX2_put_32 (x := 0) (by decide) ?_
        rw [← hsx2] at hJx2
        refine z_locs [1, 2, 3, 4, 5, 0] (lv' := [(0, .ref (zad G 0)), (1, .int cell), (2, .int side), (3, .int kind), (4, .int spring), (5, .int x1)]) rfl ?_
        exact hJx2
      · rw [if_neg c16] at hsx2
        refine z_iconst ok dX2_put_28 (x := 1) (by decide) ?_
        refine z_goto ok dX2_put_29 33 (by decide) ?_
        rw [← hsx2] at hJx2
        refine z_locs [1, 2, 3, 4, 5, 0] (lv' := [(0, .ref (zad G 0)), (1, .int cell), (2, .int side), (3, .int kind), (4, .int spring), (5, .int x1)]) rfl ?_
        exact hJx2
  refine z_if_ne ok dX2_put_4 12 (by decide) (fun c17 => ?_) (fun c17 => ?_)
  · rw [if_neg c17] at hsx1
    refine z_iconst ok dX2_put_12 (x := 1) (by decide) ?_
    refine z_goto ok dX2_put_13 17 (by decide) ?_
    rw [← hsx1] at hJx1
    refine z_locs [0, 1, 2, 3, 4] (lv' := [(0, .ref (zad G 0)), (1, .int cell), (2, .int side), (3, .int kind), (4, .int spring)]) rfl ?_
    exact hJx1
  · rw [if_pos c17] at hsx1
    refine z_iload_n ok dX2_put_7 2 rfl ?_
    refine z_iconst ok dX2_put_8 (x := (-1)) (by decide) ?_
    refine z_icmp_ne ok dX2_put_9 16 (by decide) (fun c18 => ?_) (fun c18 => ?_)
    · rw [if_neg c18] at hsx1
      refine z_iconst ok dX2_put_16 (x := 0) (by decide) ?_
      rw [← hsx1] at hJx1
      refine z_locs [0, 1, 2, 3, 4] (lv' := [(0, .ref (zad G 0)), (1, .int cell), (2, .int side), (3, .int kind), (4, .int spring)]) rfl ?_
      exact hJx1
    · rw [if_pos c18] at hsx1
      refine z_iconst ok dX2_put_12 (x := 1) (by decide) ?_
      refine z_goto ok dX2_put_13 17 (by decide) ?_
      rw [← hsx1] at hJx1
      refine z_locs [0, 1, 2, 3, 4] (lv' := [(0, .ref (zad G 0)), (1, .int cell), (2, .int side), (3, .int kind), (4, .int spring)]) rfl ?_
      exact hJx1

def d_X2_tower (w : xW) (cell : Int32) : Int32 × xW :=
  if (d_X2_isCell w cell) = 0 then (((-1), w))
  else (zlet cell.toNatClampNeg fun c_cell =>
  if (d_X0_isTower w 0 c_cell) = 0 then (if (d_X0_towersInAll w 0) < 6 then (zlet (d_X2_record w) fun w8 =>
  if (d_X0_isTower w8 0 c_cell) = 0 then (zlet (d_X0_markTower w8 0 c_cell 1) fun w11 =>
  ((d_X0_towersInAll w11 0), w11))
  else (zlet (d_X0_markTower w8 0 c_cell 0) fun w10 =>
  ((d_X0_towersInAll w10 0), w10)))
  else (((-3), w)))
  else (zlet (d_X2_record w) fun w3 =>
  if (d_X0_isTower w3 0 c_cell) = 0 then (zlet (d_X0_markTower w3 0 c_cell 1) fun w6 =>
  ((d_X0_towersInAll w6 0), w6))
  else (zlet (d_X0_markTower w3 0 c_cell 0) fun w5 =>
  ((d_X0_towersInAll w5 0), w5))))
set_option maxRecDepth 100000 in
set_option maxHeartbeats 4000000 in
theorem c_X2_tower (G : zG) (N : Nat) (hN : 47 ≤ N) (hg : zGeo G N) (w : xW) (cell : Int32) : zM yX2_tower cX2_tower 2 (some .int) 4 124 G N [.ref (zad G 0), .int cell] w (some (d_X2_tower w cell).1) (d_X2_tower w cell).2 := by
  obtain ⟨r, u, hT⟩ := zpair (d_X2_tower w cell)
  rw [hT]
  dsimp only
  unfold d_X2_tower at hT
  refine zM_of zy_X2_tower.2.2.2.2.2.2.2 hg ⟨Nat.le_of_ble_eq_true rfl, by decide⟩ rfl (fun k ok hE hI => ?_)
  have old := hE.old
  refine z_iload_n ok dX2_tower_0 1 rfl ?_
  refine z_callSi ok old dX2_tower_1 [] (c_X2_isCell G N hN hg w cell) zy_X2_isCell zw_260 rfl rfl (by decide) (Nat.le_of_ble_eq_true rfl) ?_
  refine z_if_ne ok dX2_tower_4 9 (by decide) (fun c1 => ?_) (fun c1 => ?_)
  · rw [if_neg c1] at hT
    replace hT := zlet_open hT
    obtain ⟨c_cell, hc_cell, hT⟩ := hT
    obtain ⟨lc_cell, ec_cell⟩ := zcellx (zisCell (by assumption)) hc_cell
    subst ec_cell
    refine z_aload_n ok dX2_tower_9 0 rfl ?_
    refine z_get_X2_game ok dX2_tower_10 hN zw_176 ?_
    refine z_getN_X1_board ok dX2_tower_13 0 (by decide) hN zw_89 ?_
    refine z_iload_n ok dX2_tower_16 1 rfl ?_
    refine z_callVNi ok old dX2_tower_17 [] (c_X0_isTower G N hN hg w 0 (by decide) c_cell (by omega)) zy_X0_isTower zw_283 (6 + 6 * 0) (zg_lt' hN (by decide)) (zE_board G w (by decide)) rfl rfl rfl rfl rfl (by decide) (Nat.le_of_ble_eq_true rfl) ?_
    refine z_if_ne ok dX2_tower_20 41 (by decide) (fun c2 => ?_) (fun c2 => ?_)
    · rw [if_neg c2] at hT
      refine z_aload_n ok dX2_tower_41 0 rfl ?_
      refine z_callVv ok old dX2_tower_42 [] (c_X2_record G N hN hg w ) zy_X2_record zw_206 0 (by omega) (zE_0 G w) rfl rfl rfl rfl rfl (by decide) (Nat.le_of_ble_eq_true rfl) ?_
      replace hT := zlet_open hT
      obtain ⟨w3, hw3, hT⟩ := hT
      rw [← hw3]
      refine z_aload_n ok dX2_tower_45 0 rfl ?_
      refine z_get_X2_game ok dX2_tower_46 hN zw_176 ?_
      refine z_getN_X1_board ok dX2_tower_49 0 (by decide) hN zw_89 ?_
      refine z_iload_n ok dX2_tower_52 1 rfl ?_
      refine z_aload_n ok dX2_tower_53 0 rfl ?_
      refine z_get_X2_game ok dX2_tower_54 hN zw_176 ?_
      refine z_getN_X1_board ok dX2_tower_57 0 (by decide) hN zw_89 ?_
      refine z_iload_n ok dX2_tower_60 1 rfl ?_
      refine z_callVNi ok old dX2_tower_61 [.int (nI c_cell), .ref (zad G (6 + 6 * 0))] (c_X0_isTower G N hN hg w3 0 (by decide) c_cell (by omega)) zy_X0_isTower zw_283 (6 + 6 * 0) (zg_lt' hN (by decide)) (zE_board G w3 (by decide)) rfl rfl rfl rfl rfl (by decide) (Nat.le_of_ble_eq_true rfl) ?_
      refine z_if_ne ok dX2_tower_64 71 (by decide) (fun c4 => ?_) (fun c4 => ?_)
      · rw [if_neg c4] at hT
        refine z_iconst ok dX2_tower_71 (x := 0) (by decide) ?_
        refine z_callVNv ok old dX2_tower_72 [] (c_X0_markTower G N hN hg w3 0 (by decide) c_cell (by omega) 0) zy_X0_markTower zw_291 (6 + 6 * 0) (zg_lt' hN (by decide)) (zE_board G w3 (by decide)) rfl rfl rfl rfl rfl (by decide) (Nat.le_of_ble_eq_true rfl) ?_
        replace hT := zlet_open hT
        obtain ⟨w5, hw5, hT⟩ := hT
        rw [← hw5]
        refine z_aload_n ok dX2_tower_75 0 rfl ?_
        refine z_get_X2_game ok dX2_tower_76 hN zw_176 ?_
        refine z_getN_X1_board ok dX2_tower_79 0 (by decide) hN zw_89 ?_
        refine z_callVNi ok old dX2_tower_82 [] (c_X0_towersInAll G N hN hg w5 0 (by decide)) zy_X0_towersInAll zw_287 (6 + 6 * 0) (zg_lt' hN (by decide)) (zE_board G w5 (by decide)) rfl rfl rfl rfl rfl (by decide) (Nat.le_of_ble_eq_true rfl) ?_
        exact z_iret ok hE dX2_tower_85 rfl ⟨congrArg Prod.fst hT, congrArg Prod.snd hT⟩
      · rw [if_pos c4] at hT
        refine z_iconst ok dX2_tower_67 (x := 1) (by decide) ?_
        refine z_goto ok dX2_tower_68 72 (by decide) ?_
        refine z_callVNv ok old dX2_tower_72 [] (c_X0_markTower G N hN hg w3 0 (by decide) c_cell (by omega) 1) zy_X0_markTower zw_291 (6 + 6 * 0) (zg_lt' hN (by decide)) (zE_board G w3 (by decide)) rfl rfl rfl rfl rfl (by decide) (Nat.le_of_ble_eq_true rfl) ?_
        replace hT := zlet_open hT
        obtain ⟨w6, hw6, hT⟩ := hT
        rw [← hw6]
        refine z_aload_n ok dX2_tower_75 0 rfl ?_
        refine z_get_X2_game ok dX2_tower_76 hN zw_176 ?_
        refine z_getN_X1_board ok dX2_tower_79 0 (by decide) hN zw_89 ?_
        refine z_callVNi ok old dX2_tower_82 [] (c_X0_towersInAll G N hN hg w6 0 (by decide)) zy_X0_towersInAll zw_287 (6 + 6 * 0) (zg_lt' hN (by decide)) (zE_board G w6 (by decide)) rfl rfl rfl rfl rfl (by decide) (Nat.le_of_ble_eq_true rfl) ?_
        exact z_iret ok hE dX2_tower_85 rfl ⟨congrArg Prod.fst hT, congrArg Prod.snd hT⟩
    · rw [if_pos c2] at hT
      refine z_aload_n ok dX2_tower_23 0 rfl ?_
      refine z_get_X2_game ok dX2_tower_24 hN zw_176 ?_
      refine z_getN_X1_board ok dX2_tower_27 0 (by decide) hN zw_89 ?_
      refine z_callVNi ok old dX2_tower_30 [] (c_X0_towersInAll G N hN hg w 0 (by decide)) zy_X0_towersInAll zw_287 (6 + 6 * 0) (zg_lt' hN (by decide)) (zE_board G w (by decide)) rfl rfl rfl rfl rfl (by decide) (Nat.le_of_ble_eq_true rfl) ?_
      refine z_bipush ok dX2_tower_33 (x := 6) (by decide) ?_
      refine z_icmp_lt ok dX2_tower_35 41 (by decide) (fun c7 => ?_) (fun c7 => ?_)
      · rw [if_pos c7] at hT
        refine z_aload_n ok dX2_tower_41 0 rfl ?_
        refine z_callVv ok old dX2_tower_42 [] (c_X2_record G N hN hg w ) zy_X2_record zw_206 0 (by omega) (zE_0 G w) rfl rfl rfl rfl rfl (by decide) (Nat.le_of_ble_eq_true rfl) ?_
        replace hT := zlet_open hT
        obtain ⟨w8, hw8, hT⟩ := hT
        rw [← hw8]
        refine z_aload_n ok dX2_tower_45 0 rfl ?_
        refine z_get_X2_game ok dX2_tower_46 hN zw_176 ?_
        refine z_getN_X1_board ok dX2_tower_49 0 (by decide) hN zw_89 ?_
        refine z_iload_n ok dX2_tower_52 1 rfl ?_
        refine z_aload_n ok dX2_tower_53 0 rfl ?_
        refine z_get_X2_game ok dX2_tower_54 hN zw_176 ?_
        refine z_getN_X1_board ok dX2_tower_57 0 (by decide) hN zw_89 ?_
        refine z_iload_n ok dX2_tower_60 1 rfl ?_
        refine z_callVNi ok old dX2_tower_61 [.int (nI c_cell), .ref (zad G (6 + 6 * 0))] (c_X0_isTower G N hN hg w8 0 (by decide) c_cell (by omega)) zy_X0_isTower zw_283 (6 + 6 * 0) (zg_lt' hN (by decide)) (zE_board G w8 (by decide)) rfl rfl rfl rfl rfl (by decide) (Nat.le_of_ble_eq_true rfl) ?_
        refine z_if_ne ok dX2_tower_64 71 (by decide) (fun c9 => ?_) (fun c9 => ?_)
        · rw [if_neg c9] at hT
          refine z_iconst ok dX2_tower_71 (x := 0) (by decide) ?_
          refine z_callVNv ok old dX2_tower_72 [] (c_X0_markTower G N hN hg w8 0 (by decide) c_cell (by omega) 0) zy_X0_markTower zw_291 (6 + 6 * 0) (zg_lt' hN (by decide)) (zE_board G w8 (by decide)) rfl rfl rfl rfl rfl (by decide) (Nat.le_of_ble_eq_true rfl) ?_
          replace hT := zlet_open hT
          obtain ⟨w10, hw10, hT⟩ := hT
          rw [← hw10]
          refine z_aload_n ok dX2_tower_75 0 rfl ?_
          refine z_get_X2_game ok dX2_tower_76 hN zw_176 ?_
          refine z_getN_X1_board ok dX2_tower_79 0 (by decide) hN zw_89 ?_
          refine z_callVNi ok old dX2_tower_82 [] (c_X0_towersInAll G N hN hg w10 0 (by decide)) zy_X0_towersInAll zw_287 (6 + 6 * 0) (zg_lt' hN (by decide)) (zE_board G w10 (by decide)) rfl rfl rfl rfl rfl (by decide) (Nat.le_of_ble_eq_true rfl) ?_
          exact z_iret ok hE dX2_tower_85 rfl ⟨congrArg Prod.fst hT, congrArg Prod.snd hT⟩
        · rw [if_pos c9] at hT
          refine z_iconst ok dX2_tower_67 (x := 1) (by decide) ?_
          refine z_goto ok dX2_tower_68 72 (by decide) ?_
          refine z_callVNv ok old dX2_tower_72 [] (c_X0_markTower G N hN hg w8 0 (by decide) c_cell (by omega) 1) zy_X0_markTower zw_291 (6 + 6 * 0) (zg_lt' hN (by decide)) (zE_board G w8 (by decide)) rfl rfl rfl rfl rfl (by decide) (Nat.le_of_ble_eq_true rfl) ?_
          replace hT := zlet_open hT
          obtain ⟨w11, hw11, hT⟩ := hT
          rw [← hw11]
          refine z_aload_n ok dX2_tower_75 0 rfl ?_
          refine z_get_X2_game ok dX2_tower_76 hN zw_176 ?_
          refine z_getN_X1_board ok dX2_tower_79 0 (by decide) hN zw_89 ?_
          refine z_callVNi ok old dX2_tower_82 [] (c_X0_towersInAll G N hN hg w11 0 (by decide)) zy_X0_towersInAll zw_287 (6 + 6 * 0) (zg_lt' hN (by decide)) (zE_board G w11 (by decide)) rfl rfl rfl rfl rfl (by decide) (Nat.le_of_ble_eq_true rfl) ?_
          exact z_iret ok hE dX2_tower_85 rfl ⟨congrArg Prod.fst hT, congrArg Prod.snd hT⟩
      · rw [if_neg c7] at hT
        refine z_bipush ok dX2_tower_38 (x := (-3)) (by decide) ?_
        exact z_iret ok hE dX2_tower_40 rfl ⟨congrArg Prod.fst hT, congrArg Prod.snd hT⟩
  · rw [if_pos c1] at hT
    refine z_iconst ok dX2_tower_7 (x := (-1)) (by decide) ?_
    exact z_iret ok hE dX2_tower_8 rfl ⟨congrArg Prod.fst hT, congrArg Prod.snd hT⟩

def d_X2_cell (w : xW) (cell : Int32) (what : Int32) : Int32 :=
  if (d_X2_isCell w cell) = 0 then ((-1))
  else (if what < 0 then ((-1))
  else (if what ≤ 4 then (zlet cell.toNatClampNeg fun c_cell =>
  if what = 3 then (if (d_X0_isTower w 0 c_cell) = 0 then (0)
  else (1))
  else (if (d_X0_hasPiece w 0 c_cell) = 0 then ((-4))
  else (if what = 0 then ((d_X0_sideOn w 0 c_cell))
  else (if what = 1 then ((d_X0_kindOn w 0 c_cell))
  else (if what = 2 then ((d_X0_springOn w 0 c_cell))
  else ((d_X0_movesFrom w 0 c_cell)))))))
  else ((-1))))
set_option maxRecDepth 100000 in
set_option maxHeartbeats 4000000 in
theorem c_X2_cell (G : zG) (N : Nat) (hN : 47 ≤ N) (hg : zGeo G N) (w : xW) (cell : Int32) (what : Int32) : zM yX2_cell cX2_cell 4 (some .int) 5 123 G N [.ref (zad G 0), .int cell, .int what] w (some (d_X2_cell w cell what)) w := by
  generalize hT : d_X2_cell w cell what = r
  unfold d_X2_cell at hT
  refine zM_of zy_X2_cell.2.2.2.2.2.2.2 hg ⟨Nat.le_of_ble_eq_true rfl, by decide⟩ rfl (fun k ok hE hI => ?_)
  have old := hE.old
  refine z_iload_n ok dX2_cell_0 1 rfl ?_
  refine z_callSi ok old dX2_cell_1 [] (c_X2_isCell G N hN hg w cell) zy_X2_isCell zw_260 rfl rfl (by decide) (Nat.le_of_ble_eq_true rfl) ?_
  refine z_if_eq ok dX2_cell_4 16 (by decide) (fun c1 => ?_) (fun c1 => ?_)
  · rw [if_pos c1] at hT
    refine z_iconst ok dX2_cell_16 (x := (-1)) (by decide) ?_
    exact z_iret ok hE dX2_cell_17 rfl ⟨hT, rfl⟩
  · rw [if_neg c1] at hT
    refine z_iload_n ok dX2_cell_7 2 rfl ?_
    refine z_if_lt ok dX2_cell_8 16 (by decide) (fun c2 => ?_) (fun c2 => ?_)
    · rw [if_pos c2] at hT
      refine z_iconst ok dX2_cell_16 (x := (-1)) (by decide) ?_
      exact z_iret ok hE dX2_cell_17 rfl ⟨hT, rfl⟩
    · rw [if_neg c2] at hT
      refine z_iload_n ok dX2_cell_11 2 rfl ?_
      refine z_iconst ok dX2_cell_12 (x := 4) (by decide) ?_
      refine z_icmp_le ok dX2_cell_13 18 (by decide) (fun c3 => ?_) (fun c3 => ?_)
      · rw [if_pos c3] at hT
        replace hT := zlet_open hT
        obtain ⟨c_cell, hc_cell, hT⟩ := hT
        obtain ⟨lc_cell, ec_cell⟩ := zcellx (zisCell (by assumption)) hc_cell
        subst ec_cell
        refine z_aload_n ok dX2_cell_18 0 rfl ?_
        refine z_get_X2_game ok dX2_cell_19 hN zw_176 ?_
        refine z_getN_X1_board ok dX2_cell_22 0 (by decide) hN zw_89 ?_
        refine z_astore_n ok dX2_cell_25 (hI 3 (by decide)) (lv' := [(3, .ref (zad G (6 + 6 * 0))), (0, .ref (zad G 0)), (1, .int (nI c_cell)), (2, .int what)]) rfl ?_
        refine z_iload_n ok dX2_cell_26 3 rfl ?_
        refine z_iconst ok dX2_cell_27 (x := 3) (by decide) ?_
        refine z_icmp_ne ok dX2_cell_28 45 (by decide) (fun c4 => ?_) (fun c4 => ?_)
        · rw [if_neg c4] at hT
          refine z_aload_n ok dX2_cell_45 0 rfl ?_
          refine z_iload_n ok dX2_cell_46 2 rfl ?_
          refine z_callVNi ok old dX2_cell_47 [] (c_X0_hasPiece G N hN hg w 0 (by decide) c_cell (by omega)) zy_X0_hasPiece zw_265 (6 + 6 * 0) (zg_lt' hN (by decide)) (zE_board G w (by decide)) rfl rfl rfl rfl rfl (by decide) (Nat.le_of_ble_eq_true rfl) ?_
          refine z_if_ne ok dX2_cell_50 56 (by decide) (fun c5 => ?_) (fun c5 => ?_)
          · rw [if_neg c5] at hT
            refine z_iload_n ok dX2_cell_56 3 rfl ?_
            by_cases c6 : what = 0
            · rw [if_pos c6] at hT
              refine z_tableIn ok dX2_cell_57 84 27 (by rw [c6]; decide) ?_
              refine z_aload_n ok dX2_cell_84 0 rfl ?_
              refine z_iload_n ok dX2_cell_85 2 rfl ?_
              refine z_callVNi ok old dX2_cell_86 [] (c_X0_sideOn G N hN hg w 0 (by decide) c_cell (by omega)) zy_X0_sideOn zw_397 (6 + 6 * 0) (zg_lt' hN (by decide)) (zE_board G w (by decide)) rfl rfl rfl rfl rfl (by decide) (Nat.le_of_ble_eq_true rfl) ?_
              exact z_iret ok hE dX2_cell_89 rfl ⟨hT, rfl⟩
            · rw [if_neg c6] at hT
              by_cases c7 : what = 1
              · rw [if_pos c7] at hT
                refine z_tableIn ok dX2_cell_57 90 33 (by rw [c7]; decide) ?_
                refine z_aload_n ok dX2_cell_90 0 rfl ?_
                refine z_iload_n ok dX2_cell_91 2 rfl ?_
                refine z_callVNi ok old dX2_cell_92 [] (c_X0_kindOn G N hN hg w 0 (by decide) c_cell (by omega)) zy_X0_kindOn zw_419 (6 + 6 * 0) (zg_lt' hN (by decide)) (zE_board G w (by decide)) rfl rfl rfl rfl rfl (by decide) (Nat.le_of_ble_eq_true rfl) ?_
                exact z_iret ok hE dX2_cell_95 rfl ⟨hT, rfl⟩
              · rw [if_neg c7] at hT
                by_cases c8 : what = 2
                · rw [if_pos c8] at hT
                  refine z_tableIn ok dX2_cell_57 96 39 (by rw [c8]; decide) ?_
                  refine z_aload_n ok dX2_cell_96 0 rfl ?_
                  refine z_iload_n ok dX2_cell_97 2 rfl ?_
                  refine z_callVNi ok old dX2_cell_98 [] (c_X0_springOn G N hN hg w 0 (by decide) c_cell (by omega)) zy_X0_springOn zw_420 (6 + 6 * 0) (zg_lt' hN (by decide)) (zE_board G w (by decide)) rfl rfl rfl rfl rfl (by decide) (Nat.le_of_ble_eq_true rfl) ?_
                  exact z_iret ok hE dX2_cell_101 rfl ⟨hT, rfl⟩
                · rw [if_neg c8] at hT
                  refine z_tableOut ok dX2_cell_57 102 (ztab_out3 c6 c7 c8) (by decide) ?_
                  refine z_aload_n ok dX2_cell_102 0 rfl ?_
                  refine z_iload_n ok dX2_cell_103 2 rfl ?_
                  refine z_callVNi ok old dX2_cell_104 [] (c_X0_movesFrom G N hN hg w 0 (by decide) c_cell (by omega)) zy_X0_movesFrom zw_421 (6 + 6 * 0) (zg_lt' hN (by decide)) (zE_board G w (by decide)) rfl rfl rfl rfl rfl (by decide) (Nat.le_of_ble_eq_true rfl) ?_
                  exact z_iret ok hE dX2_cell_107 rfl ⟨hT, rfl⟩
          · rw [if_pos c5] at hT
            refine z_bipush ok dX2_cell_53 (x := (-4)) (by decide) ?_
            exact z_iret ok hE dX2_cell_55 rfl ⟨hT, rfl⟩
        · rw [if_pos c4] at hT
          refine z_aload_n ok dX2_cell_31 0 rfl ?_
          refine z_iload_n ok dX2_cell_32 2 rfl ?_
          refine z_callVNi ok old dX2_cell_33 [] (c_X0_isTower G N hN hg w 0 (by decide) c_cell (by omega)) zy_X0_isTower zw_283 (6 + 6 * 0) (zg_lt' hN (by decide)) (zE_board G w (by decide)) rfl rfl rfl rfl rfl (by decide) (Nat.le_of_ble_eq_true rfl) ?_
          refine z_if_eq ok dX2_cell_36 43 (by decide) (fun c9 => ?_) (fun c9 => ?_)
          · rw [if_pos c9] at hT
            refine z_iconst ok dX2_cell_43 (x := 0) (by decide) ?_
            exact z_iret ok hE dX2_cell_44 rfl ⟨hT, rfl⟩
          · rw [if_neg c9] at hT
            refine z_iconst ok dX2_cell_39 (x := 1) (by decide) ?_
            refine z_goto ok dX2_cell_40 44 (by decide) ?_
            exact z_iret ok hE dX2_cell_44 rfl ⟨hT, rfl⟩
      · rw [if_neg c3] at hT
        refine z_iconst ok dX2_cell_16 (x := (-1)) (by decide) ?_
        exact z_iret ok hE dX2_cell_17 rfl ⟨hT, rfl⟩

def d_X2_count (w : xW) (what : Int32) : Int32 :=
  if what = 0 then ((xg w 0 144))
  else (if what = 1 then ((xg w 0 145))
  else (if what = 2 then (if (xg w 0 146) = (-1) then ((-4))
  else ((xg w 0 146)))
  else (if what = 3 then ((xg w 0 147))
  else (if what = 4 then ((d_X0_piecesInAll w 0))
  else (if what = 5 then ((d_X0_towersInAll w 0))
  else (if what = 6 then ((d_X0_springsOf w 0 0))
  else (if what = 7 then ((d_X0_springsOf w 0 1))
  else (if what = 8 then ((xg w 10 0))
  else (if what = 9 then ((xg w 10 1))
  else (if what = 10 then ((d_X1_setting w 0 (what - 10)))
  else (if what = 11 then ((d_X1_setting w 0 (what - 10)))
  else (if what = 12 then ((d_X1_setting w 0 (what - 10)))
  else (if (d_X2_isAccount w (what - 20)) = 0 then ((-1))
  else ((d_X1_account w 0 (what - 20))))))))))))))))
set_option maxRecDepth 100000 in
set_option maxHeartbeats 4000000 in
theorem c_X2_count (G : zG) (N : Nat) (hN : 47 ≤ N) (hg : zGeo G N) (w : xW) (what : Int32) : zM yX2_count cX2_count 2 (some .int) 3 64 G N [.ref (zad G 0), .int what] w (some (d_X2_count w what)) w := by
  generalize hT : d_X2_count w what = r
  unfold d_X2_count at hT
  refine zM_of zy_X2_count.2.2.2.2.2.2.2 hg ⟨Nat.le_of_ble_eq_true rfl, by decide⟩ rfl (fun k ok hE hI => ?_)
  have old := hE.old
  refine z_iload_n ok dX2_count_0 1 rfl ?_
  by_cases c1 : what = 0
  · rw [if_pos c1] at hT
    refine z_tableIn ok dX2_count_1 68 67 (by rw [c1]; decide) ?_
    refine z_aload_n ok dX2_count_68 0 rfl ?_
    refine z_get_X2_game ok dX2_count_69 hN zw_176 ?_
    refine z_getN_X1_mover ok dX2_count_72 0 (by decide) hN zw_95 ?_
    exact z_iret ok hE dX2_count_75 rfl ⟨hT, rfl⟩
  · rw [if_neg c1] at hT
    by_cases c2 : what = 1
    · rw [if_pos c2] at hT
      refine z_tableIn ok dX2_count_1 76 75 (by rw [c2]; decide) ?_
      refine z_aload_n ok dX2_count_76 0 rfl ?_
      refine z_get_X2_game ok dX2_count_77 hN zw_176 ?_
      refine z_getN_X1_ending ok dX2_count_80 0 (by decide) hN zw_97 ?_
      exact z_iret ok hE dX2_count_83 rfl ⟨hT, rfl⟩
    · rw [if_neg c2] at hT
      by_cases c3 : what = 2
      · rw [if_pos c3] at hT
        refine z_tableIn ok dX2_count_1 84 83 (by rw [c3]; decide) ?_
        refine z_aload_n ok dX2_count_84 0 rfl ?_
        refine z_get_X2_game ok dX2_count_85 hN zw_176 ?_
        refine z_getN_X1_winner ok dX2_count_88 0 (by decide) hN zw_99 ?_
        refine z_iconst ok dX2_count_91 (x := (-1)) (by decide) ?_
        refine z_icmp_ne ok dX2_count_92 100 (by decide) (fun c4 => ?_) (fun c4 => ?_)
        · rw [if_neg c4] at hT
          refine z_aload_n ok dX2_count_100 0 rfl ?_
          refine z_get_X2_game ok dX2_count_101 hN zw_176 ?_
          refine z_getN_X1_winner ok dX2_count_104 0 (by decide) hN zw_99 ?_
          exact z_iret ok hE dX2_count_107 rfl ⟨hT, rfl⟩
        · rw [if_pos c4] at hT
          refine z_bipush ok dX2_count_95 (x := (-4)) (by decide) ?_
          refine z_goto ok dX2_count_97 107 (by decide) ?_
          exact z_iret ok hE dX2_count_107 rfl ⟨hT, rfl⟩
      · rw [if_neg c3] at hT
        by_cases c5 : what = 3
        · rw [if_pos c5] at hT
          refine z_tableIn ok dX2_count_1 108 107 (by rw [c5]; decide) ?_
          refine z_aload_n ok dX2_count_108 0 rfl ?_
          refine z_get_X2_game ok dX2_count_109 hN zw_176 ?_
          refine z_getN_X1_turnsMade ok dX2_count_112 0 (by decide) hN zw_101 ?_
          exact z_iret ok hE dX2_count_115 rfl ⟨hT, rfl⟩
        · rw [if_neg c5] at hT
          by_cases c6 : what = 4
          · rw [if_pos c6] at hT
            refine z_tableIn ok dX2_count_1 116 115 (by rw [c6]; decide) ?_
            refine z_aload_n ok dX2_count_116 0 rfl ?_
            refine z_get_X2_game ok dX2_count_117 hN zw_176 ?_
            refine z_getN_X1_board ok dX2_count_120 0 (by decide) hN zw_89 ?_
            refine z_callVNi ok old dX2_count_123 [] (c_X0_piecesInAll G N hN hg w 0 (by decide)) zy_X0_piecesInAll zw_296 (6 + 6 * 0) (zg_lt' hN (by decide)) (zE_board G w (by decide)) rfl rfl rfl rfl rfl (by decide) (Nat.le_of_ble_eq_true rfl) ?_
            exact z_iret ok hE dX2_count_126 rfl ⟨hT, rfl⟩
          · rw [if_neg c6] at hT
            by_cases c7 : what = 5
            · rw [if_pos c7] at hT
              refine z_tableIn ok dX2_count_1 127 126 (by rw [c7]; decide) ?_
              refine z_aload_n ok dX2_count_127 0 rfl ?_
              refine z_get_X2_game ok dX2_count_128 hN zw_176 ?_
              refine z_getN_X1_board ok dX2_count_131 0 (by decide) hN zw_89 ?_
              refine z_callVNi ok old dX2_count_134 [] (c_X0_towersInAll G N hN hg w 0 (by decide)) zy_X0_towersInAll zw_287 (6 + 6 * 0) (zg_lt' hN (by decide)) (zE_board G w (by decide)) rfl rfl rfl rfl rfl (by decide) (Nat.le_of_ble_eq_true rfl) ?_
              exact z_iret ok hE dX2_count_137 rfl ⟨hT, rfl⟩
            · rw [if_neg c7] at hT
              by_cases c8 : what = 6
              · rw [if_pos c8] at hT
                refine z_tableIn ok dX2_count_1 138 137 (by rw [c8]; decide) ?_
                refine z_aload_n ok dX2_count_138 0 rfl ?_
                refine z_get_X2_game ok dX2_count_139 hN zw_176 ?_
                refine z_getN_X1_board ok dX2_count_142 0 (by decide) hN zw_89 ?_
                refine z_iconst ok dX2_count_145 (x := 0) (by decide) ?_
                refine z_callVNi ok old dX2_count_146 [] (c_X0_springsOf G N hN hg w 0 (by decide) 0) zy_X0_springsOf zw_300 (6 + 6 * 0) (zg_lt' hN (by decide)) (zE_board G w (by decide)) rfl rfl rfl rfl rfl (by decide) (Nat.le_of_ble_eq_true rfl) ?_
                exact z_iret ok hE dX2_count_149 rfl ⟨hT, rfl⟩
              · rw [if_neg c8] at hT
                by_cases c9 : what = 7
                · rw [if_pos c9] at hT
                  refine z_tableIn ok dX2_count_1 150 149 (by rw [c9]; decide) ?_
                  refine z_aload_n ok dX2_count_150 0 rfl ?_
                  refine z_get_X2_game ok dX2_count_151 hN zw_176 ?_
                  refine z_getN_X1_board ok dX2_count_154 0 (by decide) hN zw_89 ?_
                  refine z_iconst ok dX2_count_157 (x := 1) (by decide) ?_
                  refine z_callVNi ok old dX2_count_158 [] (c_X0_springsOf G N hN hg w 0 (by decide) 1) zy_X0_springsOf zw_300 (6 + 6 * 0) (zg_lt' hN (by decide)) (zE_board G w (by decide)) rfl rfl rfl rfl rfl (by decide) (Nat.le_of_ble_eq_true rfl) ?_
                  exact z_iret ok hE dX2_count_161 rfl ⟨hT, rfl⟩
                · rw [if_neg c9] at hT
                  by_cases c10 : what = 8
                  · rw [if_pos c10] at hT
                    refine z_tableIn ok dX2_count_1 162 161 (by rw [c10]; decide) ?_
                    refine z_aload_n ok dX2_count_162 0 rfl ?_
                    refine z_get_X2_stateCount ok dX2_count_163 hN zw_179 ?_
                    exact z_iret ok hE dX2_count_166 rfl ⟨hT, rfl⟩
                  · rw [if_neg c10] at hT
                    by_cases c11 : what = 9
                    · rw [if_pos c11] at hT
                      refine z_tableIn ok dX2_count_1 167 166 (by rw [c11]; decide) ?_
                      refine z_aload_n ok dX2_count_167 0 rfl ?_
                      refine z_get_X2_textLength ok dX2_count_168 hN zw_181 ?_
                      exact z_iret ok hE dX2_count_171 rfl ⟨hT, rfl⟩
                    · rw [if_neg c11] at hT
                      by_cases c12 : what = 10
                      · rw [if_pos c12] at hT
                        refine z_tableIn ok dX2_count_1 172 171 (by rw [c12]; decide) ?_
                        refine z_aload_n ok dX2_count_172 0 rfl ?_
                        refine z_get_X2_game ok dX2_count_173 hN zw_176 ?_
                        refine z_iload_n ok dX2_count_176 1 rfl ?_
                        refine z_bipush ok dX2_count_177 (x := 10) (by decide) ?_
                        refine z_isub ok dX2_count_179 ?_
                        refine z_callVNi ok old dX2_count_180 [] (c_X1_setting G N hN hg w 0 (by decide) (what - 10)) zy_X1_setting zw_233 (5 + 6 * 0) (zg_lt hN (by decide)) (zE_game G w (by decide)) rfl rfl rfl rfl rfl (by decide) (Nat.le_of_ble_eq_true rfl) ?_
                        exact z_iret ok hE dX2_count_183 rfl ⟨hT, rfl⟩
                      · rw [if_neg c12] at hT
                        by_cases c13 : what = 11
                        · rw [if_pos c13] at hT
                          refine z_tableIn ok dX2_count_1 172 171 (by rw [c13]; decide) ?_
                          refine z_aload_n ok dX2_count_172 0 rfl ?_
                          refine z_get_X2_game ok dX2_count_173 hN zw_176 ?_
                          refine z_iload_n ok dX2_count_176 1 rfl ?_
                          refine z_bipush ok dX2_count_177 (x := 10) (by decide) ?_
                          refine z_isub ok dX2_count_179 ?_
                          refine z_callVNi ok old dX2_count_180 [] (c_X1_setting G N hN hg w 0 (by decide) (what - 10)) zy_X1_setting zw_233 (5 + 6 * 0) (zg_lt hN (by decide)) (zE_game G w (by decide)) rfl rfl rfl rfl rfl (by decide) (Nat.le_of_ble_eq_true rfl) ?_
                          exact z_iret ok hE dX2_count_183 rfl ⟨hT, rfl⟩
                        · rw [if_neg c13] at hT
                          by_cases c14 : what = 12
                          · rw [if_pos c14] at hT
                            refine z_tableIn ok dX2_count_1 172 171 (by rw [c14]; decide) ?_
                            refine z_aload_n ok dX2_count_172 0 rfl ?_
                            refine z_get_X2_game ok dX2_count_173 hN zw_176 ?_
                            refine z_iload_n ok dX2_count_176 1 rfl ?_
                            refine z_bipush ok dX2_count_177 (x := 10) (by decide) ?_
                            refine z_isub ok dX2_count_179 ?_
                            refine z_callVNi ok old dX2_count_180 [] (c_X1_setting G N hN hg w 0 (by decide) (what - 10)) zy_X1_setting zw_233 (5 + 6 * 0) (zg_lt hN (by decide)) (zE_game G w (by decide)) rfl rfl rfl rfl rfl (by decide) (Nat.le_of_ble_eq_true rfl) ?_
                            exact z_iret ok hE dX2_count_183 rfl ⟨hT, rfl⟩
                          · rw [if_neg c14] at hT
                            refine z_tableOut ok dX2_count_1 184 (ztab_out13 c1 c2 c3 c5 c6 c7 c8 c9 c10 c11 c12 c13 c14) (by decide) ?_
                            refine z_iload_n ok dX2_count_184 1 rfl ?_
                            refine z_bipush ok dX2_count_185 (x := 20) (by decide) ?_
                            refine z_isub ok dX2_count_187 ?_
                            refine z_callSi ok old dX2_count_188 [] (c_X2_isAccount G N hN hg w (what - 20)) zy_X2_isAccount zw_301 rfl rfl (by decide) (Nat.le_of_ble_eq_true rfl) ?_
                            refine z_if_eq ok dX2_count_191 208 (by decide) (fun c15 => ?_) (fun c15 => ?_)
                            · rw [if_pos c15] at hT
                              refine z_iconst ok dX2_count_208 (x := (-1)) (by decide) ?_
                              exact z_iret ok hE dX2_count_209 rfl ⟨hT, rfl⟩
                            · rw [if_neg c15] at hT
                              refine z_aload_n ok dX2_count_194 0 rfl ?_
                              refine z_get_X2_game ok dX2_count_195 hN zw_176 ?_
                              refine z_iload_n ok dX2_count_198 1 rfl ?_
                              refine z_bipush ok dX2_count_199 (x := 20) (by decide) ?_
                              refine z_isub ok dX2_count_201 ?_
                              refine z_callVNi ok old dX2_count_202 [] (c_X1_account G N hN hg w 0 (by decide) (what - 20)) zy_X1_account zw_304 (5 + 6 * 0) (zg_lt hN (by decide)) (zE_game G w (by decide)) rfl rfl rfl rfl rfl (by decide) (Nat.le_of_ble_eq_true rfl) ?_
                              refine z_goto ok dX2_count_205 209 (by decide) ?_
                              exact z_iret ok hE dX2_count_209 rfl ⟨hT, rfl⟩

def d_X2_undo (w : xW)  : Int32 × xW :=
  if ((xg w 10 0) - 1) < 0 then (((-2), w))
  else (if 5 ≤ ((xg w 10 0) - 1) then (((-2), w))
  else (zlet (xs w 10 0 ((xg w 10 0) - 1)) fun w3 =>
  zlet (d_X1_copyFrom w3 0 (zpg w ((xg w 10 0) - 1).toNatClampNeg)) fun w4 =>
  ((xg w4 10 0), w4)))
set_option maxRecDepth 100000 in
set_option maxHeartbeats 4000000 in
theorem c_X2_undo (G : zG) (N : Nat) (hN : 47 ≤ N) (hg : zGeo G N) (w : xW) : zM yX2_undo cX2_undo 2 (some .int) 3 102 G N [.ref (zad G 0)] w (some (d_X2_undo w).1) (d_X2_undo w).2 := by
  obtain ⟨r, u, hT⟩ := zpair (d_X2_undo w)
  rw [hT]
  dsimp only
  unfold d_X2_undo at hT
  refine zM_of zy_X2_undo.2.2.2.2.2.2.2 hg ⟨Nat.le_of_ble_eq_true rfl, by decide⟩ rfl (fun k ok hE hI => ?_)
  have old := hE.old
  refine z_aload_n ok dX2_undo_0 0 rfl ?_
  refine z_aload_n ok dX2_undo_1 0 rfl ?_
  refine z_get_X2_stateCount ok dX2_undo_2 hN zw_179 ?_
  refine z_iconst ok dX2_undo_5 (x := 1) (by decide) ?_
  refine z_isub ok dX2_undo_6 ?_
  by_cases c1 : ((xg w 10 0) - 1) < 0
  · rw [if_pos c1] at hT
    refine z_callVV ok old dX2_undo_7 [] (c_X2_stateAt_n G N hN hg w ((xg w 10 0) - 1) (Or.inl c1)) zy_X2_stateAt zw_210 0 (by omega) (zE_0 G w) rfl rfl rfl rfl rfl (by decide) (Nat.le_of_ble_eq_true rfl) ?_
    refine z_astore_nN ok dX2_undo_10 (hI 1 (by decide)) (lv' := [(1, .null), (0, .ref (zad G 0))]) rfl ?_
    refine z_aload_nN ok dX2_undo_11 0 rfl ?_
    refine z_ifnonnullN ok dX2_undo_12 ?_
    refine z_bipush ok dX2_undo_15 (x := (-2)) (by decide) ?_
    exact z_iret ok hE dX2_undo_17 rfl ⟨congrArg Prod.fst hT, congrArg Prod.snd hT⟩
  · rw [if_neg c1] at hT
    by_cases c2 : 5 ≤ ((xg w 10 0) - 1)
    · rw [if_pos c2] at hT
      refine z_callVV ok old dX2_undo_7 [] (c_X2_stateAt_n G N hN hg w ((xg w 10 0) - 1) (Or.inr c2)) zy_X2_stateAt zw_210 0 (by omega) (zE_0 G w) rfl rfl rfl rfl rfl (by decide) (Nat.le_of_ble_eq_true rfl) ?_
      refine z_astore_nN ok dX2_undo_10 (hI 1 (by decide)) (lv' := [(1, .null), (0, .ref (zad G 0))]) rfl ?_
      refine z_aload_nN ok dX2_undo_11 0 rfl ?_
      refine z_ifnonnullN ok dX2_undo_12 ?_
      refine z_bipush ok dX2_undo_15 (x := (-2)) (by decide) ?_
      exact z_iret ok hE dX2_undo_17 rfl ⟨congrArg Prod.fst hT, congrArg Prod.snd hT⟩
    · rw [if_neg c2] at hT
      refine z_callVV ok old dX2_undo_7 [] (c_X2_stateAt_r G N hN hg w ((xg w 10 0) - 1) c1 c2) zy_X2_stateAt zw_210 0 (by omega) (zE_0 G w) rfl rfl rfl rfl rfl (by decide) (Nat.le_of_ble_eq_true rfl) ?_
      refine z_astore_n ok dX2_undo_10 (hI 1 (by decide)) (lv' := [(1, .ref (zad G (5 + 6 * (zpg w ((xg w 10 0) - 1).toNatClampNeg)))), (0, .ref (zad G 0))]) rfl ?_
      refine z_aload_n ok dX2_undo_11 0 rfl ?_
      refine z_ifnonnull ok dX2_undo_12 18 (by decide) ?_
      refine z_aload_n ok dX2_undo_18 1 rfl ?_
      refine z_dup ok dX2_undo_19 rfl ?_
      refine z_get_X2_stateCount ok dX2_undo_20 hN zw_179 ?_
      refine z_iconst ok dX2_undo_23 (x := 1) (by decide) ?_
      refine z_isub ok dX2_undo_24 ?_
      refine z_put_X2_stateCount ok dX2_undo_25 hN zw_179 ?_
      replace hT := zlet_open hT
      obtain ⟨w3, hw3, hT⟩ := hT
      rw [← hw3]
      refine z_aload_n ok dX2_undo_28 1 rfl ?_
      refine z_get_X2_game ok dX2_undo_29 hN zw_176 ?_
      refine z_aload_n ok dX2_undo_32 0 rfl ?_
      refine z_callVNv ok old dX2_undo_33 [] (c_X1_copyFrom G N hN hg w3 0 (by decide) (zpg w ((xg w 10 0) - 1).toNatClampNeg) (zpg_lt _ _)) zy_X1_copyFrom zw_214 (5 + 6 * 0) (zg_lt hN (by decide)) (zE_game G w3 (by decide)) rfl rfl rfl rfl rfl (by decide) (Nat.le_of_ble_eq_true rfl) ?_
      replace hT := zlet_open hT
      obtain ⟨w4, hw4, hT⟩ := hT
      rw [← hw4]
      refine z_aload_n ok dX2_undo_36 1 rfl ?_
      refine z_get_X2_stateCount ok dX2_undo_37 hN zw_179 ?_
      exact z_iret ok hE dX2_undo_40 rfl ⟨congrArg Prod.fst hT, congrArg Prod.snd hT⟩
end
section
def d_X2_move (w : xW) (frm : Int32) (dst : Int32) : Int32 × xW :=
  if (d_X2_isCell w frm) = 0 then (((-1), w))
  else (if (d_X2_isCell w dst) = 0 then (((-1), w))
  else (zlet frm.toNatClampNeg fun c_frm =>
  zlet dst.toNatClampNeg fun c_dst =>
  if (d_X1_reasonAgainst w 0 c_frm c_dst) = 0 then (zlet (d_X2_record w) fun w4 =>
  zlet (d_X1_makeMove w4 0 c_frm c_dst) fun p5 =>
  (p5.1, p5.2))
  else (((-2), w))))
set_option maxRecDepth 100000 in
set_option maxHeartbeats 4000000 in
theorem c_X2_move (G : zG) (N : Nat) (hN : 47 ≤ N) (hg : zGeo G N) (w : xW) (frm : Int32) (dst : Int32) : zM yX2_move cX2_move 3 (some .int) 5 127 G N [.ref (zad G 0), .int frm, .int dst] w (some (d_X2_move w frm dst).1) (d_X2_move w frm dst).2 := by
  obtain ⟨r, u, hT⟩ := zpair (d_X2_move w frm dst)
  rw [hT]
  dsimp only
  unfold d_X2_move at hT
  refine zM_of zy_X2_move.2.2.2.2.2.2.2 hg ⟨Nat.le_of_ble_eq_true rfl, by decide⟩ rfl (fun k ok hE hI => ?_)
  have old := hE.old
  refine z_iload_n ok dX2_move_0 1 rfl ?_
  refine z_callSi ok old dX2_move_1 [] (c_X2_isCell G N hN hg w frm) zy_X2_isCell zw_260 rfl rfl (by decide) (Nat.le_of_ble_eq_true rfl) ?_
  refine z_if_eq ok dX2_move_4 14 (by decide) (fun c1 => ?_) (fun c1 => ?_)
  · rw [if_pos c1] at hT
    refine z_iconst ok dX2_move_14 (x := (-1)) (by decide) ?_
    exact z_iret ok hE dX2_move_15 rfl ⟨congrArg Prod.fst hT, congrArg Prod.snd hT⟩
  · rw [if_neg c1] at hT
    refine z_iload_n ok dX2_move_7 2 rfl ?_
    refine z_callSi ok old dX2_move_8 [] (c_X2_isCell G N hN hg w dst) zy_X2_isCell zw_260 rfl rfl (by decide) (Nat.le_of_ble_eq_true rfl) ?_
    refine z_if_ne ok dX2_move_11 16 (by decide) (fun c2 => ?_) (fun c2 => ?_)
    · rw [if_neg c2] at hT
      replace hT := zlet_open hT
      obtain ⟨c_frm, hc_frm, hT⟩ := hT
      obtain ⟨lc_frm, ec_frm⟩ := zcellx (zisCell (by assumption)) hc_frm
      subst ec_frm
      replace hT := zlet_open hT
      obtain ⟨c_dst, hc_dst, hT⟩ := hT
      obtain ⟨lc_dst, ec_dst⟩ := zcellx (zisCell (by assumption)) hc_dst
      subst ec_dst
      refine z_aload_n ok dX2_move_16 0 rfl ?_
      refine z_get_X2_game ok dX2_move_17 hN zw_176 ?_
      refine z_iload_n ok dX2_move_20 1 rfl ?_
      refine z_iload_n ok dX2_move_21 2 rfl ?_
      refine z_callVNi ok old dX2_move_22 [] (c_X1_reasonAgainst G N hN hg w 0 (by decide) c_frm (by omega) c_dst (by omega)) zy_X1_reasonAgainst zw_316 (5 + 6 * 0) (zg_lt hN (by decide)) (zE_game G w (by decide)) rfl rfl rfl rfl rfl (by decide) (Nat.le_of_ble_eq_true rfl) ?_
      refine z_if_eq ok dX2_move_25 31 (by decide) (fun c3 => ?_) (fun c3 => ?_)
      · rw [if_pos c3] at hT
        refine z_aload_n ok dX2_move_31 0 rfl ?_
        refine z_callVv ok old dX2_move_32 [] (c_X2_record G N hN hg w ) zy_X2_record zw_206 0 (by omega) (zE_0 G w) rfl rfl rfl rfl rfl (by decide) (Nat.le_of_ble_eq_true rfl) ?_
        replace hT := zlet_open hT
        obtain ⟨w4, hw4, hT⟩ := hT
        rw [← hw4]
        refine z_aload_n ok dX2_move_35 0 rfl ?_
        refine z_get_X2_game ok dX2_move_36 hN zw_176 ?_
        refine z_iload_n ok dX2_move_39 1 rfl ?_
        refine z_iload_n ok dX2_move_40 2 rfl ?_
        refine z_callVNi ok old dX2_move_41 [] (c_X1_makeMove G N hN hg w4 0 (by decide) c_frm (by omega) c_dst (by omega)) zy_X1_makeMove zw_344 (5 + 6 * 0) (zg_lt hN (by decide)) (zE_game G w4 (by decide)) rfl rfl rfl rfl rfl (by decide) (Nat.le_of_ble_eq_true rfl) ?_
        replace hT := zlet_open hT
        obtain ⟨p5, hp5, hT⟩ := hT
        rw [← hp5]
        exact z_iret ok hE dX2_move_44 rfl ⟨congrArg Prod.fst hT, congrArg Prod.snd hT⟩
      · rw [if_neg c3] at hT
        refine z_bipush ok dX2_move_28 (x := (-2)) (by decide) ?_
        exact z_iret ok hE dX2_move_30 rfl ⟨congrArg Prod.fst hT, congrArg Prod.snd hT⟩
    · rw [if_pos c2] at hT
      refine z_iconst ok dX2_move_14 (x := (-1)) (by decide) ?_
      exact z_iret ok hE dX2_move_15 rfl ⟨congrArg Prod.fst hT, congrArg Prod.snd hT⟩

def d_X2_pass (w : xW)  : Int32 × xW :=
  if (d_X1_reasonAgainstPass w 0) = 0 then (zlet (d_X2_record w) fun w2 =>
  zlet (d_X1_makePass w2 0) fun w3 =>
  if (d_X1_isOver w3 0) = 0 then ((0, w3))
  else ((1, w3)))
  else (((-2), w))
set_option maxRecDepth 100000 in
set_option maxHeartbeats 4000000 in
theorem c_X2_pass (G : zG) (N : Nat) (hN : 47 ≤ N) (hg : zGeo G N) (w : xW) : zM yX2_pass cX2_pass 1 (some .int) 6 144 G N [.ref (zad G 0)] w (some (d_X2_pass w).1) (d_X2_pass w).2 := by
  obtain ⟨r, u, hT⟩ := zpair (d_X2_pass w)
  rw [hT]
  dsimp only
  unfold d_X2_pass at hT
  refine zM_of zy_X2_pass.2.2.2.2.2.2.2 hg ⟨Nat.le_of_ble_eq_true rfl, by decide⟩ rfl (fun k ok hE hI => ?_)
  have old := hE.old
  refine z_aload_n ok dX2_pass_0 0 rfl ?_
  refine z_get_X2_game ok dX2_pass_1 hN zw_176 ?_
  refine z_callVNi ok old dX2_pass_4 [] (c_X1_reasonAgainstPass G N hN hg w 0 (by decide)) zy_X1_reasonAgainstPass zw_369 (5 + 6 * 0) (zg_lt hN (by decide)) (zE_game G w (by decide)) rfl rfl rfl rfl rfl (by decide) (Nat.le_of_ble_eq_true rfl) ?_
  refine z_if_eq ok dX2_pass_7 13 (by decide) (fun c1 => ?_) (fun c1 => ?_)
  · rw [if_pos c1] at hT
    refine z_aload_n ok dX2_pass_13 0 rfl ?_
    refine z_callVv ok old dX2_pass_14 [] (c_X2_record G N hN hg w ) zy_X2_record zw_206 0 (by omega) (zE_0 G w) rfl rfl rfl rfl rfl (by decide) (Nat.le_of_ble_eq_true rfl) ?_
    replace hT := zlet_open hT
    obtain ⟨w2, hw2, hT⟩ := hT
    rw [← hw2]
    refine z_aload_n ok dX2_pass_17 0 rfl ?_
    refine z_get_X2_game ok dX2_pass_18 hN zw_176 ?_
    refine z_callVNv ok old dX2_pass_21 [] (c_X1_makePass G N hN hg w2 0 (by decide)) zy_X1_makePass zw_383 (5 + 6 * 0) (zg_lt hN (by decide)) (zE_game G w2 (by decide)) rfl rfl rfl rfl rfl (by decide) (Nat.le_of_ble_eq_true rfl) ?_
    replace hT := zlet_open hT
    obtain ⟨w3, hw3, hT⟩ := hT
    rw [← hw3]
    refine z_aload_n ok dX2_pass_24 0 rfl ?_
    refine z_get_X2_game ok dX2_pass_25 hN zw_176 ?_
    refine z_callVNi ok old dX2_pass_28 [] (c_X1_isOver G N hN hg w3 0 (by decide)) zy_X1_isOver zw_261 (5 + 6 * 0) (zg_lt hN (by decide)) (zE_game G w3 (by decide)) rfl rfl rfl rfl rfl (by decide) (Nat.le_of_ble_eq_true rfl) ?_
    refine z_if_eq ok dX2_pass_31 38 (by decide) (fun c4 => ?_) (fun c4 => ?_)
    · rw [if_pos c4] at hT
      refine z_iconst ok dX2_pass_38 (x := 0) (by decide) ?_
      exact z_iret ok hE dX2_pass_39 rfl ⟨congrArg Prod.fst hT, congrArg Prod.snd hT⟩
    · rw [if_neg c4] at hT
      refine z_iconst ok dX2_pass_34 (x := 1) (by decide) ?_
      refine z_goto ok dX2_pass_35 39 (by decide) ?_
      exact z_iret ok hE dX2_pass_39 rfl ⟨congrArg Prod.fst hT, congrArg Prod.snd hT⟩
  · rw [if_neg c1] at hT
    refine z_bipush ok dX2_pass_10 (x := (-2)) (by decide) ?_
    exact z_iret ok hE dX2_pass_12 rfl ⟨congrArg Prod.fst hT, congrArg Prod.snd hT⟩

def d_X2_refusal (w : xW) (frm : Int32) (dst : Int32) : Int32 :=
  if (d_X2_isCell w frm) = 0 then ((-1))
  else (if (d_X2_isCell w dst) = 0 then ((-1))
  else (zlet frm.toNatClampNeg fun c_frm =>
  zlet dst.toNatClampNeg fun c_dst =>
  (d_X1_reasonAgainst w 0 c_frm c_dst)))
set_option maxRecDepth 100000 in
set_option maxHeartbeats 4000000 in
theorem c_X2_refusal (G : zG) (N : Nat) (hN : 47 ≤ N) (hg : zGeo G N) (w : xW) (frm : Int32) (dst : Int32) : zM yX2_refusal cX2_refusal 3 (some .int) 4 100 G N [.ref (zad G 0), .int frm, .int dst] w (some (d_X2_refusal w frm dst)) w := by
  generalize hT : d_X2_refusal w frm dst = r
  unfold d_X2_refusal at hT
  refine zM_of zy_X2_refusal.2.2.2.2.2.2.2 hg ⟨Nat.le_of_ble_eq_true rfl, by decide⟩ rfl (fun k ok hE hI => ?_)
  have old := hE.old
  refine z_iload_n ok dX2_refusal_0 1 rfl ?_
  refine z_callSi ok old dX2_refusal_1 [] (c_X2_isCell G N hN hg w frm) zy_X2_isCell zw_260 rfl rfl (by decide) (Nat.le_of_ble_eq_true rfl) ?_
  refine z_if_eq ok dX2_refusal_4 14 (by decide) (fun c1 => ?_) (fun c1 => ?_)
  · rw [if_pos c1] at hT
    refine z_iconst ok dX2_refusal_14 (x := (-1)) (by decide) ?_
    exact z_iret ok hE dX2_refusal_15 rfl ⟨hT, rfl⟩
  · rw [if_neg c1] at hT
    refine z_iload_n ok dX2_refusal_7 2 rfl ?_
    refine z_callSi ok old dX2_refusal_8 [] (c_X2_isCell G N hN hg w dst) zy_X2_isCell zw_260 rfl rfl (by decide) (Nat.le_of_ble_eq_true rfl) ?_
    refine z_if_ne ok dX2_refusal_11 16 (by decide) (fun c2 => ?_) (fun c2 => ?_)
    · rw [if_neg c2] at hT
      replace hT := zlet_open hT
      obtain ⟨c_frm, hc_frm, hT⟩ := hT
      obtain ⟨lc_frm, ec_frm⟩ := zcellx (zisCell (by assumption)) hc_frm
      subst ec_frm
      replace hT := zlet_open hT
      obtain ⟨c_dst, hc_dst, hT⟩ := hT
      obtain ⟨lc_dst, ec_dst⟩ := zcellx (zisCell (by assumption)) hc_dst
      subst ec_dst
      refine z_aload_n ok dX2_refusal_16 0 rfl ?_
      refine z_get_X2_game ok dX2_refusal_17 hN zw_176 ?_
      refine z_iload_n ok dX2_refusal_20 1 rfl ?_
      refine z_iload_n ok dX2_refusal_21 2 rfl ?_
      refine z_callVNi ok old dX2_refusal_22 [] (c_X1_reasonAgainst G N hN hg w 0 (by decide) c_frm (by omega) c_dst (by omega)) zy_X1_reasonAgainst zw_316 (5 + 6 * 0) (zg_lt hN (by decide)) (zE_game G w (by decide)) rfl rfl rfl rfl rfl (by decide) (Nat.le_of_ble_eq_true rfl) ?_
      exact z_iret ok hE dX2_refusal_25 rfl ⟨hT, rfl⟩
    · rw [if_pos c2] at hT
      refine z_iconst ok dX2_refusal_14 (x := (-1)) (by decide) ?_
      exact z_iret ok hE dX2_refusal_15 rfl ⟨hT, rfl⟩

def d_X2_cost (w : xW) (frm : Int32) (dst : Int32) : Int32 :=
  if (d_X2_isCell w frm) = 0 then ((-1))
  else (if (d_X2_isCell w dst) = 0 then ((-1))
  else (zlet frm.toNatClampNeg fun c_frm =>
  zlet dst.toNatClampNeg fun c_dst =>
  zlet ((d_X0_price w 0 c_frm c_dst)) fun x3 =>
  if x3 = 0 then ((-4))
  else (x3)))
set_option maxRecDepth 100000 in
set_option maxHeartbeats 4000000 in
theorem c_X2_cost (G : zG) (N : Nat) (hN : 47 ≤ N) (hg : zGeo G N) (w : xW) (frm : Int32) (dst : Int32) : zM yX2_cost cX2_cost 4 (some .int) 3 77 G N [.ref (zad G 0), .int frm, .int dst] w (some (d_X2_cost w frm dst)) w := by
  generalize hT : d_X2_cost w frm dst = r
  unfold d_X2_cost at hT
  refine zM_of zy_X2_cost.2.2.2.2.2.2.2 hg ⟨Nat.le_of_ble_eq_true rfl, by decide⟩ rfl (fun k ok hE hI => ?_)
  have old := hE.old
  refine z_iload_n ok dX2_cost_0 1 rfl ?_
  refine z_callSi ok old dX2_cost_1 [] (c_X2_isCell G N hN hg w frm) zy_X2_isCell zw_260 rfl rfl (by decide) (Nat.le_of_ble_eq_true rfl) ?_
  refine z_if_eq ok dX2_cost_4 14 (by decide) (fun c1 => ?_) (fun c1 => ?_)
  · rw [if_pos c1] at hT
    refine z_iconst ok dX2_cost_14 (x := (-1)) (by decide) ?_
    exact z_iret ok hE dX2_cost_15 rfl ⟨hT, rfl⟩
  · rw [if_neg c1] at hT
    refine z_iload_n ok dX2_cost_7 2 rfl ?_
    refine z_callSi ok old dX2_cost_8 [] (c_X2_isCell G N hN hg w dst) zy_X2_isCell zw_260 rfl rfl (by decide) (Nat.le_of_ble_eq_true rfl) ?_
    refine z_if_ne ok dX2_cost_11 16 (by decide) (fun c2 => ?_) (fun c2 => ?_)
    · rw [if_neg c2] at hT
      replace hT := zlet_open hT
      obtain ⟨c_frm, hc_frm, hT⟩ := hT
      obtain ⟨lc_frm, ec_frm⟩ := zcellx (zisCell (by assumption)) hc_frm
      subst ec_frm
      replace hT := zlet_open hT
      obtain ⟨c_dst, hc_dst, hT⟩ := hT
      obtain ⟨lc_dst, ec_dst⟩ := zcellx (zisCell (by assumption)) hc_dst
      subst ec_dst
      refine z_aload_n ok dX2_cost_16 0 rfl ?_
      refine z_get_X2_game ok dX2_cost_17 hN zw_176 ?_
      refine z_getN_X1_board ok dX2_cost_20 0 (by decide) hN zw_89 ?_
      refine z_iload_n ok dX2_cost_23 1 rfl ?_
      refine z_iload_n ok dX2_cost_24 2 rfl ?_
      refine z_callVNi ok old dX2_cost_25 [] (c_X0_price G N hN hg w 0 (by decide) c_frm (by omega) c_dst (by omega)) zy_X0_price zw_436 (6 + 6 * 0) (zg_lt' hN (by decide)) (zE_board G w (by decide)) rfl rfl rfl rfl rfl (by decide) (Nat.le_of_ble_eq_true rfl) ?_
      replace hT := zlet_open hT
      obtain ⟨x3, hx3, hT⟩ := hT
      rw [← hx3]
      refine z_istore_n ok dX2_cost_28 (hI 3 (by decide)) (lv' := [(3, .int x3), (0, .ref (zad G 0)), (1, .int (nI c_frm)), (2, .int (nI c_dst))]) rfl ?_
      refine z_iload_n ok dX2_cost_29 0 rfl ?_
      refine z_if_ne ok dX2_cost_30 38 (by decide) (fun c4 => ?_) (fun c4 => ?_)
      · rw [if_neg c4] at hT
        refine z_iload_n ok dX2_cost_38 0 rfl ?_
        exact z_iret ok hE dX2_cost_39 rfl ⟨hT, rfl⟩
      · rw [if_pos c4] at hT
        refine z_bipush ok dX2_cost_33 (x := (-4)) (by decide) ?_
        refine z_goto ok dX2_cost_35 39 (by decide) ?_
        exact z_iret ok hE dX2_cost_39 rfl ⟨hT, rfl⟩
    · rw [if_pos c2] at hT
      refine z_iconst ok dX2_cost_14 (x := (-1)) (by decide) ?_
      exact z_iret ok hE dX2_cost_15 rfl ⟨hT, rfl⟩

def d_X2_moves (w : xW) (side : Int32) : Int32 :=
  if (d_X2_isSide w side) = 0 then ((-1))
  else ((d_X0_movesOf w 0 side))
set_option maxRecDepth 100000 in
set_option maxHeartbeats 4000000 in
theorem c_X2_moves (G : zG) (N : Nat) (hN : 47 ≤ N) (hg : zGeo G N) (w : xW) (side : Int32) : zM yX2_moves cX2_moves 2 (some .int) 5 124 G N [.ref (zad G 0), .int side] w (some (d_X2_moves w side)) w := by
  generalize hT : d_X2_moves w side = r
  unfold d_X2_moves at hT
  refine zM_of zy_X2_moves.2.2.2.2.2.2.2 hg ⟨Nat.le_of_ble_eq_true rfl, by decide⟩ rfl (fun k ok hE hI => ?_)
  have old := hE.old
  refine z_iload_n ok dX2_moves_0 1 rfl ?_
  refine z_callSi ok old dX2_moves_1 [] (c_X2_isSide G N hN hg w side) zy_X2_isSide zw_257 rfl rfl (by decide) (Nat.le_of_ble_eq_true rfl) ?_
  refine z_if_eq ok dX2_moves_4 21 (by decide) (fun c1 => ?_) (fun c1 => ?_)
  · rw [if_pos c1] at hT
    refine z_iconst ok dX2_moves_21 (x := (-1)) (by decide) ?_
    exact z_iret ok hE dX2_moves_22 rfl ⟨hT, rfl⟩
  · rw [if_neg c1] at hT
    refine z_aload_n ok dX2_moves_7 0 rfl ?_
    refine z_get_X2_game ok dX2_moves_8 hN zw_176 ?_
    refine z_getN_X1_board ok dX2_moves_11 0 (by decide) hN zw_89 ?_
    refine z_iload_n ok dX2_moves_14 1 rfl ?_
    refine z_callVNi ok old dX2_moves_15 [] (c_X0_movesOf G N hN hg w 0 (by decide) side) zy_X0_movesOf zw_392 (6 + 6 * 0) (zg_lt' hN (by decide)) (zE_board G w (by decide)) rfl rfl rfl rfl rfl (by decide) (Nat.le_of_ble_eq_true rfl) ?_
    refine z_goto ok dX2_moves_18 22 (by decide) ?_
    exact z_iret ok hE dX2_moves_22 rfl ⟨hT, rfl⟩

def d_X2_listed_27k  (e3_4 : Int32) (e3_5 : Nat) : Int32 :=
  (-4)
def d_X2_listed_37 (w : xW) (side : Int32) (index : Int32) (v3_5 : Nat) (kt5 : Int32 → Nat → Int32) : Nat → Int32 → Nat → Int32
  | 0, _, _ => default
  | n5 + 1, v5_4, v5_6 => if (d_X0_sideOn w 0 v3_5) = side then (if 36 ≤ v5_6 then (kt5 v5_4 v5_6)
  else (if (d_X0_canMove w 0 v3_5 v5_6) = 0 then (d_X2_listed_37 w side index v3_5 kt5 n5 v5_4 (v5_6 + 1))
  else (if v5_4 = index then ((nI ((36 * v3_5) + v5_6)))
  else (d_X2_listed_37 w side index v3_5 kt5 n5 (v5_4 + 1) (v5_6 + 1)))))
  else (kt5 v5_4 v5_6)
def d_X2_listed_27 (w : xW) (side : Int32) (index : Int32) (kt3 : Int32 → Nat → Int32) : Nat → Int32 → Nat → Int32
  | 0, _, _ => default
  | n3 + 1, v3_4, v3_5 => if 36 ≤ v3_5 then (kt3 v3_4 v3_5)
  else (d_X2_listed_37 w side index v3_5 (fun e5_4 e5_6 => (d_X2_listed_27 w side index kt3 n3 e5_4 (v3_5 + 1))) 37 v3_4 0)
def d_X2_listed (w : xW) (side : Int32) (index : Int32) : Int32 :=
  if (d_X2_isSide w side) = 0 then ((-1))
  else (if 0 ≤ index then (d_X2_listed_27 w side index d_X2_listed_27k 37 0 0)
  else ((-1)))
set_option maxRecDepth 100000 in
set_option maxHeartbeats 4000000 in
theorem c_X2_listed (G : zG) (N : Nat) (hN : 47 ≤ N) (hg : zGeo G N) (w : xW) (side : Int32) (index : Int32) : zM yX2_listed cX2_listed 7 (some .int) 4 100 G N [.ref (zad G 0), .int side, .int index] w (some (d_X2_listed w side index)) w := by
  generalize hT : d_X2_listed w side index = r
  unfold d_X2_listed at hT
  refine zM_of zy_X2_listed.2.2.2.2.2.2.2 hg ⟨Nat.le_of_ble_eq_true rfl, by decide⟩ rfl (fun k ok hE hI => ?_)
  have old := hE.old
  refine z_iload_n ok dX2_listed_0 1 rfl ?_
  refine z_callSi ok old dX2_listed_1 [] (c_X2_isSide G N hN hg w side) zy_X2_isSide zw_257 rfl rfl (by decide) (Nat.le_of_ble_eq_true rfl) ?_
  refine z_if_eq ok dX2_listed_4 11 (by decide) (fun c1 => ?_) (fun c1 => ?_)
  · rw [if_pos c1] at hT
    refine z_iconst ok dX2_listed_11 (x := (-1)) (by decide) ?_
    exact z_iret ok hE dX2_listed_12 rfl ⟨hT, rfl⟩
  · rw [if_neg c1] at hT
    refine z_iload_n ok dX2_listed_7 2 rfl ?_
    refine z_if_ge ok dX2_listed_8 13 (by decide) (fun c2 => ?_) (fun c2 => ?_)
    · rw [if_pos c2] at hT
      refine z_aload_n ok dX2_listed_13 0 rfl ?_
      refine z_get_X2_game ok dX2_listed_14 hN zw_176 ?_
      refine z_getN_X1_board ok dX2_listed_17 0 (by decide) hN zw_89 ?_
      refine z_astore_n ok dX2_listed_20 (hI 3 (by decide)) (lv' := [(3, .ref (zad G (6 + 6 * 0))), (0, .ref (zad G 0)), (1, .int side), (2, .int index)]) rfl ?_
      refine z_iconst ok dX2_listed_21 (x := 0) (by decide) ?_
      refine z_istore ok dX2_listed_22 (hI 4 (by decide)) (lv' := [(4, .int 0), (3, .ref (zad G (6 + 6 * 0))), (0, .ref (zad G 0)), (1, .int side), (2, .int index)]) rfl ?_
      refine z_iconst ok dX2_listed_24 (x := 0) (by decide) ?_
      refine z_istore ok dX2_listed_25 (hI 5 (by decide)) (lv' := [(5, .int 0), (4, .int 0), (3, .ref (zad G (6 + 6 * 0))), (0, .ref (zad G 0)), (1, .int side), (2, .int index)]) rfl ?_
      refine z_locs [3, 4, 5, 2, 1, 0] (lv' := [(0, .ref (zad G 0)), (1, .int side), (2, .int index), (3, .ref (zad G (6 + 6 * 0))), (4, .int 0), (5, .int 0)]) rfl ?_
      obtain ⟨kt3, hkt3⟩ : ∃ z, z = d_X2_listed_27k := ⟨_, rfl⟩
      rw [← hkt3] at hT
      have hk3 : ∀ (e3_4 : Int32) (e3_5 : Nat), e3_5 ≤ 36 → kt3 e3_4 e3_5 = r → zZ k G N w 95 [(0, .ref (zad G 0)), (1, .int side), (2, .int index), (3, .ref (zad G (6 + 6 * 0))), (4, .int e3_4), (5, .int (nI e3_5))] [] := by
        intro e3_4 e3_5 q3_0 hT3
        rw [hkt3, d_X2_listed_27k] at hT3
        refine z_bipush ok dX2_listed_95 (x := (-4)) (by decide) ?_
        exact z_iret ok hE dX2_listed_97 rfl ⟨hT3, rfl⟩
      have hl3 : ∀ (n3 : Nat) (v3_4 : Int32) (v3_5 : Nat), 36 < v3_5 + n3 → v3_5 ≤ 36 → d_X2_listed_27 w side index kt3 n3 v3_4 v3_5 = r → zZ k G N w 27 [(0, .ref (zad G 0)), (1, .int side), (2, .int index), (3, .ref (zad G (6 + 6 * 0))), (4, .int v3_4), (5, .int (nI v3_5))] [] := by
        intro n3
        induction n3 with
        | zero =>
          intro v3_4 v3_5 q3_0 q3_1
          exact absurd q3_0 (by omega)
        | succ n3 ih3 =>
          intro v3_4 v3_5 q3_0 q3_1 hT3
          rw [d_X2_listed_27] at hT3
          refine z_iload ok dX2_listed_27 5 rfl ?_
          refine z_bipush ok dX2_listed_29 (x := 36) (by decide) ?_
          refine z_icmp_ge_n ok dX2_listed_31 95 (by decide) v3_5 36 rfl rfl (by omega) (fun c4 => ?_) (fun c4 => ?_)
          · rw [if_pos c4] at hT3
            refine z_locs [0, 1, 2, 3, 4, 5] (lv' := [(0, .ref (zad G 0)), (1, .int side), (2, .int index), (3, .ref (zad G (6 + 6 * 0))), (4, .int v3_4), (5, .int (nI v3_5))]) rfl ?_
            exact hk3 v3_4 v3_5 (by omega) hT3
          · rw [if_neg c4] at hT3
            refine z_iconst ok dX2_listed_34 (x := 0) (by decide) ?_
            refine z_istore ok dX2_listed_35 (hI 6 (by decide)) (lv' := [(6, .int 0), (0, .ref (zad G 0)), (1, .int side), (2, .int index), (3, .ref (zad G (6 + 6 * 0))), (4, .int v3_4), (5, .int (nI v3_5))]) rfl ?_
            refine z_locs [1, 2, 3, 4, 5, 6, 0] (lv' := [(0, .ref (zad G 0)), (1, .int side), (2, .int index), (3, .ref (zad G (6 + 6 * 0))), (4, .int v3_4), (5, .int (nI v3_5)), (6, .int 0)]) rfl ?_
            obtain ⟨kt5, hkt5⟩ : ∃ z, z = ((fun e5_4 e5_6 => (d_X2_listed_27 w side index kt3 n3 e5_4 (v3_5 + 1))) : Int32 → Nat → Int32) := ⟨_, rfl⟩
            rw [← hkt5] at hT3
            have hk5 : ∀ (e5_4 : Int32) (e5_6 : Nat), e5_6 ≤ 36 → kt5 e5_4 e5_6 = r → zZ k G N w 89 [(0, .ref (zad G 0)), (1, .int side), (2, .int index), (3, .ref (zad G (6 + 6 * 0))), (4, .int e5_4), (5, .int (nI v3_5)), (6, .int (nI e5_6))] [] := by
              intro e5_4 e5_6 q5_0 hT5
              rw [hkt5] at hT5
              dsimp only at hT5
              refine z_iinc ok dX2_listed_89 (hI 5 (by decide)) 5 rfl (y := (nI (v3_5 + 1))) (z_incn v3_5 1) (lv' := [(5, .int (nI (v3_5 + 1))), (0, .ref (zad G 0)), (1, .int side), (2, .int index), (3, .ref (zad G (6 + 6 * 0))), (4, .int e5_4), (6, .int (nI e5_6))]) rfl ?_
              refine z_goto ok dX2_listed_92 27 (by decide) ?_
              refine z_locs [1, 2, 3, 4, 5, 0] (lv' := [(0, .ref (zad G 0)), (1, .int side), (2, .int index), (3, .ref (zad G (6 + 6 * 0))), (4, .int e5_4), (5, .int (nI (v3_5 + 1)))]) rfl ?_
              exact ih3 e5_4 (v3_5 + 1) (by omega) (by omega) hT5
            have hl5 : ∀ (n5 : Nat) (v5_4 : Int32) (v5_6 : Nat), 36 < v5_6 + n5 → v5_6 ≤ 36 → d_X2_listed_37 w side index v3_5 kt5 n5 v5_4 v5_6 = r → zZ k G N w 37 [(0, .ref (zad G 0)), (1, .int side), (2, .int index), (3, .ref (zad G (6 + 6 * 0))), (4, .int v5_4), (5, .int (nI v3_5)), (6, .int (nI v5_6))] [] := by
              intro n5
              induction n5 with
              | zero =>
                intro v5_4 v5_6 q5_0 q5_1
                exact absurd q5_0 (by omega)
              | succ n5 ih5 =>
                intro v5_4 v5_6 q5_0 q5_1 hT5
                rw [d_X2_listed_37] at hT5
                refine z_aload_n ok dX2_listed_37 3 rfl ?_
                refine z_iload ok dX2_listed_38 5 rfl ?_
                refine z_callVNi ok old dX2_listed_40 [] (c_X0_sideOn G N hN hg w 0 (by decide) v3_5 (by omega)) zy_X0_sideOn zw_397 (6 + 6 * 0) (zg_lt' hN (by decide)) (zE_board G w (by decide)) rfl rfl rfl rfl rfl (by decide) (Nat.le_of_ble_eq_true rfl) ?_
                refine z_iload_n ok dX2_listed_43 1 rfl ?_
                refine z_icmp_ne ok dX2_listed_44 89 (by decide) (fun c6 => ?_) (fun c6 => ?_)
                · rw [if_neg c6] at hT5
                  refine z_locs [0, 1, 2, 3, 4, 5, 6] (lv' := [(0, .ref (zad G 0)), (1, .int side), (2, .int index), (3, .ref (zad G (6 + 6 * 0))), (4, .int v5_4), (5, .int (nI v3_5)), (6, .int (nI v5_6))]) rfl ?_
                  exact hk5 v5_4 v5_6 (by omega) hT5
                · rw [if_pos c6] at hT5
                  refine z_iload ok dX2_listed_47 6 rfl ?_
                  refine z_bipush ok dX2_listed_49 (x := 36) (by decide) ?_
                  refine z_icmp_ge_n ok dX2_listed_51 89 (by decide) v5_6 36 rfl rfl (by omega) (fun c7 => ?_) (fun c7 => ?_)
                  · rw [if_pos c7] at hT5
                    refine z_locs [0, 1, 2, 3, 4, 5, 6] (lv' := [(0, .ref (zad G 0)), (1, .int side), (2, .int index), (3, .ref (zad G (6 + 6 * 0))), (4, .int v5_4), (5, .int (nI v3_5)), (6, .int (nI v5_6))]) rfl ?_
                    exact hk5 v5_4 v5_6 (by omega) hT5
                  · rw [if_neg c7] at hT5
                    refine z_aload_n ok dX2_listed_54 3 rfl ?_
                    refine z_iload ok dX2_listed_55 5 rfl ?_
                    refine z_iload ok dX2_listed_57 6 rfl ?_
                    refine z_callVNi ok old dX2_listed_59 [] (c_X0_canMove G N hN hg w 0 (by decide) v3_5 (by omega) v5_6 (by omega)) zy_X0_canMove zw_398 (6 + 6 * 0) (zg_lt' hN (by decide)) (zE_board G w (by decide)) rfl rfl rfl rfl rfl (by decide) (Nat.le_of_ble_eq_true rfl) ?_
                    refine z_if_eq ok dX2_listed_62 83 (by decide) (fun c8 => ?_) (fun c8 => ?_)
                    · rw [if_pos c8] at hT5
                      refine z_iinc ok dX2_listed_83 (hI 6 (by decide)) 6 rfl (y := (nI (v5_6 + 1))) (z_incn v5_6 1) (lv' := [(6, .int (nI (v5_6 + 1))), (0, .ref (zad G 0)), (1, .int side), (2, .int index), (3, .ref (zad G (6 + 6 * 0))), (4, .int v5_4), (5, .int (nI v3_5))]) rfl ?_
                      refine z_goto ok dX2_listed_86 37 (by decide) ?_
                      refine z_locs [1, 2, 3, 4, 5, 6, 0] (lv' := [(0, .ref (zad G 0)), (1, .int side), (2, .int index), (3, .ref (zad G (6 + 6 * 0))), (4, .int v5_4), (5, .int (nI v3_5)), (6, .int (nI (v5_6 + 1)))]) rfl ?_
                      exact ih5 v5_4 (v5_6 + 1) (by omega) (by omega) hT5
                    · rw [if_neg c8] at hT5
                      refine z_iload ok dX2_listed_65 4 rfl ?_
                      refine z_iload_n ok dX2_listed_67 2 rfl ?_
                      refine z_icmp_ne ok dX2_listed_68 80 (by decide) (fun c9 => ?_) (fun c9 => ?_)
                      · rw [if_neg c9] at hT5
                        refine z_iinc ok dX2_listed_80 (hI 4 (by decide)) 4 rfl (y := (v5_4 + 1)) rfl (lv' := [(4, .int (v5_4 + 1)), (0, .ref (zad G 0)), (1, .int side), (2, .int index), (3, .ref (zad G (6 + 6 * 0))), (5, .int (nI v3_5)), (6, .int (nI v5_6))]) rfl ?_
                        refine z_iinc ok dX2_listed_83 (hI 6 (by decide)) 6 rfl (y := (nI (v5_6 + 1))) (z_incn v5_6 1) (lv' := [(6, .int (nI (v5_6 + 1))), (4, .int (v5_4 + 1)), (0, .ref (zad G 0)), (1, .int side), (2, .int index), (3, .ref (zad G (6 + 6 * 0))), (5, .int (nI v3_5))]) rfl ?_
                        refine z_goto ok dX2_listed_86 37 (by decide) ?_
                        refine z_locs [2, 3, 4, 5, 1, 6, 0] (lv' := [(0, .ref (zad G 0)), (1, .int side), (2, .int index), (3, .ref (zad G (6 + 6 * 0))), (4, .int (v5_4 + 1)), (5, .int (nI v3_5)), (6, .int (nI (v5_6 + 1)))]) rfl ?_
                        exact ih5 (v5_4 + 1) (v5_6 + 1) (by omega) (by omega) hT5
                      · rw [if_pos c9] at hT5
                        refine z_bipush ok dX2_listed_71 (x := 36) (by decide) ?_
                        refine z_iload ok dX2_listed_73 5 rfl ?_
                        refine z_imul_n ok dX2_listed_75 36 v3_5 rfl rfl ?_
                        refine z_iload ok dX2_listed_76 6 rfl ?_
                        refine z_iadd_n ok dX2_listed_78 (36 * v3_5) v5_6 rfl rfl ?_
                        exact z_iret ok hE dX2_listed_79 rfl ⟨hT5, rfl⟩
            exact hl5 37 v3_4 0 (by omega) (by omega) hT3
      exact hl3 37 0 0 (by omega) (by omega) hT
    · rw [if_neg c2] at hT
      refine z_iconst ok dX2_listed_11 (x := (-1)) (by decide) ?_
      exact z_iret ok hE dX2_listed_12 rfl ⟨hT, rfl⟩

def d_X2_struck_51k (w4 : xW) (e5_4 : Int32) (e5_5 : Nat) : Int32 × xW :=
  (e5_4, w4)
def d_X2_struck_51 (side : Int32) (c_cell : Nat) (w4 : xW) (kt5 : Int32 → Nat → (Int32 × xW)) : Nat → Int32 → Nat → Int32 × xW
  | 0, _, _ => default
  | n5 + 1, v5_4, v5_5 => if 36 ≤ v5_5 then (kt5 v5_4 v5_5)
  else (if (d_X0_sideOn w4 1 v5_5) = side then (if (d_X0_canMove w4 1 v5_5 c_cell) = 0 then (d_X2_struck_51 side c_cell w4 kt5 n5 v5_4 (v5_5 + 1))
  else (d_X2_struck_51 side c_cell w4 kt5 n5 (v5_4 + 1) (v5_5 + 1)))
  else (d_X2_struck_51 side c_cell w4 kt5 n5 v5_4 (v5_5 + 1)))
def d_X2_struck (w : xW) (cell : Int32) (side : Int32) : Int32 × xW :=
  if (d_X2_isCell w cell) = 0 then (((-1), w))
  else (if (d_X2_isSide w side) = 0 then (((-1), w))
  else (zlet cell.toNatClampNeg fun c_cell =>
  zlet (d_X0_copyFrom w 1 0) fun w3 =>
  zlet (d_X0_place w3 1 c_cell (1 - side) 4 0) fun w4 =>
  d_X2_struck_51 side c_cell w4 (d_X2_struck_51k w4) 37 0 0))
set_option maxRecDepth 100000 in
set_option maxHeartbeats 4000000 in
theorem c_X2_struck (G : zG) (N : Nat) (hN : 47 ≤ N) (hg : zGeo G N) (w : xW) (cell : Int32) (side : Int32) : zM yX2_struck cX2_struck 6 (some .int) 4 100 G N [.ref (zad G 0), .int cell, .int side] w (some (d_X2_struck w cell side).1) (d_X2_struck w cell side).2 := by
  obtain ⟨r, u, hT⟩ := zpair (d_X2_struck w cell side)
  rw [hT]
  dsimp only
  unfold d_X2_struck at hT
  refine zM_of zy_X2_struck.2.2.2.2.2.2.2 hg ⟨Nat.le_of_ble_eq_true rfl, by decide⟩ rfl (fun k ok hE hI => ?_)
  have old := hE.old
  refine z_iload_n ok dX2_struck_0 1 rfl ?_
  refine z_callSi ok old dX2_struck_1 [] (c_X2_isCell G N hN hg w cell) zy_X2_isCell zw_260 rfl rfl (by decide) (Nat.le_of_ble_eq_true rfl) ?_
  refine z_if_eq ok dX2_struck_4 14 (by decide) (fun c1 => ?_) (fun c1 => ?_)
  · rw [if_pos c1] at hT
    refine z_iconst ok dX2_struck_14 (x := (-1)) (by decide) ?_
    exact z_iret ok hE dX2_struck_15 rfl ⟨congrArg Prod.fst hT, congrArg Prod.snd hT⟩
  · rw [if_neg c1] at hT
    refine z_iload_n ok dX2_struck_7 2 rfl ?_
    refine z_callSi ok old dX2_struck_8 [] (c_X2_isSide G N hN hg w side) zy_X2_isSide zw_257 rfl rfl (by decide) (Nat.le_of_ble_eq_true rfl) ?_
    refine z_if_ne ok dX2_struck_11 16 (by decide) (fun c2 => ?_) (fun c2 => ?_)
    · rw [if_neg c2] at hT
      replace hT := zlet_open hT
      obtain ⟨c_cell, hc_cell, hT⟩ := hT
      obtain ⟨lc_cell, ec_cell⟩ := zcellx (zisCell (by assumption)) hc_cell
      subst ec_cell
      refine z_aload_n ok dX2_struck_16 0 rfl ?_
      refine z_get_X2_trial ok dX2_struck_17 hN zw_177 ?_
      refine z_getN_X1_board ok dX2_struck_20 1 (by decide) hN zw_89 ?_
      refine z_astore_n ok dX2_struck_23 (hI 3 (by decide)) (lv' := [(3, .ref (zad G (6 + 6 * 1))), (0, .ref (zad G 0)), (1, .int (nI c_cell)), (2, .int side)]) rfl ?_
      refine z_aload_n ok dX2_struck_24 0 rfl ?_
      refine z_aload_n ok dX2_struck_25 1 rfl ?_
      refine z_get_X2_game ok dX2_struck_26 hN zw_176 ?_
      refine z_getN_X1_board ok dX2_struck_29 0 (by decide) hN zw_89 ?_
      refine z_callVNv ok old dX2_struck_32 [] (c_X0_copyFrom G N hN hg w 1 (by decide) 0 (by decide)) zy_X0_copyFrom zw_441 (6 + 6 * 1) (zg_lt' hN (by decide)) (zE_board G w (by decide)) rfl rfl rfl rfl rfl (by decide) (Nat.le_of_ble_eq_true rfl) ?_
      replace hT := zlet_open hT
      obtain ⟨w3, hw3, hT⟩ := hT
      rw [← hw3]
      refine z_aload_n ok dX2_struck_35 0 rfl ?_
      refine z_iload_n ok dX2_struck_36 2 rfl ?_
      refine z_iconst ok dX2_struck_37 (x := 1) (by decide) ?_
      refine z_iload_n ok dX2_struck_38 3 rfl ?_
      refine z_isub ok dX2_struck_39 ?_
      refine z_iconst ok dX2_struck_40 (x := 4) (by decide) ?_
      refine z_iconst ok dX2_struck_41 (x := 0) (by decide) ?_
      refine z_callVNv ok old dX2_struck_42 [] (c_X0_place G N hN hg w3 1 (by decide) c_cell (by omega) (1 - side) 4 0) zy_X0_place zw_442 (6 + 6 * 1) (zg_lt' hN (by decide)) (zE_board G w3 (by decide)) rfl rfl rfl rfl rfl (by decide) (Nat.le_of_ble_eq_true rfl) ?_
      replace hT := zlet_open hT
      obtain ⟨w4, hw4, hT⟩ := hT
      rw [← hw4]
      refine z_iconst ok dX2_struck_45 (x := 0) (by decide) ?_
      refine z_istore ok dX2_struck_46 (hI 4 (by decide)) (lv' := [(4, .int 0), (3, .ref (zad G (6 + 6 * 1))), (0, .ref (zad G 0)), (1, .int (nI c_cell)), (2, .int side)]) rfl ?_
      refine z_iconst ok dX2_struck_48 (x := 0) (by decide) ?_
      refine z_istore ok dX2_struck_49 (hI 5 (by decide)) (lv' := [(5, .int 0), (4, .int 0), (3, .ref (zad G (6 + 6 * 1))), (0, .ref (zad G 0)), (1, .int (nI c_cell)), (2, .int side)]) rfl ?_
      refine z_locs [3, 4, 5, 2, 1, 0] (lv' := [(0, .ref (zad G 0)), (1, .int (nI c_cell)), (2, .int side), (3, .ref (zad G (6 + 6 * 1))), (4, .int 0), (5, .int 0)]) rfl ?_
      obtain ⟨kt5, hkt5⟩ : ∃ z, z = (d_X2_struck_51k w4) := ⟨_, rfl⟩
      rw [← hkt5] at hT
      have hk5 : ∀ (e5_4 : Int32) (e5_5 : Nat), e5_5 ≤ 36 → kt5 e5_4 e5_5 = (r, u) → zZ k G N w4 87 [(0, .ref (zad G 0)), (1, .int (nI c_cell)), (2, .int side), (3, .ref (zad G (6 + 6 * 1))), (4, .int e5_4), (5, .int (nI e5_5))] [] := by
        intro e5_4 e5_5 q5_0 hT5
        rw [hkt5, d_X2_struck_51k] at hT5
        refine z_iload ok dX2_struck_87 4 rfl ?_
        exact z_iret ok hE dX2_struck_89 rfl ⟨congrArg Prod.fst hT5, congrArg Prod.snd hT5⟩
      have hl5 : ∀ (n5 : Nat) (v5_4 : Int32) (v5_5 : Nat), 36 < v5_5 + n5 → v5_5 ≤ 36 → d_X2_struck_51 side c_cell w4 kt5 n5 v5_4 v5_5 = (r, u) → zZ k G N w4 51 [(0, .ref (zad G 0)), (1, .int (nI c_cell)), (2, .int side), (3, .ref (zad G (6 + 6 * 1))), (4, .int v5_4), (5, .int (nI v5_5))] [] := by
        intro n5
        induction n5 with
        | zero =>
          intro v5_4 v5_5 q5_0 q5_1
          exact absurd q5_0 (by omega)
        | succ n5 ih5 =>
          intro v5_4 v5_5 q5_0 q5_1 hT5
          rw [d_X2_struck_51] at hT5
          refine z_iload ok dX2_struck_51 5 rfl ?_
          refine z_bipush ok dX2_struck_53 (x := 36) (by decide) ?_
          refine z_icmp_ge_n ok dX2_struck_55 87 (by decide) v5_5 36 rfl rfl (by omega) (fun c6 => ?_) (fun c6 => ?_)
          · rw [if_pos c6] at hT5
            refine z_locs [0, 1, 2, 3, 4, 5] (lv' := [(0, .ref (zad G 0)), (1, .int (nI c_cell)), (2, .int side), (3, .ref (zad G (6 + 6 * 1))), (4, .int v5_4), (5, .int (nI v5_5))]) rfl ?_
            exact hk5 v5_4 v5_5 (by omega) hT5
          · rw [if_neg c6] at hT5
            refine z_aload_n ok dX2_struck_58 3 rfl ?_
            refine z_iload ok dX2_struck_59 5 rfl ?_
            refine z_callVNi ok old dX2_struck_61 [] (c_X0_sideOn G N hN hg w4 1 (by decide) v5_5 (by omega)) zy_X0_sideOn zw_397 (6 + 6 * 1) (zg_lt' hN (by decide)) (zE_board G w4 (by decide)) rfl rfl rfl rfl rfl (by decide) (Nat.le_of_ble_eq_true rfl) ?_
            refine z_iload_n ok dX2_struck_64 2 rfl ?_
            refine z_icmp_ne ok dX2_struck_65 81 (by decide) (fun c7 => ?_) (fun c7 => ?_)
            · rw [if_neg c7] at hT5
              refine z_iinc ok dX2_struck_81 (hI 5 (by decide)) 5 rfl (y := (nI (v5_5 + 1))) (z_incn v5_5 1) (lv' := [(5, .int (nI (v5_5 + 1))), (0, .ref (zad G 0)), (1, .int (nI c_cell)), (2, .int side), (3, .ref (zad G (6 + 6 * 1))), (4, .int v5_4)]) rfl ?_
              refine z_goto ok dX2_struck_84 51 (by decide) ?_
              refine z_locs [1, 2, 3, 4, 5, 0] (lv' := [(0, .ref (zad G 0)), (1, .int (nI c_cell)), (2, .int side), (3, .ref (zad G (6 + 6 * 1))), (4, .int v5_4), (5, .int (nI (v5_5 + 1)))]) rfl ?_
              exact ih5 v5_4 (v5_5 + 1) (by omega) (by omega) hT5
            · rw [if_pos c7] at hT5
              refine z_aload_n ok dX2_struck_68 3 rfl ?_
              refine z_iload ok dX2_struck_69 5 rfl ?_
              refine z_iload_n ok dX2_struck_71 1 rfl ?_
              refine z_callVNi ok old dX2_struck_72 [] (c_X0_canMove G N hN hg w4 1 (by decide) v5_5 (by omega) c_cell (by omega)) zy_X0_canMove zw_398 (6 + 6 * 1) (zg_lt' hN (by decide)) (zE_board G w4 (by decide)) rfl rfl rfl rfl rfl (by decide) (Nat.le_of_ble_eq_true rfl) ?_
              refine z_if_eq ok dX2_struck_75 81 (by decide) (fun c8 => ?_) (fun c8 => ?_)
              · rw [if_pos c8] at hT5
                refine z_iinc ok dX2_struck_81 (hI 5 (by decide)) 5 rfl (y := (nI (v5_5 + 1))) (z_incn v5_5 1) (lv' := [(5, .int (nI (v5_5 + 1))), (0, .ref (zad G 0)), (1, .int (nI c_cell)), (2, .int side), (3, .ref (zad G (6 + 6 * 1))), (4, .int v5_4)]) rfl ?_
                refine z_goto ok dX2_struck_84 51 (by decide) ?_
                refine z_locs [1, 2, 3, 4, 5, 0] (lv' := [(0, .ref (zad G 0)), (1, .int (nI c_cell)), (2, .int side), (3, .ref (zad G (6 + 6 * 1))), (4, .int v5_4), (5, .int (nI (v5_5 + 1)))]) rfl ?_
                exact ih5 v5_4 (v5_5 + 1) (by omega) (by omega) hT5
              · rw [if_neg c8] at hT5
                refine z_iinc ok dX2_struck_78 (hI 4 (by decide)) 4 rfl (y := (v5_4 + 1)) rfl (lv' := [(4, .int (v5_4 + 1)), (0, .ref (zad G 0)), (1, .int (nI c_cell)), (2, .int side), (3, .ref (zad G (6 + 6 * 1))), (5, .int (nI v5_5))]) rfl ?_
                refine z_iinc ok dX2_struck_81 (hI 5 (by decide)) 5 rfl (y := (nI (v5_5 + 1))) (z_incn v5_5 1) (lv' := [(5, .int (nI (v5_5 + 1))), (4, .int (v5_4 + 1)), (0, .ref (zad G 0)), (1, .int (nI c_cell)), (2, .int side), (3, .ref (zad G (6 + 6 * 1)))]) rfl ?_
                refine z_goto ok dX2_struck_84 51 (by decide) ?_
                refine z_locs [2, 3, 4, 5, 1, 0] (lv' := [(0, .ref (zad G 0)), (1, .int (nI c_cell)), (2, .int side), (3, .ref (zad G (6 + 6 * 1))), (4, .int (v5_4 + 1)), (5, .int (nI (v5_5 + 1)))]) rfl ?_
                exact ih5 (v5_4 + 1) (v5_5 + 1) (by omega) (by omega) hT5
      exact hl5 37 0 0 (by omega) (by omega) hT
    · rw [if_pos c2] at hT
      refine z_iconst ok dX2_struck_14 (x := (-1)) (by decide) ?_
      exact z_iret ok hE dX2_struck_15 rfl ⟨congrArg Prod.fst hT, congrArg Prod.snd hT⟩

def d_X2_leaveFrom_10k  (e1_3 : Nat) (ew1 : xW) : xW :=
  ew1
def d_X2_leaveFrom_10 (f : Nat) (kt1 : Nat → xW → xW) : Nat → Nat → xW → xW
  | 0, _, _ => default
  | n1 + 1, v1_3, vw1 => if 36 ≤ v1_3 then (kt1 v1_3 vw1)
  else (if (d_X0_hasPiece vw1 1 v1_3) = 0 then (if (d_X0_canMove vw1 1 f v1_3) = 0 then (d_X2_leaveFrom_10 f kt1 n1 (v1_3 + 1) vw1)
  else (zlet (((d_X0_springOn vw1 1 f) - (d_X0_price vw1 1 f v1_3))) fun x5 =>
  zlet (xs vw1 (5 + zpr vw1 6) v1_3 (if (xg vw1 (5 + zpr vw1 6) v1_3) < x5 then x5 else (xg vw1 (5 + zpr vw1 6) v1_3))) fun w6 =>
  d_X2_leaveFrom_10 f kt1 n1 (v1_3 + 1) w6))
  else (d_X2_leaveFrom_10 f kt1 n1 (v1_3 + 1) vw1))
def d_X2_leaveFrom (w : xW) (f : Nat) : xW :=
  d_X2_leaveFrom_10 f d_X2_leaveFrom_10k 37 0 w
set_option maxRecDepth 100000 in
set_option maxHeartbeats 4000000 in
theorem c_X2_leaveFrom (G : zG) (N : Nat) (hN : 47 ≤ N) (hg : zGeo G N) (w : xW) (f : Nat) (h_f : f < 36) : zM yX2_leaveFrom cX2_leaveFrom 5 none 4 100 G N [.ref (zad G 0), .int (nI f)] w none (d_X2_leaveFrom w f) := by
  generalize hT : d_X2_leaveFrom w f = u
  unfold d_X2_leaveFrom at hT
  refine zM_of zy_X2_leaveFrom.2.2.2.2.2.2.2 hg ⟨Nat.le_of_ble_eq_true rfl, by decide⟩ rfl (fun k ok hE hI => ?_)
  have old := hE.old
  refine z_aload_n ok dX2_leaveFrom_0 0 rfl ?_
  refine z_get_X2_trial ok dX2_leaveFrom_1 hN zw_177 ?_
  refine z_getN_X1_board ok dX2_leaveFrom_4 1 (by decide) hN zw_89 ?_
  refine z_astore_n ok dX2_leaveFrom_7 (hI 2 (by decide)) (lv' := [(2, .ref (zad G (6 + 6 * 1))), (0, .ref (zad G 0)), (1, .int (nI f))]) rfl ?_
  refine z_iconst ok dX2_leaveFrom_8 (x := 0) (by decide) ?_
  refine z_istore_n ok dX2_leaveFrom_9 (hI 3 (by decide)) (lv' := [(3, .int 0), (2, .ref (zad G (6 + 6 * 1))), (0, .ref (zad G 0)), (1, .int (nI f))]) rfl ?_
  refine z_locs [2, 3, 1, 0] (lv' := [(0, .ref (zad G 0)), (1, .int (nI f)), (2, .ref (zad G (6 + 6 * 1))), (3, .int 0)]) rfl ?_
  obtain ⟨kt1, hkt1⟩ : ∃ z, z = d_X2_leaveFrom_10k := ⟨_, rfl⟩
  rw [← hkt1] at hT
  have hk1 : ∀ (e1_3 : Nat) (ew1 : xW), e1_3 ≤ 36 → kt1 e1_3 ew1 = u → zZ k G N ew1 70 [(0, .ref (zad G 0)), (1, .int (nI f)), (2, .ref (zad G (6 + 6 * 1))), (3, .int (nI e1_3))] [] := by
    intro e1_3 ew1 q1_0 hT1
    rw [hkt1, d_X2_leaveFrom_10k] at hT1
    exact z_vret ok hE dX2_leaveFrom_70 hT1
  have hl1 : ∀ (n1 : Nat) (v1_3 : Nat) (vw1 : xW), 36 < v1_3 + n1 → v1_3 ≤ 36 → d_X2_leaveFrom_10 f kt1 n1 v1_3 vw1 = u → zZ k G N vw1 10 [(0, .ref (zad G 0)), (1, .int (nI f)), (2, .ref (zad G (6 + 6 * 1))), (3, .int (nI v1_3))] [] := by
    intro n1
    induction n1 with
    | zero =>
      intro v1_3 vw1 q1_0 q1_1
      exact absurd q1_0 (by omega)
    | succ n1 ih1 =>
      intro v1_3 vw1 q1_0 q1_1 hT1
      rw [d_X2_leaveFrom_10] at hT1
      refine z_iload_n ok dX2_leaveFrom_10 3 rfl ?_
      refine z_bipush ok dX2_leaveFrom_11 (x := 36) (by decide) ?_
      refine z_icmp_ge_n ok dX2_leaveFrom_13 70 (by decide) v1_3 36 rfl rfl (by omega) (fun c2 => ?_) (fun c2 => ?_)
      · rw [if_pos c2] at hT1
        refine z_locs [0, 1, 2, 3] (lv' := [(0, .ref (zad G 0)), (1, .int (nI f)), (2, .ref (zad G (6 + 6 * 1))), (3, .int (nI v1_3))]) rfl ?_
        exact hk1 v1_3 vw1 (by omega) hT1
      · rw [if_neg c2] at hT1
        refine z_aload_n ok dX2_leaveFrom_16 2 rfl ?_
        refine z_iload_n ok dX2_leaveFrom_17 3 rfl ?_
        refine z_callVNi ok old dX2_leaveFrom_18 [] (c_X0_hasPiece G N hN hg vw1 1 (by decide) v1_3 (by omega)) zy_X0_hasPiece zw_265 (6 + 6 * 1) (zg_lt' hN (by decide)) (zE_board G vw1 (by decide)) rfl rfl rfl rfl rfl (by decide) (Nat.le_of_ble_eq_true rfl) ?_
        refine z_if_ne ok dX2_leaveFrom_21 64 (by decide) (fun c3 => ?_) (fun c3 => ?_)
        · rw [if_neg c3] at hT1
          refine z_iinc ok dX2_leaveFrom_64 (hI 3 (by decide)) 3 rfl (y := (nI (v1_3 + 1))) (z_incn v1_3 1) (lv' := [(3, .int (nI (v1_3 + 1))), (0, .ref (zad G 0)), (1, .int (nI f)), (2, .ref (zad G (6 + 6 * 1)))]) rfl ?_
          refine z_goto ok dX2_leaveFrom_67 10 (by decide) ?_
          refine z_locs [1, 2, 3, 0] (lv' := [(0, .ref (zad G 0)), (1, .int (nI f)), (2, .ref (zad G (6 + 6 * 1))), (3, .int (nI (v1_3 + 1)))]) rfl ?_
          exact ih1 (v1_3 + 1) vw1 (by omega) (by omega) hT1
        · rw [if_pos c3] at hT1
          refine z_aload_n ok dX2_leaveFrom_24 2 rfl ?_
          refine z_iload_n ok dX2_leaveFrom_25 1 rfl ?_
          refine z_iload_n ok dX2_leaveFrom_26 3 rfl ?_
          refine z_callVNi ok old dX2_leaveFrom_27 [] (c_X0_canMove G N hN hg vw1 1 (by decide) f (by omega) v1_3 (by omega)) zy_X0_canMove zw_398 (6 + 6 * 1) (zg_lt' hN (by decide)) (zE_board G vw1 (by decide)) rfl rfl rfl rfl rfl (by decide) (Nat.le_of_ble_eq_true rfl) ?_
          refine z_if_eq ok dX2_leaveFrom_30 64 (by decide) (fun c4 => ?_) (fun c4 => ?_)
          · rw [if_pos c4] at hT1
            refine z_iinc ok dX2_leaveFrom_64 (hI 3 (by decide)) 3 rfl (y := (nI (v1_3 + 1))) (z_incn v1_3 1) (lv' := [(3, .int (nI (v1_3 + 1))), (0, .ref (zad G 0)), (1, .int (nI f)), (2, .ref (zad G (6 + 6 * 1)))]) rfl ?_
            refine z_goto ok dX2_leaveFrom_67 10 (by decide) ?_
            refine z_locs [1, 2, 3, 0] (lv' := [(0, .ref (zad G 0)), (1, .int (nI f)), (2, .ref (zad G (6 + 6 * 1))), (3, .int (nI (v1_3 + 1)))]) rfl ?_
            exact ih1 (v1_3 + 1) vw1 (by omega) (by omega) hT1
          · rw [if_neg c4] at hT1
            refine z_aload_n ok dX2_leaveFrom_33 2 rfl ?_
            refine z_iload_n ok dX2_leaveFrom_34 1 rfl ?_
            refine z_callVNi ok old dX2_leaveFrom_35 [] (c_X0_springOn G N hN hg vw1 1 (by decide) f (by omega)) zy_X0_springOn zw_420 (6 + 6 * 1) (zg_lt' hN (by decide)) (zE_board G vw1 (by decide)) rfl rfl rfl rfl rfl (by decide) (Nat.le_of_ble_eq_true rfl) ?_
            refine z_aload_n ok dX2_leaveFrom_38 2 rfl ?_
            refine z_iload_n ok dX2_leaveFrom_39 1 rfl ?_
            refine z_iload_n ok dX2_leaveFrom_40 3 rfl ?_
            refine z_callVNi ok old dX2_leaveFrom_41 [.int (d_X0_springOn vw1 1 f)] (c_X0_price G N hN hg vw1 1 (by decide) f (by omega) v1_3 (by omega)) zy_X0_price zw_436 (6 + 6 * 1) (zg_lt' hN (by decide)) (zE_board G vw1 (by decide)) rfl rfl rfl rfl rfl (by decide) (Nat.le_of_ble_eq_true rfl) ?_
            refine z_isub ok dX2_leaveFrom_44 ?_
            replace hT1 := zlet_open hT1
            obtain ⟨x5, hx5, hT1⟩ := hT1
            rw [← hx5]
            refine z_istore ok dX2_leaveFrom_45 (hI 4 (by decide)) (lv' := [(4, .int x5), (0, .ref (zad G 0)), (1, .int (nI f)), (2, .ref (zad G (6 + 6 * 1))), (3, .int (nI v1_3))]) rfl ?_
            refine z_aload_n ok dX2_leaveFrom_47 1 rfl ?_
            refine z_get_X2_springLeftNext ok dX2_leaveFrom_48 hN zw_183 ?_
            refine z_iload_n ok dX2_leaveFrom_51 4 rfl ?_
            refine z_aload_n ok dX2_leaveFrom_52 1 rfl ?_
            refine z_get_X2_springLeftNext ok dX2_leaveFrom_53 hN zw_183 ?_
            refine z_iload_n ok dX2_leaveFrom_56 4 rfl ?_
            refine z_rld ok dX2_leaveFrom_57 vw1 6 hN v1_3 rfl (by omega) ?_
            refine z_iload ok dX2_leaveFrom_58 0 rfl ?_
            refine z_max ok dX2_leaveFrom_60 zw_457 zw_335 zw_52 zw_336 ⟨by decide, Nat.le_of_ble_eq_true rfl⟩ ?_
            refine z_rst ok dX2_leaveFrom_63 vw1 6 hN v1_3 rfl (by omega) ?_
            replace hT1 := zlet_open hT1
            obtain ⟨w6, hw6, hT1⟩ := hT1
            rw [← hw6]
            refine z_iinc ok dX2_leaveFrom_64 (hI 3 (by decide)) 4 rfl (y := (nI (v1_3 + 1))) (z_incn v1_3 1) (lv' := [(3, .int (nI (v1_3 + 1))), (4, .int x5), (0, .ref (zad G 0)), (1, .int (nI f)), (2, .ref (zad G (6 + 6 * 1)))]) rfl ?_
            refine z_goto ok dX2_leaveFrom_67 10 (by decide) ?_
            refine z_locs [2, 3, 4, 0] (lv' := [(0, .ref (zad G 0)), (1, .int (nI f)), (2, .ref (zad G (6 + 6 * 1))), (3, .int (nI (v1_3 + 1)))]) rfl ?_
            exact ih1 (v1_3 + 1) w6 (by omega) (by omega) hT1
  exact hl1 37 0 w (by omega) (by omega) hT

def d_X2_makeReachWider_26k  (e2_4 : Nat) (ew2 : xW) : xW :=
  zlet (xp ew2 5 ((zpr ew2 6) - 3)) fun w3 =>
  zlet (xp w3 6 ((zpr ew2 5) - 3)) fun w4 =>
  w4
def d_X2_makeReachWider_26 (side : Int32) (kind : Int32) (kt2 : Nat → xW → xW) : Nat → Nat → xW → xW
  | 0, _, _ => default
  | n2 + 1, v2_4, vw2 => if 36 ≤ v2_4 then (kt2 v2_4 vw2)
  else (if (xg vw2 (5 + zpr vw2 5) v2_4) ≤ 0 then (d_X2_makeReachWider_26 side kind kt2 n2 (v2_4 + 1) vw2)
  else (zlet (d_X0_place vw2 1 v2_4 side kind (xg vw2 (5 + zpr vw2 5) v2_4)) fun w7 =>
  zlet (d_X2_leaveFrom w7 v2_4) fun w8 =>
  zlet (d_X0_empty w8 1 v2_4) fun w9 =>
  d_X2_makeReachWider_26 side kind kt2 n2 (v2_4 + 1) w9))
def d_X2_makeReachWider (w : xW) (side : Int32) (kind : Int32) : xW :=
  zlet (xcopy w (5 + zpr w 6) 0 (5 + zpr w 5) 0) fun w1 =>
  d_X2_makeReachWider_26 side kind d_X2_makeReachWider_26k 37 0 w1
set_option maxRecDepth 100000 in
set_option maxHeartbeats 4000000 in
theorem c_X2_makeReachWider (G : zG) (N : Nat) (hN : 47 ≤ N) (hg : zGeo G N) (w : xW) (side : Int32) (kind : Int32) : zM yX2_makeReachWider cX2_makeReachWider 5 none 5 124 G N [.ref (zad G 0), .int side, .int kind] w none (d_X2_makeReachWider w side kind) := by
  generalize hT : d_X2_makeReachWider w side kind = u
  unfold d_X2_makeReachWider at hT
  refine zM_of zy_X2_makeReachWider.2.2.2.2.2.2.2 hg ⟨Nat.le_of_ble_eq_true rfl, by decide⟩ rfl (fun k ok hE hI => ?_)
  have old := hE.old
  refine z_aload_n ok dX2_makeReachWider_0 0 rfl ?_
  refine z_get_X2_trial ok dX2_makeReachWider_1 hN zw_177 ?_
  refine z_getN_X1_board ok dX2_makeReachWider_4 1 (by decide) hN zw_89 ?_
  refine z_astore_n ok dX2_makeReachWider_7 (hI 3 (by decide)) (lv' := [(3, .ref (zad G (6 + 6 * 1))), (0, .ref (zad G 0)), (1, .int side), (2, .int kind)]) rfl ?_
  refine z_aload_n ok dX2_makeReachWider_8 1 rfl ?_
  refine z_get_X2_springLeft ok dX2_makeReachWider_9 hN zw_182 ?_
  refine z_iconst ok dX2_makeReachWider_12 (x := 0) (by decide) ?_
  refine z_aload_n ok dX2_makeReachWider_13 1 rfl ?_
  refine z_get_X2_springLeftNext ok dX2_makeReachWider_14 hN zw_183 ?_
  refine z_iconst ok dX2_makeReachWider_17 (x := 0) (by decide) ?_
  refine z_bipush ok dX2_makeReachWider_18 (x := 36) (by decide) ?_
  refine z_copy ok dX2_makeReachWider_20 zw_452 zw_224 zw_223 zw_51 (zpr w 5) (zpr w 6) (by have := zpr_lt w 5; omega) (by have := zpr_lt w 6; omega) ((fun u => zE_row G w u 5) w) (fun u => zE_row G w u 6) (v := (5 + zpr w 6)) (o := 0) (v0 := (5 + zpr w 5)) (o0 := 0) (n := 36) (u := xcopy w (5 + zpr w 6) 0 (5 + zpr w 5) 0) rfl (by decide) (xcopy_xg w (5 + zpr w 6) 0 (5 + zpr w 5) 0) rfl (fun b h1 h2 => zown_row _ _ _) ⟨by decide, Nat.le_trans (Nat.add_le_add_left znative _) (Nat.le_of_ble_eq_true rfl)⟩ ?_
  replace hT := zlet_open hT
  obtain ⟨w1, hw1, hT⟩ := hT
  rw [← hw1]
  refine z_iconst ok dX2_makeReachWider_23 (x := 0) (by decide) ?_
  refine z_istore ok dX2_makeReachWider_24 (hI 4 (by decide)) (lv' := [(4, .int 0), (3, .ref (zad G (6 + 6 * 1))), (0, .ref (zad G 0)), (1, .int side), (2, .int kind)]) rfl ?_
  refine z_locs [2, 3, 4, 1, 0] (lv' := [(0, .ref (zad G 0)), (1, .int side), (2, .int kind), (3, .ref (zad G (6 + 6 * 1))), (4, .int 0)]) rfl ?_
  obtain ⟨kt2, hkt2⟩ : ∃ z, z = d_X2_makeReachWider_26k := ⟨_, rfl⟩
  rw [← hkt2] at hT
  have hk2 : ∀ (e2_4 : Nat) (ew2 : xW), e2_4 ≤ 36 → kt2 e2_4 ew2 = u → zZ k G N ew2 76 [(0, .ref (zad G 0)), (1, .int side), (2, .int kind), (3, .ref (zad G (6 + 6 * 1))), (4, .int (nI e2_4))] [] := by
    intro e2_4 ew2 q2_0 hT2
    rw [hkt2, d_X2_makeReachWider_26k] at hT2
    refine z_aload_n ok dX2_makeReachWider_76 0 rfl ?_
    refine z_get_X2_springLeft ok dX2_makeReachWider_77 hN zw_182 ?_
    refine z_astore ok dX2_makeReachWider_80 (hI 4 (by decide)) (lv' := [(4, .ref (zad G (zpr ew2 5))), (0, .ref (zad G 0)), (1, .int side), (2, .int kind), (3, .ref (zad G (6 + 6 * 1)))]) rfl ?_
    refine z_aload_n ok dX2_makeReachWider_82 1 rfl ?_
    refine z_aload_n ok dX2_makeReachWider_83 1 rfl ?_
    refine z_get_X2_springLeftNext ok dX2_makeReachWider_84 hN zw_183 ?_
    refine z_put_X2_springLeft ok dX2_makeReachWider_87 hN (zpr ew2 6) (zpr_34 _ _) zw_182 ?_
    replace hT2 := zlet_open hT2
    obtain ⟨w3, hw3, hT2⟩ := hT2
    rw [← hw3]
    refine z_aload_n ok dX2_makeReachWider_90 1 rfl ?_
    refine z_aload ok dX2_makeReachWider_91 0 rfl ?_
    refine z_put_X2_springLeftNext ok dX2_makeReachWider_93 hN (zpr ew2 5) (zpr_34 _ _) zw_183 ?_
    replace hT2 := zlet_open hT2
    obtain ⟨w4, hw4, hT2⟩ := hT2
    rw [← hw4]
    exact z_vret ok hE dX2_makeReachWider_96 hT2
  have hl2 : ∀ (n2 : Nat) (v2_4 : Nat) (vw2 : xW), 36 < v2_4 + n2 → v2_4 ≤ 36 → d_X2_makeReachWider_26 side kind kt2 n2 v2_4 vw2 = u → zZ k G N vw2 26 [(0, .ref (zad G 0)), (1, .int side), (2, .int kind), (3, .ref (zad G (6 + 6 * 1))), (4, .int (nI v2_4))] [] := by
    intro n2
    induction n2 with
    | zero =>
      intro v2_4 vw2 q2_0 q2_1
      exact absurd q2_0 (by omega)
    | succ n2 ih2 =>
      intro v2_4 vw2 q2_0 q2_1 hT2
      rw [d_X2_makeReachWider_26] at hT2
      refine z_iload ok dX2_makeReachWider_26 4 rfl ?_
      refine z_bipush ok dX2_makeReachWider_28 (x := 36) (by decide) ?_
      refine z_icmp_ge_n ok dX2_makeReachWider_30 76 (by decide) v2_4 36 rfl rfl (by omega) (fun c5 => ?_) (fun c5 => ?_)
      · rw [if_pos c5] at hT2
        refine z_locs [0, 1, 2, 3, 4] (lv' := [(0, .ref (zad G 0)), (1, .int side), (2, .int kind), (3, .ref (zad G (6 + 6 * 1))), (4, .int (nI v2_4))]) rfl ?_
        exact hk2 v2_4 vw2 (by omega) hT2
      · rw [if_neg c5] at hT2
        refine z_aload_n ok dX2_makeReachWider_33 0 rfl ?_
        refine z_get_X2_springLeft ok dX2_makeReachWider_34 hN zw_182 ?_
        refine z_iload ok dX2_makeReachWider_37 4 rfl ?_
        refine z_rld ok dX2_makeReachWider_39 vw2 5 hN v2_4 rfl (by omega) ?_
        refine z_if_le ok dX2_makeReachWider_40 70 (by decide) (fun c6 => ?_) (fun c6 => ?_)
        · rw [if_pos c6] at hT2
          refine z_iinc ok dX2_makeReachWider_70 (hI 4 (by decide)) 4 rfl (y := (nI (v2_4 + 1))) (z_incn v2_4 1) (lv' := [(4, .int (nI (v2_4 + 1))), (0, .ref (zad G 0)), (1, .int side), (2, .int kind), (3, .ref (zad G (6 + 6 * 1)))]) rfl ?_
          refine z_goto ok dX2_makeReachWider_73 26 (by decide) ?_
          refine z_locs [1, 2, 3, 4, 0] (lv' := [(0, .ref (zad G 0)), (1, .int side), (2, .int kind), (3, .ref (zad G (6 + 6 * 1))), (4, .int (nI (v2_4 + 1)))]) rfl ?_
          exact ih2 (v2_4 + 1) vw2 (by omega) (by omega) hT2
        · rw [if_neg c6] at hT2
          refine z_aload_n ok dX2_makeReachWider_43 3 rfl ?_
          refine z_iload ok dX2_makeReachWider_44 4 rfl ?_
          refine z_iload_n ok dX2_makeReachWider_46 1 rfl ?_
          refine z_iload_n ok dX2_makeReachWider_47 2 rfl ?_
          refine z_aload_n ok dX2_makeReachWider_48 0 rfl ?_
          refine z_get_X2_springLeft ok dX2_makeReachWider_49 hN zw_182 ?_
          refine z_iload ok dX2_makeReachWider_52 4 rfl ?_
          refine z_rld ok dX2_makeReachWider_54 vw2 5 hN v2_4 rfl (by omega) ?_
          refine z_callVNv ok old dX2_makeReachWider_55 [] (c_X0_place G N hN hg vw2 1 (by decide) v2_4 (by omega) side kind (xg vw2 (5 + zpr vw2 5) v2_4)) zy_X0_place zw_442 (6 + 6 * 1) (zg_lt' hN (by decide)) (zE_board G vw2 (by decide)) rfl rfl rfl rfl rfl (by decide) (Nat.le_of_ble_eq_true rfl) ?_
          replace hT2 := zlet_open hT2
          obtain ⟨w7, hw7, hT2⟩ := hT2
          rw [← hw7]
          refine z_aload_n ok dX2_makeReachWider_58 0 rfl ?_
          refine z_iload ok dX2_makeReachWider_59 4 rfl ?_
          refine z_callVv ok old dX2_makeReachWider_61 [] (c_X2_leaveFrom G N hN hg w7 v2_4 (by omega)) zy_X2_leaveFrom zw_453 0 (by omega) (zE_0 G w7) rfl rfl rfl rfl rfl (by decide) (Nat.le_of_ble_eq_true rfl) ?_
          replace hT2 := zlet_open hT2
          obtain ⟨w8, hw8, hT2⟩ := hT2
          rw [← hw8]
          refine z_aload_n ok dX2_makeReachWider_64 3 rfl ?_
          refine z_iload ok dX2_makeReachWider_65 4 rfl ?_
          refine z_callVNv ok old dX2_makeReachWider_67 [] (c_X0_empty G N hN hg w8 1 (by decide) v2_4 (by omega)) zy_X0_empty zw_447 (6 + 6 * 1) (zg_lt' hN (by decide)) (zE_board G w8 (by decide)) rfl rfl rfl rfl rfl (by decide) (Nat.le_of_ble_eq_true rfl) ?_
          replace hT2 := zlet_open hT2
          obtain ⟨w9, hw9, hT2⟩ := hT2
          rw [← hw9]
          refine z_iinc ok dX2_makeReachWider_70 (hI 4 (by decide)) 4 rfl (y := (nI (v2_4 + 1))) (z_incn v2_4 1) (lv' := [(4, .int (nI (v2_4 + 1))), (0, .ref (zad G 0)), (1, .int side), (2, .int kind), (3, .ref (zad G (6 + 6 * 1)))]) rfl ?_
          refine z_goto ok dX2_makeReachWider_73 26 (by decide) ?_
          refine z_locs [1, 2, 3, 4, 0] (lv' := [(0, .ref (zad G 0)), (1, .int side), (2, .int kind), (3, .ref (zad G (6 + 6 * 1))), (4, .int (nI (v2_4 + 1)))]) rfl ?_
          exact ih2 (v2_4 + 1) w9 (by omega) (by omega) hT2
  exact hl2 37 0 w1 (by omega) (by omega) hT

def d_X2_cellsReached_4k  (e1_1 : Int32) (e1_2 : Nat) : Int32 :=
  e1_1
def d_X2_cellsReached_4 (w : xW) (kt1 : Int32 → Nat → Int32) : Nat → Int32 → Nat → Int32
  | 0, _, _ => default
  | n1 + 1, v1_1, v1_2 => if 36 ≤ v1_2 then (kt1 v1_1 v1_2)
  else (if (xg w (5 + zpr w 5) v1_2) = (-1) then (d_X2_cellsReached_4 w kt1 n1 v1_1 (v1_2 + 1))
  else (d_X2_cellsReached_4 w kt1 n1 (v1_1 + 1) (v1_2 + 1)))
def d_X2_cellsReached (w : xW)  : Int32 :=
  d_X2_cellsReached_4 w d_X2_cellsReached_4k 37 0 0
set_option maxRecDepth 100000 in
set_option maxHeartbeats 4000000 in
theorem c_X2_cellsReached (G : zG) (N : Nat) (hN : 47 ≤ N) (hg : zGeo G N) (w : xW) : zM yX2_cellsReached cX2_cellsReached 3 (some .int) 0 0 G N [.ref (zad G 0)] w (some (d_X2_cellsReached w)) w := by
  generalize hT : d_X2_cellsReached w = r
  unfold d_X2_cellsReached at hT
  refine zM_of zy_X2_cellsReached.2.2.2.2.2.2.2 hg ⟨Nat.le_of_ble_eq_true rfl, by decide⟩ rfl (fun k ok hE hI => ?_)
  have old := hE.old
  refine z_iconst ok dX2_cellsReached_0 (x := 0) (by decide) ?_
  refine z_istore_n ok dX2_cellsReached_1 (hI 1 (by decide)) (lv' := [(1, .int 0), (0, .ref (zad G 0))]) rfl ?_
  refine z_iconst ok dX2_cellsReached_2 (x := 0) (by decide) ?_
  refine z_istore_n ok dX2_cellsReached_3 (hI 2 (by decide)) (lv' := [(2, .int 0), (1, .int 0), (0, .ref (zad G 0))]) rfl ?_
  refine z_locs [2, 1, 0] (lv' := [(0, .ref (zad G 0)), (1, .int 0), (2, .int 0)]) rfl ?_
  obtain ⟨kt1, hkt1⟩ : ∃ z, z = d_X2_cellsReached_4k := ⟨_, rfl⟩
  rw [← hkt1] at hT
  have hk1 : ∀ (e1_1 : Int32) (e1_2 : Nat), e1_2 ≤ 36 → kt1 e1_1 e1_2 = r → zZ k G N w 29 [(0, .ref (zad G 0)), (1, .int e1_1), (2, .int (nI e1_2))] [] := by
    intro e1_1 e1_2 q1_0 hT1
    rw [hkt1, d_X2_cellsReached_4k] at hT1
    refine z_iload_n ok dX2_cellsReached_29 1 rfl ?_
    exact z_iret ok hE dX2_cellsReached_30 rfl ⟨hT1, rfl⟩
  have hl1 : ∀ (n1 : Nat) (v1_1 : Int32) (v1_2 : Nat), 36 < v1_2 + n1 → v1_2 ≤ 36 → d_X2_cellsReached_4 w kt1 n1 v1_1 v1_2 = r → zZ k G N w 4 [(0, .ref (zad G 0)), (1, .int v1_1), (2, .int (nI v1_2))] [] := by
    intro n1
    induction n1 with
    | zero =>
      intro v1_1 v1_2 q1_0 q1_1
      exact absurd q1_0 (by omega)
    | succ n1 ih1 =>
      intro v1_1 v1_2 q1_0 q1_1 hT1
      rw [d_X2_cellsReached_4] at hT1
      refine z_iload_n ok dX2_cellsReached_4 2 rfl ?_
      refine z_bipush ok dX2_cellsReached_5 (x := 36) (by decide) ?_
      refine z_icmp_ge_n ok dX2_cellsReached_7 29 (by decide) v1_2 36 rfl rfl (by omega) (fun c2 => ?_) (fun c2 => ?_)
      · rw [if_pos c2] at hT1
        refine z_locs [0, 1, 2] (lv' := [(0, .ref (zad G 0)), (1, .int v1_1), (2, .int (nI v1_2))]) rfl ?_
        exact hk1 v1_1 v1_2 (by omega) hT1
      · rw [if_neg c2] at hT1
        refine z_aload_n ok dX2_cellsReached_10 0 rfl ?_
        refine z_get_X2_springLeft ok dX2_cellsReached_11 hN zw_182 ?_
        refine z_iload_n ok dX2_cellsReached_14 2 rfl ?_
        refine z_rld ok dX2_cellsReached_15 w 5 hN v1_2 rfl (by omega) ?_
        refine z_iconst ok dX2_cellsReached_16 (x := (-1)) (by decide) ?_
        refine z_icmp_eq ok dX2_cellsReached_17 23 (by decide) (fun c3 => ?_) (fun c3 => ?_)
        · rw [if_pos c3] at hT1
          refine z_iinc ok dX2_cellsReached_23 (hI 2 (by decide)) 2 rfl (y := (nI (v1_2 + 1))) (z_incn v1_2 1) (lv' := [(2, .int (nI (v1_2 + 1))), (0, .ref (zad G 0)), (1, .int v1_1)]) rfl ?_
          refine z_goto ok dX2_cellsReached_26 4 (by decide) ?_
          refine z_locs [1, 2, 0] (lv' := [(0, .ref (zad G 0)), (1, .int v1_1), (2, .int (nI (v1_2 + 1)))]) rfl ?_
          exact ih1 v1_1 (v1_2 + 1) (by omega) (by omega) hT1
        · rw [if_neg c3] at hT1
          refine z_iinc ok dX2_cellsReached_20 (hI 1 (by decide)) 1 rfl (y := (v1_1 + 1)) rfl (lv' := [(1, .int (v1_1 + 1)), (0, .ref (zad G 0)), (2, .int (nI v1_2))]) rfl ?_
          refine z_iinc ok dX2_cellsReached_23 (hI 2 (by decide)) 2 rfl (y := (nI (v1_2 + 1))) (z_incn v1_2 1) (lv' := [(2, .int (nI (v1_2 + 1))), (1, .int (v1_1 + 1)), (0, .ref (zad G 0))]) rfl ?_
          refine z_goto ok dX2_cellsReached_26 4 (by decide) ?_
          refine z_locs [2, 1, 0] (lv' := [(0, .ref (zad G 0)), (1, .int (v1_1 + 1)), (2, .int (nI (v1_2 + 1)))]) rfl ?_
          exact ih1 (v1_1 + 1) (v1_2 + 1) (by omega) (by omega) hT1
  exact hl1 37 0 0 (by omega) (by omega) hT
end
section
def d_X2_reach_136k  (e10_5 : Nat) (ew10 : xW) : Int32 × xW :=
  ((d_X2_cellsReached ew10), ew10)
def d_X2_reach_136 (c_moves : Nat) (x5 : Int32) (x6 : Int32) (kt10 : Nat → xW → (Int32 × xW)) : Nat → Nat → xW → Int32 × xW
  | 0, _, _ => default
  | n10 + 1, v10_5, vw10 => if c_moves ≤ v10_5 then (kt10 v10_5 vw10)
  else (zlet (d_X2_makeReachWider vw10 x5 x6) fun w12 =>
  d_X2_reach_136 c_moves x5 x6 kt10 n10 (v10_5 + 1) w12)
def d_X2_reach_92k (c_moves : Nat) (x5 : Int32) (x6 : Int32) (e9_5 : Nat) (ew9 : xW) : Int32 × xW :=
  d_X2_reach_136 c_moves x5 x6 d_X2_reach_136k (c_moves + 1) 0 ew9
def d_X2_reach_92 (c_cell : Nat) (kt9 : Nat → xW → (Int32 × xW)) : Nat → Nat → xW → Int32 × xW
  | 0, _, _ => default
  | n9 + 1, v9_5, vw9 => if 36 ≤ v9_5 then (kt9 v9_5 vw9)
  else (zlet (if v9_5 = c_cell then ((d_X0_springOn vw9 0 c_cell))
  else ((-1)) : Int32) fun x14 =>
  zlet (xs vw9 (5 + zpr vw9 5) v9_5 x14) fun w15 =>
  d_X2_reach_92 c_cell kt9 n9 (v9_5 + 1) w15)
def d_X2_reach (w : xW) (cell : Int32) (moves : Int32) : Int32 × xW :=
  if (d_X2_isCell w cell) = 0 then (((-1), w))
  else (if moves < 0 then (((-1), w))
  else (if moves ≤ 12 then (zlet cell.toNatClampNeg fun c_cell =>
  if (d_X0_hasPiece w 0 c_cell) = 0 then (((-4), w))
  else (zlet moves.toNatClampNeg fun c_moves =>
  zlet ((d_X0_sideOn w 0 c_cell)) fun x5 =>
  zlet ((d_X0_kindOn w 0 c_cell)) fun x6 =>
  zlet (d_X0_copyFrom w 1 0) fun w7 =>
  zlet (d_X0_empty w7 1 c_cell) fun w8 =>
  d_X2_reach_92 c_cell (d_X2_reach_92k c_moves x5 x6) 37 0 w8))
  else (((-1), w))))
set_option maxRecDepth 100000 in
set_option maxHeartbeats 4000000 in
theorem c_X2_reach (G : zG) (N : Nat) (hN : 47 ≤ N) (hg : zGeo G N) (w : xW) (cell : Int32) (moves : Int32) : zM yX2_reach cX2_reach 6 (some .int) 6 148 G N [.ref (zad G 0), .int cell, .int moves] w (some (d_X2_reach w cell moves).1) (d_X2_reach w cell moves).2 := by
  obtain ⟨r, u, hT⟩ := zpair (d_X2_reach w cell moves)
  rw [hT]
  dsimp only
  unfold d_X2_reach at hT
  refine zM_of zy_X2_reach.2.2.2.2.2.2.2 hg ⟨Nat.le_of_ble_eq_true rfl, by decide⟩ rfl (fun k ok hE hI => ?_)
  have old := hE.old
  refine z_iload_n ok dX2_reach_0 1 rfl ?_
  refine z_callSi ok old dX2_reach_1 [] (c_X2_isCell G N hN hg w cell) zy_X2_isCell zw_260 rfl rfl (by decide) (Nat.le_of_ble_eq_true rfl) ?_
  refine z_if_eq ok dX2_reach_4 17 (by decide) (fun c1 => ?_) (fun c1 => ?_)
  · rw [if_pos c1] at hT
    refine z_iconst ok dX2_reach_17 (x := (-1)) (by decide) ?_
    exact z_iret ok hE dX2_reach_18 rfl ⟨congrArg Prod.fst hT, congrArg Prod.snd hT⟩
  · rw [if_neg c1] at hT
    refine z_iload_n ok dX2_reach_7 2 rfl ?_
    refine z_if_lt ok dX2_reach_8 17 (by decide) (fun c2 => ?_) (fun c2 => ?_)
    · rw [if_pos c2] at hT
      refine z_iconst ok dX2_reach_17 (x := (-1)) (by decide) ?_
      exact z_iret ok hE dX2_reach_18 rfl ⟨congrArg Prod.fst hT, congrArg Prod.snd hT⟩
    · rw [if_neg c2] at hT
      refine z_iload_n ok dX2_reach_11 2 rfl ?_
      refine z_bipush ok dX2_reach_12 (x := 12) (by decide) ?_
      refine z_icmp_le ok dX2_reach_14 19 (by decide) (fun c3 => ?_) (fun c3 => ?_)
      · rw [if_pos c3] at hT
        replace hT := zlet_open hT
        obtain ⟨c_cell, hc_cell, hT⟩ := hT
        obtain ⟨lc_cell, ec_cell⟩ := zcellx (zisCell (by assumption)) hc_cell
        subst ec_cell
        refine z_aload_n ok dX2_reach_19 0 rfl ?_
        refine z_get_X2_game ok dX2_reach_20 hN zw_176 ?_
        refine z_getN_X1_board ok dX2_reach_23 0 (by decide) hN zw_89 ?_
        refine z_iload_n ok dX2_reach_26 1 rfl ?_
        refine z_callVNi ok old dX2_reach_27 [] (c_X0_hasPiece G N hN hg w 0 (by decide) c_cell (by omega)) zy_X0_hasPiece zw_265 (6 + 6 * 0) (zg_lt' hN (by decide)) (zE_board G w (by decide)) rfl rfl rfl rfl rfl (by decide) (Nat.le_of_ble_eq_true rfl) ?_
        refine z_if_ne ok dX2_reach_30 36 (by decide) (fun c4 => ?_) (fun c4 => ?_)
        · rw [if_neg c4] at hT
          replace hT := zlet_open hT
          obtain ⟨c_moves, hc_moves, hT⟩ := hT
          obtain ⟨lc_moves, ec_moves⟩ := zcellx (zidx13 (by assumption) (by assumption)) hc_moves
          subst ec_moves
          refine z_aload_n ok dX2_reach_36 0 rfl ?_
          refine z_get_X2_game ok dX2_reach_37 hN zw_176 ?_
          refine z_getN_X1_board ok dX2_reach_40 0 (by decide) hN zw_89 ?_
          refine z_iload_n ok dX2_reach_43 1 rfl ?_
          refine z_callVNi ok old dX2_reach_44 [] (c_X0_sideOn G N hN hg w 0 (by decide) c_cell (by omega)) zy_X0_sideOn zw_397 (6 + 6 * 0) (zg_lt' hN (by decide)) (zE_board G w (by decide)) rfl rfl rfl rfl rfl (by decide) (Nat.le_of_ble_eq_true rfl) ?_
          replace hT := zlet_open hT
          obtain ⟨x5, hx5, hT⟩ := hT
          rw [← hx5]
          refine z_istore_n ok dX2_reach_47 (hI 3 (by decide)) (lv' := [(3, .int x5), (0, .ref (zad G 0)), (1, .int (nI c_cell)), (2, .int (nI c_moves))]) rfl ?_
          refine z_aload_n ok dX2_reach_48 1 rfl ?_
          refine z_get_X2_game ok dX2_reach_49 hN zw_176 ?_
          refine z_getN_X1_board ok dX2_reach_52 0 (by decide) hN zw_89 ?_
          refine z_iload_n ok dX2_reach_55 2 rfl ?_
          refine z_callVNi ok old dX2_reach_56 [] (c_X0_kindOn G N hN hg w 0 (by decide) c_cell (by omega)) zy_X0_kindOn zw_419 (6 + 6 * 0) (zg_lt' hN (by decide)) (zE_board G w (by decide)) rfl rfl rfl rfl rfl (by decide) (Nat.le_of_ble_eq_true rfl) ?_
          replace hT := zlet_open hT
          obtain ⟨x6, hx6, hT⟩ := hT
          rw [← hx6]
          refine z_istore ok dX2_reach_59 (hI 4 (by decide)) (lv' := [(4, .int x6), (3, .int x5), (0, .ref (zad G 0)), (1, .int (nI c_cell)), (2, .int (nI c_moves))]) rfl ?_
          refine z_aload_n ok dX2_reach_61 2 rfl ?_
          refine z_get_X2_trial ok dX2_reach_62 hN zw_177 ?_
          refine z_getN_X1_board ok dX2_reach_65 1 (by decide) hN zw_89 ?_
          refine z_aload_n ok dX2_reach_68 2 rfl ?_
          refine z_get_X2_game ok dX2_reach_69 hN zw_176 ?_
          refine z_getN_X1_board ok dX2_reach_72 0 (by decide) hN zw_89 ?_
          refine z_callVNv ok old dX2_reach_75 [] (c_X0_copyFrom G N hN hg w 1 (by decide) 0 (by decide)) zy_X0_copyFrom zw_441 (6 + 6 * 1) (zg_lt' hN (by decide)) (zE_board G w (by decide)) rfl rfl rfl rfl rfl (by decide) (Nat.le_of_ble_eq_true rfl) ?_
          replace hT := zlet_open hT
          obtain ⟨w7, hw7, hT⟩ := hT
          rw [← hw7]
          refine z_aload_n ok dX2_reach_78 2 rfl ?_
          refine z_get_X2_trial ok dX2_reach_79 hN zw_177 ?_
          refine z_getN_X1_board ok dX2_reach_82 1 (by decide) hN zw_89 ?_
          refine z_iload_n ok dX2_reach_85 3 rfl ?_
          refine z_callVNv ok old dX2_reach_86 [] (c_X0_empty G N hN hg w7 1 (by decide) c_cell (by omega)) zy_X0_empty zw_447 (6 + 6 * 1) (zg_lt' hN (by decide)) (zE_board G w7 (by decide)) rfl rfl rfl rfl rfl (by decide) (Nat.le_of_ble_eq_true rfl) ?_
          replace hT := zlet_open hT
          obtain ⟨w8, hw8, hT⟩ := hT
          rw [← hw8]
          refine z_iconst ok dX2_reach_89 (x := 0) (by decide) ?_
          refine z_istore ok dX2_reach_90 (hI 5 (by decide)) (lv' := [(5, .int 0), (4, .int x6), (3, .int x5), (0, .ref (zad G 0)), (1, .int (nI c_cell)), (2, .int (nI c_moves))]) rfl ?_
          refine z_locs [3, 4, 5, 2, 1, 0] (lv' := [(0, .ref (zad G 0)), (1, .int (nI c_cell)), (2, .int (nI c_moves)), (3, .int x5), (4, .int x6), (5, .int 0)]) rfl ?_
          obtain ⟨kt9, hkt9⟩ : ∃ z, z = (d_X2_reach_92k c_moves x5 x6) := ⟨_, rfl⟩
          rw [← hkt9] at hT
          have hk9 : ∀ (e9_5 : Nat) (ew9 : xW), e9_5 ≤ 36 → kt9 e9_5 ew9 = (r, u) → zZ k G N ew9 133 [(0, .ref (zad G 0)), (1, .int (nI c_cell)), (2, .int (nI c_moves)), (3, .int x5), (4, .int x6), (5, .int (nI e9_5))] [] := by
            intro e9_5 ew9 q9_0 hT9
            rw [hkt9, d_X2_reach_92k] at hT9
            refine z_iconst ok dX2_reach_133 (x := 0) (by decide) ?_
            refine z_istore ok dX2_reach_134 (hI 5 (by decide)) (lv' := [(5, .int 0), (0, .ref (zad G 0)), (1, .int (nI c_cell)), (2, .int (nI c_moves)), (3, .int x5), (4, .int x6)]) rfl ?_
            refine z_locs [1, 2, 3, 4, 5, 0] (lv' := [(0, .ref (zad G 0)), (1, .int (nI c_cell)), (2, .int (nI c_moves)), (3, .int x5), (4, .int x6), (5, .int 0)]) rfl ?_
            obtain ⟨kt10, hkt10⟩ : ∃ z, z = d_X2_reach_136k := ⟨_, rfl⟩
            rw [← hkt10] at hT9
            have hk10 : ∀ (e10_5 : Nat) (ew10 : xW), e10_5 ≤ c_moves → kt10 e10_5 ew10 = (r, u) → zZ k G N ew10 155 [(0, .ref (zad G 0)), (1, .int (nI c_cell)), (2, .int (nI c_moves)), (3, .int x5), (4, .int x6), (5, .int (nI e10_5))] [] := by
              intro e10_5 ew10 q10_0 hT10
              rw [hkt10, d_X2_reach_136k] at hT10
              refine z_aload_n ok dX2_reach_155 0 rfl ?_
              refine z_callVi ok old dX2_reach_156 [] (c_X2_cellsReached G N hN hg ew10 ) zy_X2_cellsReached zw_458 0 (by omega) (zE_0 G ew10) rfl rfl rfl rfl rfl (by decide) (Nat.le_of_ble_eq_true rfl) ?_
              exact z_iret ok hE dX2_reach_159 rfl ⟨congrArg Prod.fst hT10, congrArg Prod.snd hT10⟩
            have hl10 : ∀ (n10 : Nat) (v10_5 : Nat) (vw10 : xW), c_moves < v10_5 + n10 → v10_5 ≤ c_moves → d_X2_reach_136 c_moves x5 x6 kt10 n10 v10_5 vw10 = (r, u) → zZ k G N vw10 136 [(0, .ref (zad G 0)), (1, .int (nI c_cell)), (2, .int (nI c_moves)), (3, .int x5), (4, .int x6), (5, .int (nI v10_5))] [] := by
              intro n10
              induction n10 with
              | zero =>
                intro v10_5 vw10 q10_0 q10_1
                exact absurd q10_0 (by omega)
              | succ n10 ih10 =>
                intro v10_5 vw10 q10_0 q10_1 hT10
                rw [d_X2_reach_136] at hT10
                refine z_iload ok dX2_reach_136 5 rfl ?_
                refine z_iload_n ok dX2_reach_138 2 rfl ?_
                refine z_icmp_ge_n ok dX2_reach_139 155 (by decide) v10_5 c_moves rfl rfl (by omega) (fun c11 => ?_) (fun c11 => ?_)
                · rw [if_pos c11] at hT10
                  refine z_locs [0, 1, 2, 3, 4, 5] (lv' := [(0, .ref (zad G 0)), (1, .int (nI c_cell)), (2, .int (nI c_moves)), (3, .int x5), (4, .int x6), (5, .int (nI v10_5))]) rfl ?_
                  exact hk10 v10_5 vw10 (by omega) hT10
                · rw [if_neg c11] at hT10
                  refine z_aload_n ok dX2_reach_142 0 rfl ?_
                  refine z_iload_n ok dX2_reach_143 3 rfl ?_
                  refine z_iload ok dX2_reach_144 4 rfl ?_
                  refine z_callVv ok old dX2_reach_146 [] (c_X2_makeReachWider G N hN hg vw10 x5 x6) zy_X2_makeReachWider zw_448 0 (by omega) (zE_0 G vw10) rfl rfl rfl rfl rfl (by decide) (Nat.le_of_ble_eq_true rfl) ?_
                  replace hT10 := zlet_open hT10
                  obtain ⟨w12, hw12, hT10⟩ := hT10
                  rw [← hw12]
                  refine z_iinc ok dX2_reach_149 (hI 5 (by decide)) 5 rfl (y := (nI (v10_5 + 1))) (z_incn v10_5 1) (lv' := [(5, .int (nI (v10_5 + 1))), (0, .ref (zad G 0)), (1, .int (nI c_cell)), (2, .int (nI c_moves)), (3, .int x5), (4, .int x6)]) rfl ?_
                  refine z_goto ok dX2_reach_152 136 (by decide) ?_
                  refine z_locs [1, 2, 3, 4, 5, 0] (lv' := [(0, .ref (zad G 0)), (1, .int (nI c_cell)), (2, .int (nI c_moves)), (3, .int x5), (4, .int x6), (5, .int (nI (v10_5 + 1)))]) rfl ?_
                  exact ih10 (v10_5 + 1) w12 (by omega) (by omega) hT10
            exact hl10 (c_moves + 1) 0 ew9 (by omega) (by omega) hT9
          have hl9 : ∀ (n9 : Nat) (v9_5 : Nat) (vw9 : xW), 36 < v9_5 + n9 → v9_5 ≤ 36 → d_X2_reach_92 c_cell kt9 n9 v9_5 vw9 = (r, u) → zZ k G N vw9 92 [(0, .ref (zad G 0)), (1, .int (nI c_cell)), (2, .int (nI c_moves)), (3, .int x5), (4, .int x6), (5, .int (nI v9_5))] [] := by
            intro n9
            induction n9 with
            | zero =>
              intro v9_5 vw9 q9_0 q9_1
              exact absurd q9_0 (by omega)
            | succ n9 ih9 =>
              intro v9_5 vw9 q9_0 q9_1 hT9
              rw [d_X2_reach_92] at hT9
              refine z_iload ok dX2_reach_92 5 rfl ?_
              refine z_bipush ok dX2_reach_94 (x := 36) (by decide) ?_
              refine z_icmp_ge_n ok dX2_reach_96 133 (by decide) v9_5 36 rfl rfl (by omega) (fun c13 => ?_) (fun c13 => ?_)
              · rw [if_pos c13] at hT9
                refine z_locs [0, 1, 2, 3, 4, 5] (lv' := [(0, .ref (zad G 0)), (1, .int (nI c_cell)), (2, .int (nI c_moves)), (3, .int x5), (4, .int x6), (5, .int (nI v9_5))]) rfl ?_
                exact hk9 v9_5 vw9 (by omega) hT9
              · rw [if_neg c13] at hT9
                refine z_aload_n ok dX2_reach_99 0 rfl ?_
                refine z_get_X2_springLeft ok dX2_reach_100 hN zw_182 ?_
                refine z_iload ok dX2_reach_103 5 rfl ?_
                refine z_iload ok dX2_reach_105 5 rfl ?_
                refine z_iload_n ok dX2_reach_107 1 rfl ?_
                replace hT9 := zlet_open hT9
                obtain ⟨x14, hx14, hT9⟩ := hT9
                have hsx14 := hx14.symm
                have hJx14 : zZ k G N vw9 126 [(0, .ref (zad G 0)), (1, .int (nI c_cell)), (2, .int (nI c_moves)), (3, .int x5), (4, .int x6), (5, .int (nI v9_5))] [.int x14, .int (nI v9_5), .ref (zad G (zpr vw9 5))] := by
                  refine z_rst ok dX2_reach_126 vw9 5 hN v9_5 rfl (by omega) ?_
                  replace hT9 := zlet_open hT9
                  obtain ⟨w15, hw15, hT9⟩ := hT9
                  rw [← hw15]
                  refine z_iinc ok dX2_reach_127 (hI 5 (by decide)) 5 rfl (y := (nI (v9_5 + 1))) (z_incn v9_5 1) (lv' := [(5, .int (nI (v9_5 + 1))), (0, .ref (zad G 0)), (1, .int (nI c_cell)), (2, .int (nI c_moves)), (3, .int x5), (4, .int x6)]) rfl ?_
                  refine z_goto ok dX2_reach_130 92 (by decide) ?_
                  refine z_locs [1, 2, 3, 4, 5, 0] (lv' := [(0, .ref (zad G 0)), (1, .int (nI c_cell)), (2, .int (nI c_moves)), (3, .int x5), (4, .int x6), (5, .int (nI (v9_5 + 1)))]) rfl ?_
                  exact ih9 (v9_5 + 1) w15 (by omega) (by omega) hT9
                refine z_icmp_ne_n ok dX2_reach_108 125 (by decide) v9_5 c_cell rfl rfl (by omega) (fun c16 => ?_) (fun c16 => ?_)
                · rw [if_neg c16] at hsx14
                  refine z_iconst ok dX2_reach_125 (x := (-1)) (by decide) ?_
                  rw [← hsx14] at hJx14
                  refine z_locs [0, 1, 2, 3, 4, 5] (lv' := [(0, .ref (zad G 0)), (1, .int (nI c_cell)), (2, .int (nI c_moves)), (3, .int x5), (4, .int x6), (5, .int (nI v9_5))]) rfl ?_
                  exact hJx14
                · rw [if_pos c16] at hsx14
                  refine z_aload_n ok dX2_reach_111 0 rfl ?_
                  refine z_get_X2_game ok dX2_reach_112 hN zw_176 ?_
                  refine z_getN_X1_board ok dX2_reach_115 0 (by decide) hN zw_89 ?_
                  refine z_iload_n ok dX2_reach_118 1 rfl ?_
                  refine z_callVNi ok old dX2_reach_119 [.int (nI v9_5), .ref (zad G (zpr vw9 5))] (c_X0_springOn G N hN hg vw9 0 (by decide) c_cell (by omega)) zy_X0_springOn zw_420 (6 + 6 * 0) (zg_lt' hN (by decide)) (zE_board G vw9 (by decide)) rfl rfl rfl rfl rfl (by decide) (Nat.le_of_ble_eq_true rfl) ?_
                  refine z_goto ok dX2_reach_122 126 (by decide) ?_
                  rw [← hsx14] at hJx14
                  refine z_locs [0, 1, 2, 3, 4, 5] (lv' := [(0, .ref (zad G 0)), (1, .int (nI c_cell)), (2, .int (nI c_moves)), (3, .int x5), (4, .int x6), (5, .int (nI v9_5))]) rfl ?_
                  exact hJx14
          exact hl9 37 0 w8 (by omega) (by omega) hT
        · rw [if_pos c4] at hT
          refine z_bipush ok dX2_reach_33 (x := (-4)) (by decide) ?_
          exact z_iret ok hE dX2_reach_35 rfl ⟨congrArg Prod.fst hT, congrArg Prod.snd hT⟩
      · rw [if_neg c3] at hT
        refine z_iconst ok dX2_reach_17 (x := (-1)) (by decide) ?_
        exact z_iret ok hE dX2_reach_18 rfl ⟨congrArg Prod.fst hT, congrArg Prod.snd hT⟩

def d_X2_gamesBehind (w : xW) (f : Nat) (t : Nat) : Int32 × xW :=
  zlet (d_X1_copyFrom w 1 0) fun w1 =>
  zlet (d_X1_makeMove w1 1 f t) fun p2 =>
  if (d_X1_isOver p2.2 1) = 0 then (((if 1 < (d_X0_movesOf p2.2 1 (xg p2.2 1 144)) then (d_X0_movesOf p2.2 1 (xg p2.2 1 144)) else 1), p2.2))
  else ((1, p2.2))
set_option maxRecDepth 100000 in
set_option maxHeartbeats 4000000 in
theorem c_X2_gamesBehind (G : zG) (N : Nat) (hN : 47 ≤ N) (hg : zGeo G N) (w : xW) (f : Nat) (h_f : f < 36) (t : Nat) (h_t : t < 36) : zM yX2_gamesBehind cX2_gamesBehind 3 (some .int) 5 127 G N [.ref (zad G 0), .int (nI f), .int (nI t)] w (some (d_X2_gamesBehind w f t).1) (d_X2_gamesBehind w f t).2 := by
  obtain ⟨r, u, hT⟩ := zpair (d_X2_gamesBehind w f t)
  rw [hT]
  dsimp only
  unfold d_X2_gamesBehind at hT
  refine zM_of zy_X2_gamesBehind.2.2.2.2.2.2.2 hg ⟨Nat.le_of_ble_eq_true rfl, by decide⟩ rfl (fun k ok hE hI => ?_)
  have old := hE.old
  refine z_aload_n ok dX2_gamesBehind_0 0 rfl ?_
  refine z_get_X2_trial ok dX2_gamesBehind_1 hN zw_177 ?_
  refine z_aload_n ok dX2_gamesBehind_4 0 rfl ?_
  refine z_get_X2_game ok dX2_gamesBehind_5 hN zw_176 ?_
  refine z_callVNv ok old dX2_gamesBehind_8 [] (c_X1_copyFrom G N hN hg w 1 (by decide) 0 (by decide)) zy_X1_copyFrom zw_214 (5 + 6 * 1) (zg_lt hN (by decide)) (zE_game G w (by decide)) rfl rfl rfl rfl rfl (by decide) (Nat.le_of_ble_eq_true rfl) ?_
  replace hT := zlet_open hT
  obtain ⟨w1, hw1, hT⟩ := hT
  rw [← hw1]
  refine z_aload_n ok dX2_gamesBehind_11 0 rfl ?_
  refine z_get_X2_trial ok dX2_gamesBehind_12 hN zw_177 ?_
  refine z_iload_n ok dX2_gamesBehind_15 1 rfl ?_
  refine z_iload_n ok dX2_gamesBehind_16 2 rfl ?_
  refine z_callVNi ok old dX2_gamesBehind_17 [] (c_X1_makeMove G N hN hg w1 1 (by decide) f (by omega) t (by omega)) zy_X1_makeMove zw_344 (5 + 6 * 1) (zg_lt hN (by decide)) (zE_game G w1 (by decide)) rfl rfl rfl rfl rfl (by decide) (Nat.le_of_ble_eq_true rfl) ?_
  replace hT := zlet_open hT
  obtain ⟨p2, hp2, hT⟩ := hT
  rw [← hp2]
  refine z_pop ok dX2_gamesBehind_20 rfl ?_
  refine z_aload_n ok dX2_gamesBehind_21 0 rfl ?_
  refine z_get_X2_trial ok dX2_gamesBehind_22 hN zw_177 ?_
  refine z_callVNi ok old dX2_gamesBehind_25 [] (c_X1_isOver G N hN hg p2.2 1 (by decide)) zy_X1_isOver zw_261 (5 + 6 * 1) (zg_lt hN (by decide)) (zE_game G p2.2 (by decide)) rfl rfl rfl rfl rfl (by decide) (Nat.le_of_ble_eq_true rfl) ?_
  refine z_if_eq ok dX2_gamesBehind_28 35 (by decide) (fun c3 => ?_) (fun c3 => ?_)
  · rw [if_pos c3] at hT
    refine z_iconst ok dX2_gamesBehind_35 (x := 1) (by decide) ?_
    refine z_aload_n ok dX2_gamesBehind_36 0 rfl ?_
    refine z_get_X2_trial ok dX2_gamesBehind_37 hN zw_177 ?_
    refine z_getN_X1_board ok dX2_gamesBehind_40 1 (by decide) hN zw_89 ?_
    refine z_aload_n ok dX2_gamesBehind_43 0 rfl ?_
    refine z_get_X2_trial ok dX2_gamesBehind_44 hN zw_177 ?_
    refine z_getN_X1_mover ok dX2_gamesBehind_47 1 (by decide) hN zw_95 ?_
    refine z_callVNi ok old dX2_gamesBehind_50 [.int 1] (c_X0_movesOf G N hN hg p2.2 1 (by decide) (xg p2.2 1 144)) zy_X0_movesOf zw_392 (6 + 6 * 1) (zg_lt' hN (by decide)) (zE_board G p2.2 (by decide)) rfl rfl rfl rfl rfl (by decide) (Nat.le_of_ble_eq_true rfl) ?_
    refine z_max ok dX2_gamesBehind_53 zw_457 zw_335 zw_52 zw_336 ⟨by decide, Nat.le_of_ble_eq_true rfl⟩ ?_
    exact z_iret ok hE dX2_gamesBehind_56 rfl ⟨congrArg Prod.fst hT, congrArg Prod.snd hT⟩
  · rw [if_neg c3] at hT
    refine z_iconst ok dX2_gamesBehind_31 (x := 1) (by decide) ?_
    refine z_goto ok dX2_gamesBehind_32 56 (by decide) ?_
    exact z_iret ok hE dX2_gamesBehind_56 rfl ⟨congrArg Prod.fst hT, congrArg Prod.snd hT⟩

def d_X2_replies_4k  (e1_1 : Int32) (e1_2 : Nat) (ew1 : xW) : Int32 × xW :=
  (e1_1, ew1)
def d_X2_replies_12 (v1_2 : Nat) (kt3 : Int32 → Nat → xW → (Int32 × xW)) : Nat → Int32 → Nat → xW → Int32 × xW
  | 0, _, _, _ => default
  | n3 + 1, v3_1, v3_3, vw3 => if 36 ≤ v3_3 then (kt3 v3_1 v3_3 vw3)
  else (if (d_X1_reasonAgainst vw3 0 v1_2 v3_3) = 0 then (zlet (d_X2_gamesBehind vw3 v1_2 v3_3) fun p6 =>
  zlet ((v3_1 + p6.1)) fun x7 =>
  d_X2_replies_12 v1_2 kt3 n3 x7 (v3_3 + 1) p6.2)
  else (d_X2_replies_12 v1_2 kt3 n3 v3_1 (v3_3 + 1) vw3))
def d_X2_replies_4  (kt1 : Int32 → Nat → xW → (Int32 × xW)) : Nat → Int32 → Nat → xW → Int32 × xW
  | 0, _, _, _ => default
  | n1 + 1, v1_1, v1_2, vw1 => if 36 ≤ v1_2 then (kt1 v1_1 v1_2 vw1)
  else (d_X2_replies_12 v1_2 (fun e3_1 e3_3 ew3 => (d_X2_replies_4  kt1 n1 e3_1 (v1_2 + 1) ew3)) 37 v1_1 0 vw1)
def d_X2_replies (w : xW)  : Int32 × xW :=
  d_X2_replies_4  d_X2_replies_4k 37 0 0 w
set_option maxRecDepth 100000 in
set_option maxHeartbeats 4000000 in
theorem c_X2_replies (G : zG) (N : Nat) (hN : 47 ≤ N) (hg : zGeo G N) (w : xW) : zM yX2_replies cX2_replies 4 (some .int) 6 149 G N [.ref (zad G 0)] w (some (d_X2_replies w).1) (d_X2_replies w).2 := by
  obtain ⟨r, u, hT⟩ := zpair (d_X2_replies w)
  rw [hT]
  dsimp only
  unfold d_X2_replies at hT
  refine zM_of zy_X2_replies.2.2.2.2.2.2.2 hg ⟨Nat.le_of_ble_eq_true rfl, by decide⟩ rfl (fun k ok hE hI => ?_)
  have old := hE.old
  refine z_iconst ok dX2_replies_0 (x := 0) (by decide) ?_
  refine z_istore_n ok dX2_replies_1 (hI 1 (by decide)) (lv' := [(1, .int 0), (0, .ref (zad G 0))]) rfl ?_
  refine z_iconst ok dX2_replies_2 (x := 0) (by decide) ?_
  refine z_istore_n ok dX2_replies_3 (hI 2 (by decide)) (lv' := [(2, .int 0), (1, .int 0), (0, .ref (zad G 0))]) rfl ?_
  refine z_locs [2, 1, 0] (lv' := [(0, .ref (zad G 0)), (1, .int 0), (2, .int 0)]) rfl ?_
  obtain ⟨kt1, hkt1⟩ : ∃ z, z = d_X2_replies_4k := ⟨_, rfl⟩
  rw [← hkt1] at hT
  have hk1 : ∀ (e1_1 : Int32) (e1_2 : Nat) (ew1 : xW), e1_2 ≤ 36 → kt1 e1_1 e1_2 ew1 = (r, u) → zZ k G N ew1 51 [(0, .ref (zad G 0)), (1, .int e1_1), (2, .int (nI e1_2))] [] := by
    intro e1_1 e1_2 ew1 q1_0 hT1
    rw [hkt1, d_X2_replies_4k] at hT1
    refine z_iload_n ok dX2_replies_51 1 rfl ?_
    exact z_iret ok hE dX2_replies_52 rfl ⟨congrArg Prod.fst hT1, congrArg Prod.snd hT1⟩
  have hl1 : ∀ (n1 : Nat) (v1_1 : Int32) (v1_2 : Nat) (vw1 : xW), 36 < v1_2 + n1 → v1_2 ≤ 36 → d_X2_replies_4  kt1 n1 v1_1 v1_2 vw1 = (r, u) → zZ k G N vw1 4 [(0, .ref (zad G 0)), (1, .int v1_1), (2, .int (nI v1_2))] [] := by
    intro n1
    induction n1 with
    | zero =>
      intro v1_1 v1_2 vw1 q1_0 q1_1
      exact absurd q1_0 (by omega)
    | succ n1 ih1 =>
      intro v1_1 v1_2 vw1 q1_0 q1_1 hT1
      rw [d_X2_replies_4] at hT1
      refine z_iload_n ok dX2_replies_4 2 rfl ?_
      refine z_bipush ok dX2_replies_5 (x := 36) (by decide) ?_
      refine z_icmp_ge_n ok dX2_replies_7 51 (by decide) v1_2 36 rfl rfl (by omega) (fun c2 => ?_) (fun c2 => ?_)
      · rw [if_pos c2] at hT1
        refine z_locs [0, 1, 2] (lv' := [(0, .ref (zad G 0)), (1, .int v1_1), (2, .int (nI v1_2))]) rfl ?_
        exact hk1 v1_1 v1_2 vw1 (by omega) hT1
      · rw [if_neg c2] at hT1
        refine z_iconst ok dX2_replies_10 (x := 0) (by decide) ?_
        refine z_istore_n ok dX2_replies_11 (hI 3 (by decide)) (lv' := [(3, .int 0), (0, .ref (zad G 0)), (1, .int v1_1), (2, .int (nI v1_2))]) rfl ?_
        refine z_locs [1, 2, 3, 0] (lv' := [(0, .ref (zad G 0)), (1, .int v1_1), (2, .int (nI v1_2)), (3, .int 0)]) rfl ?_
        obtain ⟨kt3, hkt3⟩ : ∃ z, z = ((fun e3_1 e3_3 ew3 => (d_X2_replies_4  kt1 n1 e3_1 (v1_2 + 1) ew3)) : Int32 → Nat → xW → (Int32 × xW)) := ⟨_, rfl⟩
        rw [← hkt3] at hT1
        have hk3 : ∀ (e3_1 : Int32) (e3_3 : Nat) (ew3 : xW), e3_3 ≤ 36 → kt3 e3_1 e3_3 ew3 = (r, u) → zZ k G N ew3 45 [(0, .ref (zad G 0)), (1, .int e3_1), (2, .int (nI v1_2)), (3, .int (nI e3_3))] [] := by
          intro e3_1 e3_3 ew3 q3_0 hT3
          rw [hkt3] at hT3
          dsimp only at hT3
          refine z_iinc ok dX2_replies_45 (hI 2 (by decide)) 2 rfl (y := (nI (v1_2 + 1))) (z_incn v1_2 1) (lv' := [(2, .int (nI (v1_2 + 1))), (0, .ref (zad G 0)), (1, .int e3_1), (3, .int (nI e3_3))]) rfl ?_
          refine z_goto ok dX2_replies_48 4 (by decide) ?_
          refine z_locs [1, 2, 0] (lv' := [(0, .ref (zad G 0)), (1, .int e3_1), (2, .int (nI (v1_2 + 1)))]) rfl ?_
          exact ih1 e3_1 (v1_2 + 1) ew3 (by omega) (by omega) hT3
        have hl3 : ∀ (n3 : Nat) (v3_1 : Int32) (v3_3 : Nat) (vw3 : xW), 36 < v3_3 + n3 → v3_3 ≤ 36 → d_X2_replies_12 v1_2 kt3 n3 v3_1 v3_3 vw3 = (r, u) → zZ k G N vw3 12 [(0, .ref (zad G 0)), (1, .int v3_1), (2, .int (nI v1_2)), (3, .int (nI v3_3))] [] := by
          intro n3
          induction n3 with
          | zero =>
            intro v3_1 v3_3 vw3 q3_0 q3_1
            exact absurd q3_0 (by omega)
          | succ n3 ih3 =>
            intro v3_1 v3_3 vw3 q3_0 q3_1 hT3
            rw [d_X2_replies_12] at hT3
            refine z_iload_n ok dX2_replies_12 3 rfl ?_
            refine z_bipush ok dX2_replies_13 (x := 36) (by decide) ?_
            refine z_icmp_ge_n ok dX2_replies_15 45 (by decide) v3_3 36 rfl rfl (by omega) (fun c4 => ?_) (fun c4 => ?_)
            · rw [if_pos c4] at hT3
              refine z_locs [0, 1, 2, 3] (lv' := [(0, .ref (zad G 0)), (1, .int v3_1), (2, .int (nI v1_2)), (3, .int (nI v3_3))]) rfl ?_
              exact hk3 v3_1 v3_3 vw3 (by omega) hT3
            · rw [if_neg c4] at hT3
              refine z_aload_n ok dX2_replies_18 0 rfl ?_
              refine z_get_X2_game ok dX2_replies_19 hN zw_176 ?_
              refine z_iload_n ok dX2_replies_22 2 rfl ?_
              refine z_iload_n ok dX2_replies_23 3 rfl ?_
              refine z_callVNi ok old dX2_replies_24 [] (c_X1_reasonAgainst G N hN hg vw3 0 (by decide) v1_2 (by omega) v3_3 (by omega)) zy_X1_reasonAgainst zw_316 (5 + 6 * 0) (zg_lt hN (by decide)) (zE_game G vw3 (by decide)) rfl rfl rfl rfl rfl (by decide) (Nat.le_of_ble_eq_true rfl) ?_
              refine z_if_ne ok dX2_replies_27 39 (by decide) (fun c5 => ?_) (fun c5 => ?_)
              · rw [if_neg c5] at hT3
                refine z_iinc ok dX2_replies_39 (hI 3 (by decide)) 3 rfl (y := (nI (v3_3 + 1))) (z_incn v3_3 1) (lv' := [(3, .int (nI (v3_3 + 1))), (0, .ref (zad G 0)), (1, .int v3_1), (2, .int (nI v1_2))]) rfl ?_
                refine z_goto ok dX2_replies_42 12 (by decide) ?_
                refine z_locs [1, 2, 3, 0] (lv' := [(0, .ref (zad G 0)), (1, .int v3_1), (2, .int (nI v1_2)), (3, .int (nI (v3_3 + 1)))]) rfl ?_
                exact ih3 v3_1 (v3_3 + 1) vw3 (by omega) (by omega) hT3
              · rw [if_pos c5] at hT3
                refine z_iload_n ok dX2_replies_30 1 rfl ?_
                refine z_aload_n ok dX2_replies_31 0 rfl ?_
                refine z_iload_n ok dX2_replies_32 2 rfl ?_
                refine z_iload_n ok dX2_replies_33 3 rfl ?_
                refine z_callVi ok old dX2_replies_34 [.int v3_1] (c_X2_gamesBehind G N hN hg vw3 v1_2 (by omega) v3_3 (by omega)) zy_X2_gamesBehind zw_540 0 (by omega) (zE_0 G vw3) rfl rfl rfl rfl rfl (by decide) (Nat.le_of_ble_eq_true rfl) ?_
                replace hT3 := zlet_open hT3
                obtain ⟨p6, hp6, hT3⟩ := hT3
                rw [← hp6]
                refine z_iadd ok dX2_replies_37 ?_
                replace hT3 := zlet_open hT3
                obtain ⟨x7, hx7, hT3⟩ := hT3
                rw [← hx7]
                refine z_istore_n ok dX2_replies_38 (hI 1 (by decide)) (lv' := [(1, .int x7), (0, .ref (zad G 0)), (2, .int (nI v1_2)), (3, .int (nI v3_3))]) rfl ?_
                refine z_iinc ok dX2_replies_39 (hI 3 (by decide)) 3 rfl (y := (nI (v3_3 + 1))) (z_incn v3_3 1) (lv' := [(3, .int (nI (v3_3 + 1))), (1, .int x7), (0, .ref (zad G 0)), (2, .int (nI v1_2))]) rfl ?_
                refine z_goto ok dX2_replies_42 12 (by decide) ?_
                refine z_locs [2, 1, 3, 0] (lv' := [(0, .ref (zad G 0)), (1, .int x7), (2, .int (nI v1_2)), (3, .int (nI (v3_3 + 1)))]) rfl ?_
                exact ih3 x7 (v3_3 + 1) p6.2 (by omega) (by omega) hT3
        exact hl3 37 v1_1 0 vw1 (by omega) (by omega) hT1
  exact hl1 37 0 0 w (by omega) (by omega) hT

def d_X2_worthOf (w : xW) (f : Nat) (t : Nat) : Int32 × xW :=
  zlet (d_X1_copyFrom w 1 0) fun w1 =>
  zlet (d_X1_carryOut w1 1 f t) fun p2 =>
  zlet ((xg p2.2 0 144)) fun x3 =>
  zlet (((d_X0_springsOf p2.2 1 x3) - (d_X0_springsOf p2.2 1 (1 - x3)))) fun x4 =>
  if (d_X1_isOver p2.2 1) = 0 then ((x4, p2.2))
  else (((x4 + 10000), p2.2))
set_option maxRecDepth 100000 in
set_option maxHeartbeats 4000000 in
theorem c_X2_worthOf (G : zG) (N : Nat) (hN : 47 ≤ N) (hg : zGeo G N) (w : xW) (f : Nat) (h_f : f < 36) (t : Nat) (h_t : t < 36) : zM yX2_worthOf cX2_worthOf 5 (some .int) 4 104 G N [.ref (zad G 0), .int (nI f), .int (nI t)] w (some (d_X2_worthOf w f t).1) (d_X2_worthOf w f t).2 := by
  obtain ⟨r, u, hT⟩ := zpair (d_X2_worthOf w f t)
  rw [hT]
  dsimp only
  unfold d_X2_worthOf at hT
  refine zM_of zy_X2_worthOf.2.2.2.2.2.2.2 hg ⟨Nat.le_of_ble_eq_true rfl, by decide⟩ rfl (fun k ok hE hI => ?_)
  have old := hE.old
  refine z_aload_n ok dX2_worthOf_0 0 rfl ?_
  refine z_get_X2_trial ok dX2_worthOf_1 hN zw_177 ?_
  refine z_aload_n ok dX2_worthOf_4 0 rfl ?_
  refine z_get_X2_game ok dX2_worthOf_5 hN zw_176 ?_
  refine z_callVNv ok old dX2_worthOf_8 [] (c_X1_copyFrom G N hN hg w 1 (by decide) 0 (by decide)) zy_X1_copyFrom zw_214 (5 + 6 * 1) (zg_lt hN (by decide)) (zE_game G w (by decide)) rfl rfl rfl rfl rfl (by decide) (Nat.le_of_ble_eq_true rfl) ?_
  replace hT := zlet_open hT
  obtain ⟨w1, hw1, hT⟩ := hT
  rw [← hw1]
  refine z_aload_n ok dX2_worthOf_11 0 rfl ?_
  refine z_get_X2_trial ok dX2_worthOf_12 hN zw_177 ?_
  refine z_iload_n ok dX2_worthOf_15 1 rfl ?_
  refine z_iload_n ok dX2_worthOf_16 2 rfl ?_
  refine z_callVNi ok old dX2_worthOf_17 [] (c_X1_carryOut G N hN hg w1 1 (by decide) f (by omega) t (by omega)) zy_X1_carryOut zw_552 (5 + 6 * 1) (zg_lt hN (by decide)) (zE_game G w1 (by decide)) rfl rfl rfl rfl rfl (by decide) (Nat.le_of_ble_eq_true rfl) ?_
  replace hT := zlet_open hT
  obtain ⟨p2, hp2, hT⟩ := hT
  rw [← hp2]
  refine z_pop ok dX2_worthOf_20 rfl ?_
  refine z_aload_n ok dX2_worthOf_21 0 rfl ?_
  refine z_get_X2_game ok dX2_worthOf_22 hN zw_176 ?_
  refine z_getN_X1_mover ok dX2_worthOf_25 0 (by decide) hN zw_95 ?_
  replace hT := zlet_open hT
  obtain ⟨x3, hx3, hT⟩ := hT
  rw [← hx3]
  refine z_istore_n ok dX2_worthOf_28 (hI 3 (by decide)) (lv' := [(3, .int x3), (0, .ref (zad G 0)), (1, .int (nI f)), (2, .int (nI t))]) rfl ?_
  refine z_aload_n ok dX2_worthOf_29 1 rfl ?_
  refine z_get_X2_trial ok dX2_worthOf_30 hN zw_177 ?_
  refine z_getN_X1_board ok dX2_worthOf_33 1 (by decide) hN zw_89 ?_
  refine z_iload_n ok dX2_worthOf_36 0 rfl ?_
  refine z_callVNi ok old dX2_worthOf_37 [] (c_X0_springsOf G N hN hg p2.2 1 (by decide) x3) zy_X0_springsOf zw_300 (6 + 6 * 1) (zg_lt' hN (by decide)) (zE_board G p2.2 (by decide)) rfl rfl rfl rfl rfl (by decide) (Nat.le_of_ble_eq_true rfl) ?_
  refine z_aload_n ok dX2_worthOf_40 1 rfl ?_
  refine z_get_X2_trial ok dX2_worthOf_41 hN zw_177 ?_
  refine z_getN_X1_board ok dX2_worthOf_44 1 (by decide) hN zw_89 ?_
  refine z_iconst ok dX2_worthOf_47 (x := 1) (by decide) ?_
  refine z_iload_n ok dX2_worthOf_48 0 rfl ?_
  refine z_isub ok dX2_worthOf_49 ?_
  refine z_callVNi ok old dX2_worthOf_50 [.int (d_X0_springsOf p2.2 1 x3)] (c_X0_springsOf G N hN hg p2.2 1 (by decide) (1 - x3)) zy_X0_springsOf zw_300 (6 + 6 * 1) (zg_lt' hN (by decide)) (zE_board G p2.2 (by decide)) rfl rfl rfl rfl rfl (by decide) (Nat.le_of_ble_eq_true rfl) ?_
  refine z_isub ok dX2_worthOf_53 ?_
  replace hT := zlet_open hT
  obtain ⟨x4, hx4, hT⟩ := hT
  rw [← hx4]
  refine z_istore ok dX2_worthOf_54 (hI 4 (by decide)) (lv' := [(4, .int x4), (3, .int x3), (0, .ref (zad G 0)), (1, .int (nI f)), (2, .int (nI t))]) rfl ?_
  refine z_aload_n ok dX2_worthOf_56 2 rfl ?_
  refine z_get_X2_trial ok dX2_worthOf_57 hN zw_177 ?_
  refine z_callVNi ok old dX2_worthOf_60 [] (c_X1_isOver G N hN hg p2.2 1 (by decide)) zy_X1_isOver zw_261 (5 + 6 * 1) (zg_lt hN (by decide)) (zE_game G p2.2 (by decide)) rfl rfl rfl rfl rfl (by decide) (Nat.le_of_ble_eq_true rfl) ?_
  refine z_if_eq ok dX2_worthOf_63 75 (by decide) (fun c5 => ?_) (fun c5 => ?_)
  · rw [if_pos c5] at hT
    refine z_iload ok dX2_worthOf_75 0 rfl ?_
    exact z_iret ok hE dX2_worthOf_77 rfl ⟨congrArg Prod.fst hT, congrArg Prod.snd hT⟩
  · rw [if_neg c5] at hT
    refine z_iload ok dX2_worthOf_66 0 rfl ?_
    refine z_sipush ok dX2_worthOf_68 (x := 10000) (by decide +kernel) ?_
    refine z_iadd ok dX2_worthOf_71 ?_
    refine z_goto ok dX2_worthOf_72 77 (by decide) ?_
    exact z_iret ok hE dX2_worthOf_77 rfl ⟨congrArg Prod.fst hT, congrArg Prod.snd hT⟩

def d_X2_best_7k  (e1_1 : Int32) (e1_2 : Int32) (e1_3 : Nat) (ew1 : xW) : Int32 × xW :=
  (e1_1, ew1)
def d_X2_best_16 (v1_3 : Nat) (kt3 : Int32 → Int32 → Nat → xW → (Int32 × xW)) : Nat → Int32 → Int32 → Nat → xW → Int32 × xW
  | 0, _, _, _, _ => default
  | n3 + 1, v3_1, v3_2, v3_4, vw3 => if 36 ≤ v3_4 then (kt3 v3_1 v3_2 v3_4 vw3)
  else (if (d_X1_reasonAgainst vw3 0 v1_3 v3_4) = 0 then (zlet (d_X2_worthOf vw3 v1_3 v3_4) fun p6 =>
  zlet (if v3_1 = (-4) then (((nI ((36 * v1_3) + v3_4)), p6.1))
  else (if p6.1 ≤ v3_2 then ((v3_1, v3_2))
  else (((nI ((36 * v1_3) + v3_4)), p6.1))) : Int32 × Int32) fun p7 =>
  d_X2_best_16 v1_3 kt3 n3 p7.1 p7.2 (v3_4 + 1) p6.2)
  else (d_X2_best_16 v1_3 kt3 n3 v3_1 v3_2 (v3_4 + 1) vw3))
def d_X2_best_7  (kt1 : Int32 → Int32 → Nat → xW → (Int32 × xW)) : Nat → Int32 → Int32 → Nat → xW → Int32 × xW
  | 0, _, _, _, _ => default
  | n1 + 1, v1_1, v1_2, v1_3, vw1 => if 36 ≤ v1_3 then (kt1 v1_1 v1_2 v1_3 vw1)
  else (d_X2_best_16 v1_3 (fun e3_1 e3_2 e3_4 ew3 => (d_X2_best_7  kt1 n1 e3_1 e3_2 (v1_3 + 1) ew3)) 37 v1_1 v1_2 0 vw1)
def d_X2_best (w : xW)  : Int32 × xW :=
  d_X2_best_7  d_X2_best_7k 37 (-4) 0 0 w
set_option maxRecDepth 100000 in
set_option maxHeartbeats 4000000 in
theorem c_X2_best (G : zG) (N : Nat) (hN : 47 ≤ N) (hg : zGeo G N) (w : xW) : zM yX2_best cX2_best 6 (some .int) 5 128 G N [.ref (zad G 0)] w (some (d_X2_best w).1) (d_X2_best w).2 := by
  obtain ⟨r, u, hT⟩ := zpair (d_X2_best w)
  rw [hT]
  dsimp only
  unfold d_X2_best at hT
  refine zM_of zy_X2_best.2.2.2.2.2.2.2 hg ⟨Nat.le_of_ble_eq_true rfl, by decide⟩ rfl (fun k ok hE hI => ?_)
  have old := hE.old
  refine z_bipush ok dX2_best_0 (x := (-4)) (by decide) ?_
  refine z_istore_n ok dX2_best_2 (hI 1 (by decide)) (lv' := [(1, .int (-4)), (0, .ref (zad G 0))]) rfl ?_
  refine z_iconst ok dX2_best_3 (x := 0) (by decide) ?_
  refine z_istore_n ok dX2_best_4 (hI 2 (by decide)) (lv' := [(2, .int 0), (1, .int (-4)), (0, .ref (zad G 0))]) rfl ?_
  refine z_iconst ok dX2_best_5 (x := 0) (by decide) ?_
  refine z_istore_n ok dX2_best_6 (hI 3 (by decide)) (lv' := [(3, .int 0), (2, .int 0), (1, .int (-4)), (0, .ref (zad G 0))]) rfl ?_
  refine z_locs [3, 2, 1, 0] (lv' := [(0, .ref (zad G 0)), (1, .int (-4)), (2, .int 0), (3, .int 0)]) rfl ?_
  obtain ⟨kt1, hkt1⟩ : ∃ z, z = d_X2_best_7k := ⟨_, rfl⟩
  rw [← hkt1] at hT
  have hk1 : ∀ (e1_1 : Int32) (e1_2 : Int32) (e1_3 : Nat) (ew1 : xW), e1_3 ≤ 36 → kt1 e1_1 e1_2 e1_3 ew1 = (r, u) → zZ k G N ew1 80 [(0, .ref (zad G 0)), (1, .int e1_1), (2, .int e1_2), (3, .int (nI e1_3))] [] := by
    intro e1_1 e1_2 e1_3 ew1 q1_0 hT1
    rw [hkt1, d_X2_best_7k] at hT1
    refine z_iload_n ok dX2_best_80 1 rfl ?_
    exact z_iret ok hE dX2_best_81 rfl ⟨congrArg Prod.fst hT1, congrArg Prod.snd hT1⟩
  have hl1 : ∀ (n1 : Nat) (v1_1 : Int32) (v1_2 : Int32) (v1_3 : Nat) (vw1 : xW), 36 < v1_3 + n1 → v1_3 ≤ 36 → d_X2_best_7  kt1 n1 v1_1 v1_2 v1_3 vw1 = (r, u) → zZ k G N vw1 7 [(0, .ref (zad G 0)), (1, .int v1_1), (2, .int v1_2), (3, .int (nI v1_3))] [] := by
    intro n1
    induction n1 with
    | zero =>
      intro v1_1 v1_2 v1_3 vw1 q1_0 q1_1
      exact absurd q1_0 (by omega)
    | succ n1 ih1 =>
      intro v1_1 v1_2 v1_3 vw1 q1_0 q1_1 hT1
      rw [d_X2_best_7] at hT1
      refine z_iload_n ok dX2_best_7 3 rfl ?_
      refine z_bipush ok dX2_best_8 (x := 36) (by decide) ?_
      refine z_icmp_ge_n ok dX2_best_10 80 (by decide) v1_3 36 rfl rfl (by omega) (fun c2 => ?_) (fun c2 => ?_)
      · rw [if_pos c2] at hT1
        refine z_locs [0, 1, 2, 3] (lv' := [(0, .ref (zad G 0)), (1, .int v1_1), (2, .int v1_2), (3, .int (nI v1_3))]) rfl ?_
        exact hk1 v1_1 v1_2 v1_3 vw1 (by omega) hT1
      · rw [if_neg c2] at hT1
        refine z_iconst ok dX2_best_13 (x := 0) (by decide) ?_
        refine z_istore ok dX2_best_14 (hI 4 (by decide)) (lv' := [(4, .int 0), (0, .ref (zad G 0)), (1, .int v1_1), (2, .int v1_2), (3, .int (nI v1_3))]) rfl ?_
        refine z_locs [1, 2, 3, 4, 0] (lv' := [(0, .ref (zad G 0)), (1, .int v1_1), (2, .int v1_2), (3, .int (nI v1_3)), (4, .int 0)]) rfl ?_
        obtain ⟨kt3, hkt3⟩ : ∃ z, z = ((fun e3_1 e3_2 e3_4 ew3 => (d_X2_best_7  kt1 n1 e3_1 e3_2 (v1_3 + 1) ew3)) : Int32 → Int32 → Nat → xW → (Int32 × xW)) := ⟨_, rfl⟩
        rw [← hkt3] at hT1
        have hk3 : ∀ (e3_1 : Int32) (e3_2 : Int32) (e3_4 : Nat) (ew3 : xW), e3_4 ≤ 36 → kt3 e3_1 e3_2 e3_4 ew3 = (r, u) → zZ k G N ew3 74 [(0, .ref (zad G 0)), (1, .int e3_1), (2, .int e3_2), (3, .int (nI v1_3)), (4, .int (nI e3_4))] [] := by
          intro e3_1 e3_2 e3_4 ew3 q3_0 hT3
          rw [hkt3] at hT3
          dsimp only at hT3
          refine z_iinc ok dX2_best_74 (hI 3 (by decide)) 3 rfl (y := (nI (v1_3 + 1))) (z_incn v1_3 1) (lv' := [(3, .int (nI (v1_3 + 1))), (0, .ref (zad G 0)), (1, .int e3_1), (2, .int e3_2), (4, .int (nI e3_4))]) rfl ?_
          refine z_goto ok dX2_best_77 7 (by decide) ?_
          refine z_locs [1, 2, 3, 0] (lv' := [(0, .ref (zad G 0)), (1, .int e3_1), (2, .int e3_2), (3, .int (nI (v1_3 + 1)))]) rfl ?_
          exact ih1 e3_1 e3_2 (v1_3 + 1) ew3 (by omega) (by omega) hT3
        have hl3 : ∀ (n3 : Nat) (v3_1 : Int32) (v3_2 : Int32) (v3_4 : Nat) (vw3 : xW), 36 < v3_4 + n3 → v3_4 ≤ 36 → d_X2_best_16 v1_3 kt3 n3 v3_1 v3_2 v3_4 vw3 = (r, u) → zZ k G N vw3 16 [(0, .ref (zad G 0)), (1, .int v3_1), (2, .int v3_2), (3, .int (nI v1_3)), (4, .int (nI v3_4))] [] := by
          intro n3
          induction n3 with
          | zero =>
            intro v3_1 v3_2 v3_4 vw3 q3_0 q3_1
            exact absurd q3_0 (by omega)
          | succ n3 ih3 =>
            intro v3_1 v3_2 v3_4 vw3 q3_0 q3_1 hT3
            rw [d_X2_best_16] at hT3
            refine z_iload ok dX2_best_16 4 rfl ?_
            refine z_bipush ok dX2_best_18 (x := 36) (by decide) ?_
            refine z_icmp_ge_n ok dX2_best_20 74 (by decide) v3_4 36 rfl rfl (by omega) (fun c4 => ?_) (fun c4 => ?_)
            · rw [if_pos c4] at hT3
              refine z_locs [0, 1, 2, 3, 4] (lv' := [(0, .ref (zad G 0)), (1, .int v3_1), (2, .int v3_2), (3, .int (nI v1_3)), (4, .int (nI v3_4))]) rfl ?_
              exact hk3 v3_1 v3_2 v3_4 vw3 (by omega) hT3
            · rw [if_neg c4] at hT3
              refine z_aload_n ok dX2_best_23 0 rfl ?_
              refine z_get_X2_game ok dX2_best_24 hN zw_176 ?_
              refine z_iload_n ok dX2_best_27 3 rfl ?_
              refine z_iload ok dX2_best_28 4 rfl ?_
              refine z_callVNi ok old dX2_best_30 [] (c_X1_reasonAgainst G N hN hg vw3 0 (by decide) v1_3 (by omega) v3_4 (by omega)) zy_X1_reasonAgainst zw_316 (5 + 6 * 0) (zg_lt hN (by decide)) (zE_game G vw3 (by decide)) rfl rfl rfl rfl rfl (by decide) (Nat.le_of_ble_eq_true rfl) ?_
              refine z_if_ne ok dX2_best_33 68 (by decide) (fun c5 => ?_) (fun c5 => ?_)
              · rw [if_neg c5] at hT3
                refine z_iinc ok dX2_best_68 (hI 4 (by decide)) 4 rfl (y := (nI (v3_4 + 1))) (z_incn v3_4 1) (lv' := [(4, .int (nI (v3_4 + 1))), (0, .ref (zad G 0)), (1, .int v3_1), (2, .int v3_2), (3, .int (nI v1_3))]) rfl ?_
                refine z_goto ok dX2_best_71 16 (by decide) ?_
                refine z_locs [1, 2, 3, 4, 0] (lv' := [(0, .ref (zad G 0)), (1, .int v3_1), (2, .int v3_2), (3, .int (nI v1_3)), (4, .int (nI (v3_4 + 1)))]) rfl ?_
                exact ih3 v3_1 v3_2 (v3_4 + 1) vw3 (by omega) (by omega) hT3
              · rw [if_pos c5] at hT3
                refine z_aload_n ok dX2_best_36 0 rfl ?_
                refine z_iload_n ok dX2_best_37 3 rfl ?_
                refine z_iload ok dX2_best_38 4 rfl ?_
                refine z_callVi ok old dX2_best_40 [] (c_X2_worthOf G N hN hg vw3 v1_3 (by omega) v3_4 (by omega)) zy_X2_worthOf zw_548 0 (by omega) (zE_0 G vw3) rfl rfl rfl rfl rfl (by decide) (Nat.le_of_ble_eq_true rfl) ?_
                replace hT3 := zlet_open hT3
                obtain ⟨p6, hp6, hT3⟩ := hT3
                rw [← hp6]
                refine z_istore ok dX2_best_43 (hI 5 (by decide)) (lv' := [(5, .int p6.1), (0, .ref (zad G 0)), (1, .int v3_1), (2, .int v3_2), (3, .int (nI v1_3)), (4, .int (nI v3_4))]) rfl ?_
                refine z_iload_n ok dX2_best_45 2 rfl ?_
                refine z_bipush ok dX2_best_46 (x := (-4)) (by decide) ?_
                replace hT3 := zlet_open hT3
                obtain ⟨p7, hp7, hT3⟩ := hT3
                have hsp7 := hp7.symm
                have hJp7 : zZ k G N p6.2 68 [(0, .ref (zad G 0)), (1, .int p7.1), (2, .int p7.2), (3, .int (nI v1_3)), (4, .int (nI v3_4)), (5, .int p6.1)] [] := by
                  refine z_iinc ok dX2_best_68 (hI 4 (by decide)) 4 rfl (y := (nI (v3_4 + 1))) (z_incn v3_4 1) (lv' := [(4, .int (nI (v3_4 + 1))), (0, .ref (zad G 0)), (1, .int p7.1), (2, .int p7.2), (3, .int (nI v1_3)), (5, .int p6.1)]) rfl ?_
                  refine z_goto ok dX2_best_71 16 (by decide) ?_
                  refine z_locs [1, 2, 3, 4, 0] (lv' := [(0, .ref (zad G 0)), (1, .int p7.1), (2, .int p7.2), (3, .int (nI v1_3)), (4, .int (nI (v3_4 + 1)))]) rfl ?_
                  exact ih3 p7.1 p7.2 (v3_4 + 1) p6.2 (by omega) (by omega) hT3
                refine z_icmp_eq ok dX2_best_48 57 (by decide) (fun c8 => ?_) (fun c8 => ?_)
                · rw [if_pos c8] at hsp7
                  refine z_bipush ok dX2_best_57 (x := 36) (by decide) ?_
                  refine z_iload_n ok dX2_best_59 4 rfl ?_
                  refine z_imul_n ok dX2_best_60 36 v1_3 rfl rfl ?_
                  refine z_iload ok dX2_best_61 5 rfl ?_
                  refine z_iadd_n ok dX2_best_63 (36 * v1_3) v3_4 rfl rfl ?_
                  refine z_istore_n ok dX2_best_64 (hI 1 (by decide)) (lv' := [(1, .int (nI ((36 * v1_3) + v3_4))), (5, .int p6.1), (0, .ref (zad G 0)), (2, .int v3_2), (3, .int (nI v1_3)), (4, .int (nI v3_4))]) rfl ?_
                  refine z_iload ok dX2_best_65 1 rfl ?_
                  refine z_istore_n ok dX2_best_67 (hI 2 (by decide)) (lv' := [(2, .int p6.1), (1, .int (nI ((36 * v1_3) + v3_4))), (5, .int p6.1), (0, .ref (zad G 0)), (3, .int (nI v1_3)), (4, .int (nI v3_4))]) rfl ?_
                  rw [← hsp7] at hJp7
                  refine z_locs [3, 1, 0, 4, 5, 2] (lv' := [(0, .ref (zad G 0)), (1, .int (nI ((36 * v1_3) + v3_4))), (2, .int p6.1), (3, .int (nI v1_3)), (4, .int (nI v3_4)), (5, .int p6.1)]) rfl ?_
                  exact hJp7
                · rw [if_neg c8] at hsp7
                  refine z_iload ok dX2_best_51 0 rfl ?_
                  refine z_iload_n ok dX2_best_53 3 rfl ?_
                  refine z_icmp_le ok dX2_best_54 68 (by decide) (fun c9 => ?_) (fun c9 => ?_)
                  · rw [if_pos c9] at hsp7
                    rw [← hsp7] at hJp7
                    refine z_locs [1, 2, 3, 4, 5, 0] (lv' := [(0, .ref (zad G 0)), (1, .int v3_1), (2, .int v3_2), (3, .int (nI v1_3)), (4, .int (nI v3_4)), (5, .int p6.1)]) rfl ?_
                    exact hJp7
                  · rw [if_neg c9] at hsp7
                    refine z_bipush ok dX2_best_57 (x := 36) (by decide) ?_
                    refine z_iload_n ok dX2_best_59 4 rfl ?_
                    refine z_imul_n ok dX2_best_60 36 v1_3 rfl rfl ?_
                    refine z_iload ok dX2_best_61 5 rfl ?_
                    refine z_iadd_n ok dX2_best_63 (36 * v1_3) v3_4 rfl rfl ?_
                    refine z_istore_n ok dX2_best_64 (hI 1 (by decide)) (lv' := [(1, .int (nI ((36 * v1_3) + v3_4))), (5, .int p6.1), (0, .ref (zad G 0)), (2, .int v3_2), (3, .int (nI v1_3)), (4, .int (nI v3_4))]) rfl ?_
                    refine z_iload ok dX2_best_65 1 rfl ?_
                    refine z_istore_n ok dX2_best_67 (hI 2 (by decide)) (lv' := [(2, .int p6.1), (1, .int (nI ((36 * v1_3) + v3_4))), (5, .int p6.1), (0, .ref (zad G 0)), (3, .int (nI v1_3)), (4, .int (nI v3_4))]) rfl ?_
                    rw [← hsp7] at hJp7
                    refine z_locs [3, 1, 0, 4, 5, 2] (lv' := [(0, .ref (zad G 0)), (1, .int (nI ((36 * v1_3) + v3_4))), (2, .int p6.1), (3, .int (nI v1_3)), (4, .int (nI v3_4)), (5, .int p6.1)]) rfl ?_
                    exact hJp7
        exact hl3 37 v1_1 v1_2 0 vw1 (by omega) (by omega) hT1
  exact hl1 37 (-4) 0 0 w (by omega) (by omega) hT
end
section
def d_X2_type (w : xW) (ch : Int32) : Int32 × xW :=
  if ch < 32 then (((-1), w))
  else (if ch ≤ 126 then (if (xg w 10 1) < 0 then (((-3), w))
  else (if (xg w 10 1) < 80 then (zlet (xs w 7 ((xg w 10 1)).toNatClampNeg (zc ch)) fun w5 =>
  zlet (xs w5 10 1 ((xg w5 10 1) + 1)) fun w6 =>
  ((xg w6 10 1), w6))
  else (((-3), w))))
  else (((-1), w)))
set_option maxRecDepth 100000 in
set_option maxHeartbeats 4000000 in
theorem c_X2_type (G : zG) (N : Nat) (hN : 47 ≤ N) (hg : zGeo G N) (w : xW) (ch : Int32) : zM yX2_type cX2_type 2 (some .int) 0 0 G N [.ref (zad G 0), .int ch] w (some (d_X2_type w ch).1) (d_X2_type w ch).2 := by
  obtain ⟨r, u, hT⟩ := zpair (d_X2_type w ch)
  rw [hT]
  dsimp only
  unfold d_X2_type at hT
  refine zM_of zy_X2_type.2.2.2.2.2.2.2 hg ⟨Nat.le_of_ble_eq_true rfl, by decide⟩ rfl (fun k ok hE hI => ?_)
  have old := hE.old
  refine z_iload_n ok dX2_type_0 1 rfl ?_
  refine z_bipush ok dX2_type_1 (x := 32) (by decide) ?_
  refine z_icmp_lt ok dX2_type_3 12 (by decide) (fun c1 => ?_) (fun c1 => ?_)
  · rw [if_pos c1] at hT
    refine z_iconst ok dX2_type_12 (x := (-1)) (by decide) ?_
    exact z_iret ok hE dX2_type_13 rfl ⟨congrArg Prod.fst hT, congrArg Prod.snd hT⟩
  · rw [if_neg c1] at hT
    refine z_iload_n ok dX2_type_6 1 rfl ?_
    refine z_bipush ok dX2_type_7 (x := 126) (by decide) ?_
    refine z_icmp_le ok dX2_type_9 14 (by decide) (fun c2 => ?_) (fun c2 => ?_)
    · rw [if_pos c2] at hT
      refine z_aload_n ok dX2_type_14 0 rfl ?_
      refine z_get_X2_textLength ok dX2_type_15 hN zw_181 ?_
      refine z_if_lt ok dX2_type_18 33 (by decide) (fun c3 => ?_) (fun c3 => ?_)
      · rw [if_pos c3] at hT
        refine z_bipush ok dX2_type_33 (x := (-3)) (by decide) ?_
        exact z_iret ok hE dX2_type_35 rfl ⟨congrArg Prod.fst hT, congrArg Prod.snd hT⟩
      · rw [if_neg c3] at hT
        refine z_aload_n ok dX2_type_21 0 rfl ?_
        refine z_get_X2_textLength ok dX2_type_22 hN zw_181 ?_
        refine z_aload_n ok dX2_type_25 0 rfl ?_
        refine z_get_X2_text ok dX2_type_26 hN zw_180 ?_
        refine z_alen ok dX2_type_29 2 (by omega) (zE_2 G w) (t := 1) (ty := .char) (x := 80) rfl rfl ?_
        refine z_icmp_lt ok dX2_type_30 36 (by decide) (fun c4 => ?_) (fun c4 => ?_)
        · rw [if_pos c4] at hT
          refine z_aload_n ok dX2_type_36 0 rfl ?_
          refine z_get_X2_text ok dX2_type_37 hN zw_180 ?_
          refine z_aload_n ok dX2_type_40 0 rfl ?_
          refine z_get_X2_textLength ok dX2_type_41 hN zw_181 ?_
          refine z_iload_n ok dX2_type_44 1 rfl ?_
          refine z_i2c ok dX2_type_45 ?_
          refine z_cast ok dX2_type_46 2 (by omega) (zE_2 G) ((xg w 10 1)).toNatClampNeg (zidx80p (by assumption) (by assumption)).1 (zidx80p (by assumption) (by assumption)).2 (by decide) rfl ?_
          replace hT := zlet_open hT
          obtain ⟨w5, hw5, hT⟩ := hT
          rw [← hw5]
          refine z_aload_n ok dX2_type_47 0 rfl ?_
          refine z_dup ok dX2_type_48 rfl ?_
          refine z_get_X2_textLength ok dX2_type_49 hN zw_181 ?_
          refine z_iconst ok dX2_type_52 (x := 1) (by decide) ?_
          refine z_iadd ok dX2_type_53 ?_
          refine z_put_X2_textLength ok dX2_type_54 hN zw_181 ?_
          replace hT := zlet_open hT
          obtain ⟨w6, hw6, hT⟩ := hT
          rw [← hw6]
          refine z_aload_n ok dX2_type_57 0 rfl ?_
          refine z_get_X2_textLength ok dX2_type_58 hN zw_181 ?_
          exact z_iret ok hE dX2_type_61 rfl ⟨congrArg Prod.fst hT, congrArg Prod.snd hT⟩
        · rw [if_neg c4] at hT
          refine z_bipush ok dX2_type_33 (x := (-3)) (by decide) ?_
          exact z_iret ok hE dX2_type_35 rfl ⟨congrArg Prod.fst hT, congrArg Prod.snd hT⟩
    · rw [if_neg c2] at hT
      refine z_iconst ok dX2_type_12 (x := (-1)) (by decide) ?_
      exact z_iret ok hE dX2_type_13 rfl ⟨congrArg Prod.fst hT, congrArg Prod.snd hT⟩

def d_X2_clearText (w : xW)  : Int32 × xW :=
  zlet ((xg w 10 1)) fun x1 =>
  zlet (xs w 10 1 0) fun w2 =>
  (x1, w2)
set_option maxRecDepth 100000 in
set_option maxHeartbeats 4000000 in
theorem c_X2_clearText (G : zG) (N : Nat) (hN : 47 ≤ N) (hg : zGeo G N) (w : xW) : zM yX2_clearText cX2_clearText 2 (some .int) 0 0 G N [.ref (zad G 0)] w (some (d_X2_clearText w).1) (d_X2_clearText w).2 := by
  obtain ⟨r, u, hT⟩ := zpair (d_X2_clearText w)
  rw [hT]
  dsimp only
  unfold d_X2_clearText at hT
  refine zM_of zy_X2_clearText.2.2.2.2.2.2.2 hg ⟨Nat.le_of_ble_eq_true rfl, by decide⟩ rfl (fun k ok hE hI => ?_)
  have old := hE.old
  refine z_aload_n ok dX2_clearText_0 0 rfl ?_
  refine z_get_X2_textLength ok dX2_clearText_1 hN zw_181 ?_
  replace hT := zlet_open hT
  obtain ⟨x1, hx1, hT⟩ := hT
  rw [← hx1]
  refine z_istore_n ok dX2_clearText_4 (hI 1 (by decide)) (lv' := [(1, .int x1), (0, .ref (zad G 0))]) rfl ?_
  refine z_aload_n ok dX2_clearText_5 1 rfl ?_
  refine z_iconst ok dX2_clearText_6 (x := 0) (by decide) ?_
  refine z_put_X2_textLength ok dX2_clearText_7 hN zw_181 ?_
  replace hT := zlet_open hT
  obtain ⟨w2, hw2, hT⟩ := hT
  rw [← hw2]
  refine z_iload_n ok dX2_clearText_10 0 rfl ?_
  exact z_iret ok hE dX2_clearText_11 rfl ⟨congrArg Prod.fst hT, congrArg Prod.snd hT⟩

def d_X2_signAt (w : xW) (pos : Int32) : Int32 :=
  if pos < 0 then (0)
  else (if (xg w 10 1) ≤ pos then (0)
  else (if 80 ≤ pos then (0)
  else ((zc (xg w 7 pos.toNatClampNeg)))))
set_option maxRecDepth 100000 in
set_option maxHeartbeats 4000000 in
theorem c_X2_signAt (G : zG) (N : Nat) (hN : 47 ≤ N) (hg : zGeo G N) (w : xW) (pos : Int32) : zM yX2_signAt cX2_signAt 2 (some .char) 0 0 G N [.ref (zad G 0), .int pos] w (some (d_X2_signAt w pos)) w := by
  generalize hT : d_X2_signAt w pos = r
  unfold d_X2_signAt at hT
  refine zM_of zy_X2_signAt.2.2.2.2.2.2.2 hg ⟨Nat.le_of_ble_eq_true rfl, by decide⟩ rfl (fun k ok hE hI => ?_)
  have old := hE.old
  refine z_iload_n ok dX2_signAt_0 1 rfl ?_
  refine z_if_lt ok dX2_signAt_1 30 (by decide) (fun c1 => ?_) (fun c1 => ?_)
  · rw [if_pos c1] at hT
    refine z_iconst ok dX2_signAt_30 (x := 0) (by decide) ?_
    exact z_iret ok hE dX2_signAt_31 rfl ⟨hT, rfl⟩
  · rw [if_neg c1] at hT
    refine z_iload_n ok dX2_signAt_4 1 rfl ?_
    refine z_aload_n ok dX2_signAt_5 0 rfl ?_
    refine z_get_X2_textLength ok dX2_signAt_6 hN zw_181 ?_
    refine z_icmp_ge ok dX2_signAt_9 30 (by decide) (fun c2 => ?_) (fun c2 => ?_)
    · rw [if_pos c2] at hT
      refine z_iconst ok dX2_signAt_30 (x := 0) (by decide) ?_
      exact z_iret ok hE dX2_signAt_31 rfl ⟨hT, rfl⟩
    · rw [if_neg c2] at hT
      refine z_iload_n ok dX2_signAt_12 1 rfl ?_
      refine z_aload_n ok dX2_signAt_13 0 rfl ?_
      refine z_get_X2_text ok dX2_signAt_14 hN zw_180 ?_
      refine z_alen ok dX2_signAt_17 2 (by omega) (zE_2 G w) (t := 1) (ty := .char) (x := 80) rfl rfl ?_
      refine z_icmp_ge ok dX2_signAt_18 30 (by decide) (fun c3 => ?_) (fun c3 => ?_)
      · rw [if_pos c3] at hT
        refine z_iconst ok dX2_signAt_30 (x := 0) (by decide) ?_
        exact z_iret ok hE dX2_signAt_31 rfl ⟨hT, rfl⟩
      · rw [if_neg c3] at hT
        refine z_aload_n ok dX2_signAt_21 0 rfl ?_
        refine z_get_X2_text ok dX2_signAt_22 hN zw_180 ?_
        refine z_iload_n ok dX2_signAt_25 1 rfl ?_
        refine z_cald ok dX2_signAt_26 2 (by omega) (zE_2 G w) pos.toNatClampNeg (zidx80 (by assumption) (by assumption)).1 (zidx80 (by assumption) (by assumption)).2 (by decide) ?_
        refine z_goto ok dX2_signAt_27 31 (by decide) ?_
        exact z_iret ok hE dX2_signAt_31 (zc_nar _) ⟨hT, rfl⟩

def d_X2_cellAt (w : xW) (pos : Int32) : Int32 :=
  zlet (((d_X2_signAt w pos) - 97)) fun x1 =>
  zlet (((d_X2_signAt w (pos + 1)) - 49)) fun x2 =>
  zlet (if x1 < 0 then (0)
  else (if 6 ≤ x1 then (0)
  else (if x2 < 0 then (0)
  else (if 6 ≤ x2 then (0)
  else (1)))) : Int32) fun x3 =>
  if x3 = 0 then ((-1))
  else (((6 * x2) + x1))
set_option maxRecDepth 100000 in
set_option maxHeartbeats 4000000 in
theorem c_X2_cellAt (G : zG) (N : Nat) (hN : 47 ≤ N) (hg : zGeo G N) (w : xW) (pos : Int32) : zM yX2_cellAt cX2_cellAt 5 (some .int) 1 21 G N [.ref (zad G 0), .int pos] w (some (d_X2_cellAt w pos)) w := by
  generalize hT : d_X2_cellAt w pos = r
  unfold d_X2_cellAt at hT
  refine zM_of zy_X2_cellAt.2.2.2.2.2.2.2 hg ⟨Nat.le_of_ble_eq_true rfl, by decide⟩ rfl (fun k ok hE hI => ?_)
  have old := hE.old
  refine z_aload_n ok dX2_cellAt_0 0 rfl ?_
  refine z_iload_n ok dX2_cellAt_1 1 rfl ?_
  refine z_callVi ok old dX2_cellAt_2 [] (c_X2_signAt G N hN hg w pos) zy_X2_signAt zw_474 0 (by omega) (zE_0 G w) rfl rfl rfl rfl rfl (by decide) (Nat.le_of_ble_eq_true rfl) ?_
  refine z_bipush ok dX2_cellAt_5 (x := 97) (by decide) ?_
  refine z_isub ok dX2_cellAt_7 ?_
  replace hT := zlet_open hT
  obtain ⟨x1, hx1, hT⟩ := hT
  rw [← hx1]
  refine z_istore_n ok dX2_cellAt_8 (hI 2 (by decide)) (lv' := [(2, .int x1), (0, .ref (zad G 0)), (1, .int pos)]) rfl ?_
  refine z_aload_n ok dX2_cellAt_9 1 rfl ?_
  refine z_iload_n ok dX2_cellAt_10 2 rfl ?_
  refine z_iconst ok dX2_cellAt_11 (x := 1) (by decide) ?_
  refine z_iadd ok dX2_cellAt_12 ?_
  refine z_callVi ok old dX2_cellAt_13 [] (c_X2_signAt G N hN hg w (pos + 1)) zy_X2_signAt zw_474 0 (by omega) (zE_0 G w) rfl rfl rfl rfl rfl (by decide) (Nat.le_of_ble_eq_true rfl) ?_
  refine z_bipush ok dX2_cellAt_16 (x := 49) (by decide) ?_
  refine z_isub ok dX2_cellAt_18 ?_
  replace hT := zlet_open hT
  obtain ⟨x2, hx2, hT⟩ := hT
  rw [← hx2]
  refine z_istore_n ok dX2_cellAt_19 (hI 3 (by decide)) (lv' := [(3, .int x2), (2, .int x1), (0, .ref (zad G 0)), (1, .int pos)]) rfl ?_
  refine z_iload_n ok dX2_cellAt_20 1 rfl ?_
  replace hT := zlet_open hT
  obtain ⟨x3, hx3, hT⟩ := hT
  have hsx3 := hx3.symm
  have hJx3 : zZ k G N w 45 [(0, .ref (zad G 0)), (1, .int pos), (2, .int x1), (3, .int x2)] [.int x3] := by
    refine z_istore ok dX2_cellAt_45 (hI 4 (by decide)) (lv' := [(4, .int x3), (0, .ref (zad G 0)), (1, .int pos), (2, .int x1), (3, .int x2)]) rfl ?_
    refine z_iload ok dX2_cellAt_47 0 rfl ?_
    refine z_if_eq ok dX2_cellAt_49 61 (by decide) (fun c4 => ?_) (fun c4 => ?_)
    · rw [if_pos c4] at hT
      refine z_iconst ok dX2_cellAt_61 (x := (-1)) (by decide) ?_
      exact z_iret ok hE dX2_cellAt_62 rfl ⟨hT, rfl⟩
    · rw [if_neg c4] at hT
      refine z_bipush ok dX2_cellAt_52 (x := 6) (by decide) ?_
      refine z_iload_n ok dX2_cellAt_54 4 rfl ?_
      refine z_imul ok dX2_cellAt_55 ?_
      refine z_iload_n ok dX2_cellAt_56 3 rfl ?_
      refine z_iadd ok dX2_cellAt_57 ?_
      refine z_goto ok dX2_cellAt_58 62 (by decide) ?_
      exact z_iret ok hE dX2_cellAt_62 rfl ⟨hT, rfl⟩
  refine z_if_lt ok dX2_cellAt_21 44 (by decide) (fun c5 => ?_) (fun c5 => ?_)
  · rw [if_pos c5] at hsx3
    refine z_iconst ok dX2_cellAt_44 (x := 0) (by decide) ?_
    rw [← hsx3] at hJx3
    refine z_locs [2, 3, 1, 0] (lv' := [(0, .ref (zad G 0)), (1, .int pos), (2, .int x1), (3, .int x2)]) rfl ?_
    exact hJx3
  · rw [if_neg c5] at hsx3
    refine z_iload_n ok dX2_cellAt_24 1 rfl ?_
    refine z_bipush ok dX2_cellAt_25 (x := 6) (by decide) ?_
    refine z_icmp_ge ok dX2_cellAt_27 44 (by decide) (fun c6 => ?_) (fun c6 => ?_)
    · rw [if_pos c6] at hsx3
      refine z_iconst ok dX2_cellAt_44 (x := 0) (by decide) ?_
      rw [← hsx3] at hJx3
      refine z_locs [2, 3, 1, 0] (lv' := [(0, .ref (zad G 0)), (1, .int pos), (2, .int x1), (3, .int x2)]) rfl ?_
      exact hJx3
    · rw [if_neg c6] at hsx3
      refine z_iload_n ok dX2_cellAt_30 0 rfl ?_
      refine z_if_lt ok dX2_cellAt_31 44 (by decide) (fun c7 => ?_) (fun c7 => ?_)
      · rw [if_pos c7] at hsx3
        refine z_iconst ok dX2_cellAt_44 (x := 0) (by decide) ?_
        rw [← hsx3] at hJx3
        refine z_locs [2, 3, 1, 0] (lv' := [(0, .ref (zad G 0)), (1, .int pos), (2, .int x1), (3, .int x2)]) rfl ?_
        exact hJx3
      · rw [if_neg c7] at hsx3
        refine z_iload_n ok dX2_cellAt_34 0 rfl ?_
        refine z_bipush ok dX2_cellAt_35 (x := 6) (by decide) ?_
        refine z_icmp_ge ok dX2_cellAt_37 44 (by decide) (fun c8 => ?_) (fun c8 => ?_)
        · rw [if_pos c8] at hsx3
          refine z_iconst ok dX2_cellAt_44 (x := 0) (by decide) ?_
          rw [← hsx3] at hJx3
          refine z_locs [2, 3, 1, 0] (lv' := [(0, .ref (zad G 0)), (1, .int pos), (2, .int x1), (3, .int x2)]) rfl ?_
          exact hJx3
        · rw [if_neg c8] at hsx3
          refine z_iconst ok dX2_cellAt_40 (x := 1) (by decide) ?_
          refine z_goto ok dX2_cellAt_41 45 (by decide) ?_
          rw [← hsx3] at hJx3
          refine z_locs [2, 3, 1, 0] (lv' := [(0, .ref (zad G 0)), (1, .int pos), (2, .int x1), (3, .int x2)]) rfl ?_
          exact hJx3

def d_X2_signsOfForm (w : xW) (pos : Int32) : Int32 :=
  if (d_X2_signAt w pos) = 45 then (if (d_X2_signAt w (pos + 1)) = 59 then (2)
  else (zlet (if (d_X2_cellAt w pos) = (-1) then (0)
  else (if (d_X2_cellAt w (pos + 2)) = (-1) then (0)
  else (if (d_X2_signAt w (pos + 4)) = 59 then (1)
  else (0))) : Int32) fun x8 =>
  if x8 = 0 then (0)
  else (5)))
  else (zlet (if (d_X2_cellAt w pos) = (-1) then (0)
  else (if (d_X2_cellAt w (pos + 2)) = (-1) then (0)
  else (if (d_X2_signAt w (pos + 4)) = 59 then (1)
  else (0))) : Int32) fun x2 =>
  if x2 = 0 then (0)
  else (5))
set_option maxRecDepth 100000 in
set_option maxHeartbeats 4000000 in
theorem c_X2_signsOfForm (G : zG) (N : Nat) (hN : 47 ≤ N) (hg : zGeo G N) (w : xW) (pos : Int32) : zM yX2_signsOfForm cX2_signsOfForm 3 (some .int) 2 45 G N [.ref (zad G 0), .int pos] w (some (d_X2_signsOfForm w pos)) w := by
  generalize hT : d_X2_signsOfForm w pos = r
  unfold d_X2_signsOfForm at hT
  refine zM_of zy_X2_signsOfForm.2.2.2.2.2.2.2 hg ⟨Nat.le_of_ble_eq_true rfl, by decide⟩ rfl (fun k ok hE hI => ?_)
  have old := hE.old
  refine z_aload_n ok dX2_signsOfForm_0 0 rfl ?_
  refine z_iload_n ok dX2_signsOfForm_1 1 rfl ?_
  refine z_callVi ok old dX2_signsOfForm_2 [] (c_X2_signAt G N hN hg w pos) zy_X2_signAt zw_474 0 (by omega) (zE_0 G w) rfl rfl rfl rfl rfl (by decide) (Nat.le_of_ble_eq_true rfl) ?_
  refine z_bipush ok dX2_signsOfForm_5 (x := 45) (by decide) ?_
  refine z_icmp_ne ok dX2_signsOfForm_7 24 (by decide) (fun c1 => ?_) (fun c1 => ?_)
  · rw [if_neg c1] at hT
    refine z_aload_n ok dX2_signsOfForm_24 0 rfl ?_
    refine z_iload_n ok dX2_signsOfForm_25 1 rfl ?_
    refine z_callVi ok old dX2_signsOfForm_26 [] (c_X2_cellAt G N hN hg w pos) zy_X2_cellAt zw_478 0 (by omega) (zE_0 G w) rfl rfl rfl rfl rfl (by decide) (Nat.le_of_ble_eq_true rfl) ?_
    refine z_iconst ok dX2_signsOfForm_29 (x := (-1)) (by decide) ?_
    replace hT := zlet_open hT
    obtain ⟨x2, hx2, hT⟩ := hT
    have hsx2 := hx2.symm
    have hJx2 : zZ k G N w 61 [(0, .ref (zad G 0)), (1, .int pos)] [.int x2] := by
      refine z_istore_n ok dX2_signsOfForm_61 (hI 2 (by decide)) (lv' := [(2, .int x2), (0, .ref (zad G 0)), (1, .int pos)]) rfl ?_
      refine z_iload_n ok dX2_signsOfForm_62 0 rfl ?_
      refine z_if_eq ok dX2_signsOfForm_63 70 (by decide) (fun c3 => ?_) (fun c3 => ?_)
      · rw [if_pos c3] at hT
        refine z_iconst ok dX2_signsOfForm_70 (x := 0) (by decide) ?_
        exact z_iret ok hE dX2_signsOfForm_71 rfl ⟨hT, rfl⟩
      · rw [if_neg c3] at hT
        refine z_iconst ok dX2_signsOfForm_66 (x := 5) (by decide) ?_
        refine z_goto ok dX2_signsOfForm_67 71 (by decide) ?_
        exact z_iret ok hE dX2_signsOfForm_71 rfl ⟨hT, rfl⟩
    refine z_icmp_eq ok dX2_signsOfForm_30 60 (by decide) (fun c4 => ?_) (fun c4 => ?_)
    · rw [if_pos c4] at hsx2
      refine z_iconst ok dX2_signsOfForm_60 (x := 0) (by decide) ?_
      rw [← hsx2] at hJx2
      refine z_locs [0, 1] (lv' := [(0, .ref (zad G 0)), (1, .int pos)]) rfl ?_
      exact hJx2
    · rw [if_neg c4] at hsx2
      refine z_aload_n ok dX2_signsOfForm_33 0 rfl ?_
      refine z_iload_n ok dX2_signsOfForm_34 1 rfl ?_
      refine z_iconst ok dX2_signsOfForm_35 (x := 2) (by decide) ?_
      refine z_iadd ok dX2_signsOfForm_36 ?_
      refine z_callVi ok old dX2_signsOfForm_37 [] (c_X2_cellAt G N hN hg w (pos + 2)) zy_X2_cellAt zw_478 0 (by omega) (zE_0 G w) rfl rfl rfl rfl rfl (by decide) (Nat.le_of_ble_eq_true rfl) ?_
      refine z_iconst ok dX2_signsOfForm_40 (x := (-1)) (by decide) ?_
      refine z_icmp_eq ok dX2_signsOfForm_41 60 (by decide) (fun c5 => ?_) (fun c5 => ?_)
      · rw [if_pos c5] at hsx2
        refine z_iconst ok dX2_signsOfForm_60 (x := 0) (by decide) ?_
        rw [← hsx2] at hJx2
        refine z_locs [0, 1] (lv' := [(0, .ref (zad G 0)), (1, .int pos)]) rfl ?_
        exact hJx2
      · rw [if_neg c5] at hsx2
        refine z_aload_n ok dX2_signsOfForm_44 0 rfl ?_
        refine z_iload_n ok dX2_signsOfForm_45 1 rfl ?_
        refine z_iconst ok dX2_signsOfForm_46 (x := 4) (by decide) ?_
        refine z_iadd ok dX2_signsOfForm_47 ?_
        refine z_callVi ok old dX2_signsOfForm_48 [] (c_X2_signAt G N hN hg w (pos + 4)) zy_X2_signAt zw_474 0 (by omega) (zE_0 G w) rfl rfl rfl rfl rfl (by decide) (Nat.le_of_ble_eq_true rfl) ?_
        refine z_bipush ok dX2_signsOfForm_51 (x := 59) (by decide) ?_
        refine z_icmp_ne ok dX2_signsOfForm_53 60 (by decide) (fun c6 => ?_) (fun c6 => ?_)
        · rw [if_neg c6] at hsx2
          refine z_iconst ok dX2_signsOfForm_60 (x := 0) (by decide) ?_
          rw [← hsx2] at hJx2
          refine z_locs [0, 1] (lv' := [(0, .ref (zad G 0)), (1, .int pos)]) rfl ?_
          exact hJx2
        · rw [if_pos c6] at hsx2
          refine z_iconst ok dX2_signsOfForm_56 (x := 1) (by decide) ?_
          refine z_goto ok dX2_signsOfForm_57 61 (by decide) ?_
          rw [← hsx2] at hJx2
          refine z_locs [0, 1] (lv' := [(0, .ref (zad G 0)), (1, .int pos)]) rfl ?_
          exact hJx2
  · rw [if_pos c1] at hT
    refine z_aload_n ok dX2_signsOfForm_10 0 rfl ?_
    refine z_iload_n ok dX2_signsOfForm_11 1 rfl ?_
    refine z_iconst ok dX2_signsOfForm_12 (x := 1) (by decide) ?_
    refine z_iadd ok dX2_signsOfForm_13 ?_
    refine z_callVi ok old dX2_signsOfForm_14 [] (c_X2_signAt G N hN hg w (pos + 1)) zy_X2_signAt zw_474 0 (by omega) (zE_0 G w) rfl rfl rfl rfl rfl (by decide) (Nat.le_of_ble_eq_true rfl) ?_
    refine z_bipush ok dX2_signsOfForm_17 (x := 59) (by decide) ?_
    refine z_icmp_ne ok dX2_signsOfForm_19 24 (by decide) (fun c7 => ?_) (fun c7 => ?_)
    · rw [if_neg c7] at hT
      refine z_aload_n ok dX2_signsOfForm_24 0 rfl ?_
      refine z_iload_n ok dX2_signsOfForm_25 1 rfl ?_
      refine z_callVi ok old dX2_signsOfForm_26 [] (c_X2_cellAt G N hN hg w pos) zy_X2_cellAt zw_478 0 (by omega) (zE_0 G w) rfl rfl rfl rfl rfl (by decide) (Nat.le_of_ble_eq_true rfl) ?_
      refine z_iconst ok dX2_signsOfForm_29 (x := (-1)) (by decide) ?_
      replace hT := zlet_open hT
      obtain ⟨x8, hx8, hT⟩ := hT
      have hsx8 := hx8.symm
      have hJx8 : zZ k G N w 61 [(0, .ref (zad G 0)), (1, .int pos)] [.int x8] := by
        refine z_istore_n ok dX2_signsOfForm_61 (hI 2 (by decide)) (lv' := [(2, .int x8), (0, .ref (zad G 0)), (1, .int pos)]) rfl ?_
        refine z_iload_n ok dX2_signsOfForm_62 0 rfl ?_
        refine z_if_eq ok dX2_signsOfForm_63 70 (by decide) (fun c9 => ?_) (fun c9 => ?_)
        · rw [if_pos c9] at hT
          refine z_iconst ok dX2_signsOfForm_70 (x := 0) (by decide) ?_
          exact z_iret ok hE dX2_signsOfForm_71 rfl ⟨hT, rfl⟩
        · rw [if_neg c9] at hT
          refine z_iconst ok dX2_signsOfForm_66 (x := 5) (by decide) ?_
          refine z_goto ok dX2_signsOfForm_67 71 (by decide) ?_
          exact z_iret ok hE dX2_signsOfForm_71 rfl ⟨hT, rfl⟩
      refine z_icmp_eq ok dX2_signsOfForm_30 60 (by decide) (fun c10 => ?_) (fun c10 => ?_)
      · rw [if_pos c10] at hsx8
        refine z_iconst ok dX2_signsOfForm_60 (x := 0) (by decide) ?_
        rw [← hsx8] at hJx8
        refine z_locs [0, 1] (lv' := [(0, .ref (zad G 0)), (1, .int pos)]) rfl ?_
        exact hJx8
      · rw [if_neg c10] at hsx8
        refine z_aload_n ok dX2_signsOfForm_33 0 rfl ?_
        refine z_iload_n ok dX2_signsOfForm_34 1 rfl ?_
        refine z_iconst ok dX2_signsOfForm_35 (x := 2) (by decide) ?_
        refine z_iadd ok dX2_signsOfForm_36 ?_
        refine z_callVi ok old dX2_signsOfForm_37 [] (c_X2_cellAt G N hN hg w (pos + 2)) zy_X2_cellAt zw_478 0 (by omega) (zE_0 G w) rfl rfl rfl rfl rfl (by decide) (Nat.le_of_ble_eq_true rfl) ?_
        refine z_iconst ok dX2_signsOfForm_40 (x := (-1)) (by decide) ?_
        refine z_icmp_eq ok dX2_signsOfForm_41 60 (by decide) (fun c11 => ?_) (fun c11 => ?_)
        · rw [if_pos c11] at hsx8
          refine z_iconst ok dX2_signsOfForm_60 (x := 0) (by decide) ?_
          rw [← hsx8] at hJx8
          refine z_locs [0, 1] (lv' := [(0, .ref (zad G 0)), (1, .int pos)]) rfl ?_
          exact hJx8
        · rw [if_neg c11] at hsx8
          refine z_aload_n ok dX2_signsOfForm_44 0 rfl ?_
          refine z_iload_n ok dX2_signsOfForm_45 1 rfl ?_
          refine z_iconst ok dX2_signsOfForm_46 (x := 4) (by decide) ?_
          refine z_iadd ok dX2_signsOfForm_47 ?_
          refine z_callVi ok old dX2_signsOfForm_48 [] (c_X2_signAt G N hN hg w (pos + 4)) zy_X2_signAt zw_474 0 (by omega) (zE_0 G w) rfl rfl rfl rfl rfl (by decide) (Nat.le_of_ble_eq_true rfl) ?_
          refine z_bipush ok dX2_signsOfForm_51 (x := 59) (by decide) ?_
          refine z_icmp_ne ok dX2_signsOfForm_53 60 (by decide) (fun c12 => ?_) (fun c12 => ?_)
          · rw [if_neg c12] at hsx8
            refine z_iconst ok dX2_signsOfForm_60 (x := 0) (by decide) ?_
            rw [← hsx8] at hJx8
            refine z_locs [0, 1] (lv' := [(0, .ref (zad G 0)), (1, .int pos)]) rfl ?_
            exact hJx8
          · rw [if_pos c12] at hsx8
            refine z_iconst ok dX2_signsOfForm_56 (x := 1) (by decide) ?_
            refine z_goto ok dX2_signsOfForm_57 61 (by decide) ?_
            rw [← hsx8] at hJx8
            refine z_locs [0, 1] (lv' := [(0, .ref (zad G 0)), (1, .int pos)]) rfl ?_
            exact hJx8
    · rw [if_pos c7] at hT
      refine z_iconst ok dX2_signsOfForm_22 (x := 2) (by decide) ?_
      exact z_iret ok hE dX2_signsOfForm_23 rfl ⟨hT, rfl⟩

def d_X2_movesInText_4k  (e1_1 : Int32) (e1_2 : Nat) : Int32 :=
  e1_1
def d_X2_movesInText_4 (w : xW) (kt1 : Int32 → Nat → Int32) : Nat → Int32 → Nat → Int32
  | 0, _, _ => default
  | n1 + 1, v1_1, v1_2 => if (xg w 10 1) ≤ (nI v1_2) then (kt1 v1_1 v1_2)
  else (if (d_X2_signAt w (nI v1_2)) = 59 then (d_X2_movesInText_4 w kt1 n1 (v1_1 + 1) (v1_2 + 1))
  else (d_X2_movesInText_4 w kt1 n1 v1_1 (v1_2 + 1)))
def d_X2_movesInText (w : xW)  : Int32 :=
  d_X2_movesInText_4 w d_X2_movesInText_4k ((xg w 10 1).toNatClampNeg + 1) 0 0
set_option maxRecDepth 100000 in
set_option maxHeartbeats 4000000 in
theorem c_X2_movesInText (G : zG) (N : Nat) (hN : 47 ≤ N) (hg : zGeo G N) (w : xW) : zM yX2_movesInText cX2_movesInText 3 (some .int) 1 21 G N [.ref (zad G 0)] w (some (d_X2_movesInText w)) w := by
  generalize hT : d_X2_movesInText w = r
  unfold d_X2_movesInText at hT
  refine zM_of zy_X2_movesInText.2.2.2.2.2.2.2 hg ⟨Nat.le_of_ble_eq_true rfl, by decide⟩ rfl (fun k ok hE hI => ?_)
  have old := hE.old
  refine z_iconst ok dX2_movesInText_0 (x := 0) (by decide) ?_
  refine z_istore_n ok dX2_movesInText_1 (hI 1 (by decide)) (lv' := [(1, .int 0), (0, .ref (zad G 0))]) rfl ?_
  refine z_iconst ok dX2_movesInText_2 (x := 0) (by decide) ?_
  refine z_istore_n ok dX2_movesInText_3 (hI 2 (by decide)) (lv' := [(2, .int 0), (1, .int 0), (0, .ref (zad G 0))]) rfl ?_
  refine z_locs [2, 1, 0] (lv' := [(0, .ref (zad G 0)), (1, .int 0), (2, .int 0)]) rfl ?_
  obtain ⟨kt1, hkt1⟩ : ∃ z, z = d_X2_movesInText_4k := ⟨_, rfl⟩
  rw [← hkt1] at hT
  have hk1 : ∀ (e1_1 : Int32) (e1_2 : Nat), e1_2 ≤ (xg w 10 1).toNatClampNeg → kt1 e1_1 e1_2 = r → zZ k G N w 31 [(0, .ref (zad G 0)), (1, .int e1_1), (2, .int (nI e1_2))] [] := by
    intro e1_1 e1_2 q1_0 hT1
    rw [hkt1, d_X2_movesInText_4k] at hT1
    refine z_iload_n ok dX2_movesInText_31 1 rfl ?_
    exact z_iret ok hE dX2_movesInText_32 rfl ⟨hT1, rfl⟩
  have hl1 : ∀ (n1 : Nat) (v1_1 : Int32) (v1_2 : Nat), (xg w 10 1).toNatClampNeg < v1_2 + n1 → v1_2 ≤ (xg w 10 1).toNatClampNeg → d_X2_movesInText_4 w kt1 n1 v1_1 v1_2 = r → zZ k G N w 4 [(0, .ref (zad G 0)), (1, .int v1_1), (2, .int (nI v1_2))] [] := by
    intro n1
    induction n1 with
    | zero =>
      intro v1_1 v1_2 q1_0 q1_1
      exact absurd q1_0 (by omega)
    | succ n1 ih1 =>
      intro v1_1 v1_2 q1_0 q1_1 hT1
      rw [d_X2_movesInText_4] at hT1
      refine z_iload_n ok dX2_movesInText_4 2 rfl ?_
      refine z_aload_n ok dX2_movesInText_5 0 rfl ?_
      refine z_get_X2_textLength ok dX2_movesInText_6 hN zw_181 ?_
      refine z_icmp_ge ok dX2_movesInText_9 31 (by decide) (fun c2 => ?_) (fun c2 => ?_)
      · rw [if_pos c2] at hT1
        refine z_locs [0, 1, 2] (lv' := [(0, .ref (zad G 0)), (1, .int v1_1), (2, .int (nI v1_2))]) rfl ?_
        exact hk1 v1_1 v1_2 (by omega) hT1
      · rw [if_neg c2] at hT1
        have := zclamp_lt (xg w 10 1)
        have := zlt_cl (c := v1_2) (by assumption) (by omega)
        refine z_aload_n ok dX2_movesInText_12 0 rfl ?_
        refine z_iload_n ok dX2_movesInText_13 2 rfl ?_
        refine z_callVi ok old dX2_movesInText_14 [] (c_X2_signAt G N hN hg w (nI v1_2)) zy_X2_signAt zw_474 0 (by omega) (zE_0 G w) rfl rfl rfl rfl rfl (by decide) (Nat.le_of_ble_eq_true rfl) ?_
        refine z_bipush ok dX2_movesInText_17 (x := 59) (by decide) ?_
        refine z_icmp_ne ok dX2_movesInText_19 25 (by decide) (fun c3 => ?_) (fun c3 => ?_)
        · rw [if_neg c3] at hT1
          refine z_iinc ok dX2_movesInText_25 (hI 2 (by decide)) 2 rfl (y := (nI (v1_2 + 1))) (z_incn v1_2 1) (lv' := [(2, .int (nI (v1_2 + 1))), (0, .ref (zad G 0)), (1, .int v1_1)]) rfl ?_
          refine z_goto ok dX2_movesInText_28 4 (by decide) ?_
          refine z_locs [1, 2, 0] (lv' := [(0, .ref (zad G 0)), (1, .int v1_1), (2, .int (nI (v1_2 + 1)))]) rfl ?_
          exact ih1 v1_1 (v1_2 + 1) (by omega) (by omega) hT1
        · rw [if_pos c3] at hT1
          refine z_iinc ok dX2_movesInText_22 (hI 1 (by decide)) 1 rfl (y := (v1_1 + 1)) rfl (lv' := [(1, .int (v1_1 + 1)), (0, .ref (zad G 0)), (2, .int (nI v1_2))]) rfl ?_
          refine z_iinc ok dX2_movesInText_25 (hI 2 (by decide)) 2 rfl (y := (nI (v1_2 + 1))) (z_incn v1_2 1) (lv' := [(2, .int (nI (v1_2 + 1))), (1, .int (v1_1 + 1)), (0, .ref (zad G 0))]) rfl ?_
          refine z_goto ok dX2_movesInText_28 4 (by decide) ?_
          refine z_locs [2, 1, 0] (lv' := [(0, .ref (zad G 0)), (1, .int (v1_1 + 1)), (2, .int (nI (v1_2 + 1)))]) rfl ?_
          exact ih1 (v1_1 + 1) (v1_2 + 1) (by omega) (by omega) hT1
  exact hl1 ((xg w 10 1).toNatClampNeg + 1) 0 0 (by omega) (by omega) hT
end
section
theorem zcellAt_ok {w : xW} {p : Int32} (h : ¬ d_X2_cellAt w p = -1) : d_X2_cellAt w p = nI (d_X2_cellAt w p).toNatClampNeg ∧ (d_X2_cellAt w p).toNatClampNeg < 36 := by
  unfold d_X2_cellAt at h ⊢
  simp only [zlet] at h ⊢
  by_cases h1 : d_X2_signAt w p - 97 < 0
  · simp [h1] at h
  by_cases h2 : 6 ≤ d_X2_signAt w p - 97
  · simp [h1, h2] at h
  by_cases h3 : d_X2_signAt w (p + 1) - 49 < 0
  · simp [h1, h2, h3] at h
  by_cases h4 : 6 ≤ d_X2_signAt w (p + 1) - 49
  · simp [h1, h2, h3, h4] at h
  have e : ¬ (1 : Int32) = 0 := by decide
  rw [if_neg h1, if_neg h2, if_neg h3, if_neg h4, if_neg e]
  obtain ⟨a1, a2⟩ := zidx6 h1 h2
  obtain ⟨b1, b2⟩ := zidx6 h3 h4
  rw [a1, b1, show (6 : Int32) = nI 6 from rfl, pk_mul, nI_add, zcl (by omega)]
  exact ⟨rfl, by omega⟩
theorem zform_k {w : xW} {p : Int32} (h : (if (if d_X2_cellAt w p = -1 then (0 : Int32) else if d_X2_cellAt w (p + 2) = -1 then 0 else if d_X2_signAt w (p + 4) = 59 then 1 else 0) = 0 then (0 : Int32) else 5) = 5) : ¬ d_X2_cellAt w p = -1 ∧ ¬ d_X2_cellAt w (p + 2) = -1 := by
  have e0 : ¬ (0 : Int32) = 5 := by decide
  by_cases q1 : d_X2_cellAt w p = -1
  · rw [if_pos q1, if_pos rfl] at h; exact absurd h e0
  · by_cases q2 : d_X2_cellAt w (p + 2) = -1
    · rw [if_neg q1, if_pos q2, if_pos rfl] at h; exact absurd h e0
    · exact ⟨q1, q2⟩
theorem zform_5 {w : xW} {p : Int32} (h : d_X2_signsOfForm w p = 5) : ¬ d_X2_cellAt w p = -1 ∧ ¬ d_X2_cellAt w (p + 2) = -1 := by
  unfold d_X2_signsOfForm at h
  have e2 : ¬ (2 : Int32) = 5 := by decide
  by_cases s1 : d_X2_signAt w p = 45
  · rw [if_pos s1] at h
    by_cases s2 : d_X2_signAt w (p + 1) = 59
    · rw [if_pos s2] at h; exact absurd h e2
    · rw [if_neg s2] at h; unfold zlet at h; exact zform_k h
  · rw [if_neg s1] at h; unfold zlet at h; exact zform_k h
theorem zform_a {w : xW} {p x3 x4 : Int32} (h3 : x3 = d_X2_signsOfForm w p) (h4 : x4 = d_X2_cellAt w p) (c : x3 = 5) : x4 = nI x4.toNatClampNeg ∧ x4.toNatClampNeg < 36 := by
  subst h4
  exact zcellAt_ok (zform_5 (h3.symm.trans c)).1
theorem zform_b {w : xW} {p x3 x4 : Int32} (h3 : x3 = d_X2_signsOfForm w p) (h4 : x4 = d_X2_cellAt w (p + 2)) (c : x3 = 5) : x4 = nI x4.toNatClampNeg ∧ x4.toNatClampNeg < 36 := by
  subst h4
  exact zcellAt_ok (zform_5 (h3.symm.trans c)).2
def d_X2_tryText_15k  (e2_1 : Int32) (e2_2 : Nat) (ew2 : xW) : Int32 × xW :=
  ((-1), ew2)
def d_X2_tryText_15  (kt2 : Int32 → Nat → xW → (Int32 × xW)) : Nat → Int32 → Nat → xW → Int32 × xW
  | 0, _, _, _ => default
  | n2 + 1, v2_1, v2_2, vw2 => if 80 ≤ v2_2 then (kt2 v2_1 v2_2 vw2)
  else (if (xg vw2 10 1) ≤ v2_1 then (kt2 v2_1 v2_2 vw2)
  else (zlet ((d_X2_signsOfForm vw2 v2_1)) fun x5 =>
  zlet ((d_X2_cellAt vw2 v2_1)) fun x6 =>
  zlet ((d_X2_cellAt vw2 (v2_1 + 2))) fun x7 =>
  zlet (if x5 = 5 then (zlet x6.toNatClampNeg fun c_x6 =>
  zlet x7.toNatClampNeg fun c_x7 =>
  zlet ((d_X1_reasonAgainst vw2 1 c_x6 c_x7)) fun x18 =>
  x18)
  else (if x5 = 2 then (zlet ((d_X1_reasonAgainstPass vw2 1)) fun x17 =>
  x17)
  else (1)) : Int32) fun x8 =>
  if x8 = 0 then (if x5 = 5 then (zlet x6.toNatClampNeg fun c_x6 =>
  zlet x7.toNatClampNeg fun c_x7 =>
  zlet (d_X1_makeMove vw2 1 c_x6 c_x7) fun p13 =>
  zlet ((v2_1 + x5)) fun x14 =>
  d_X2_tryText_15  kt2 n2 x14 (v2_2 + 1) p13.2)
  else (zlet (d_X1_makePass vw2 1) fun w11 =>
  zlet ((v2_1 + x5)) fun x12 =>
  d_X2_tryText_15  kt2 n2 x12 (v2_2 + 1) w11))
  else ((((16 * v2_1) + x8), vw2))))
def d_X2_tryText (w : xW)  : Int32 × xW :=
  zlet (d_X1_copyFrom w 1 0) fun w1 =>
  d_X2_tryText_15  d_X2_tryText_15k 81 0 0 w1
set_option maxRecDepth 100000 in
set_option maxHeartbeats 4000000 in
theorem c_X2_tryText (G : zG) (N : Nat) (hN : 47 ≤ N) (hg : zGeo G N) (w : xW) : zM yX2_tryText cX2_tryText 7 (some .int) 6 144 G N [.ref (zad G 0)] w (some (d_X2_tryText w).1) (d_X2_tryText w).2 := by
  obtain ⟨r, u, hT⟩ := zpair (d_X2_tryText w)
  rw [hT]
  dsimp only
  unfold d_X2_tryText at hT
  refine zM_of zy_X2_tryText.2.2.2.2.2.2.2 hg ⟨Nat.le_of_ble_eq_true rfl, by decide⟩ rfl (fun k ok hE hI => ?_)
  have old := hE.old
  refine z_aload_n ok dX2_tryText_0 0 rfl ?_
  refine z_get_X2_trial ok dX2_tryText_1 hN zw_177 ?_
  refine z_aload_n ok dX2_tryText_4 0 rfl ?_
  refine z_get_X2_game ok dX2_tryText_5 hN zw_176 ?_
  refine z_callVNv ok old dX2_tryText_8 [] (c_X1_copyFrom G N hN hg w 1 (by decide) 0 (by decide)) zy_X1_copyFrom zw_214 (5 + 6 * 1) (zg_lt hN (by decide)) (zE_game G w (by decide)) rfl rfl rfl rfl rfl (by decide) (Nat.le_of_ble_eq_true rfl) ?_
  replace hT := zlet_open hT
  obtain ⟨w1, hw1, hT⟩ := hT
  rw [← hw1]
  refine z_iconst ok dX2_tryText_11 (x := 0) (by decide) ?_
  refine z_istore_n ok dX2_tryText_12 (hI 1 (by decide)) (lv' := [(1, .int 0), (0, .ref (zad G 0))]) rfl ?_
  refine z_iconst ok dX2_tryText_13 (x := 0) (by decide) ?_
  refine z_istore_n ok dX2_tryText_14 (hI 2 (by decide)) (lv' := [(2, .int 0), (1, .int 0), (0, .ref (zad G 0))]) rfl ?_
  refine z_locs [2, 1, 0] (lv' := [(0, .ref (zad G 0)), (1, .int 0), (2, .int 0)]) rfl ?_
  obtain ⟨kt2, hkt2⟩ : ∃ z, z = d_X2_tryText_15k := ⟨_, rfl⟩
  rw [← hkt2] at hT
  have hk2 : ∀ (e2_1 : Int32) (e2_2 : Nat) (ew2 : xW), e2_2 ≤ 80 → kt2 e2_1 e2_2 ew2 = (r, u) → zZ k G N ew2 139 [(0, .ref (zad G 0)), (1, .int e2_1), (2, .int (nI e2_2))] [] := by
    intro e2_1 e2_2 ew2 q2_0 hT2
    rw [hkt2, d_X2_tryText_15k] at hT2
    refine z_iconst ok dX2_tryText_139 (x := (-1)) (by decide) ?_
    exact z_iret ok hE dX2_tryText_140 rfl ⟨congrArg Prod.fst hT2, congrArg Prod.snd hT2⟩
  have hl2 : ∀ (n2 : Nat) (v2_1 : Int32) (v2_2 : Nat) (vw2 : xW), 80 < v2_2 + n2 → v2_2 ≤ 80 → d_X2_tryText_15  kt2 n2 v2_1 v2_2 vw2 = (r, u) → zZ k G N vw2 15 [(0, .ref (zad G 0)), (1, .int v2_1), (2, .int (nI v2_2))] [] := by
    intro n2
    induction n2 with
    | zero =>
      intro v2_1 v2_2 vw2 q2_0 q2_1
      exact absurd q2_0 (by omega)
    | succ n2 ih2 =>
      intro v2_1 v2_2 vw2 q2_0 q2_1 hT2
      rw [d_X2_tryText_15] at hT2
      refine z_iload_n ok dX2_tryText_15 2 rfl ?_
      refine z_bipush ok dX2_tryText_16 (x := 80) (by decide) ?_
      refine z_icmp_ge_n ok dX2_tryText_18 139 (by decide) v2_2 80 rfl rfl (by omega) (fun c3 => ?_) (fun c3 => ?_)
      · rw [if_pos c3] at hT2
        refine z_locs [0, 1, 2] (lv' := [(0, .ref (zad G 0)), (1, .int v2_1), (2, .int (nI v2_2))]) rfl ?_
        exact hk2 v2_1 v2_2 vw2 (by omega) hT2
      · rw [if_neg c3] at hT2
        refine z_iload_n ok dX2_tryText_21 1 rfl ?_
        refine z_aload_n ok dX2_tryText_22 0 rfl ?_
        refine z_get_X2_textLength ok dX2_tryText_23 hN zw_181 ?_
        refine z_icmp_ge ok dX2_tryText_26 139 (by decide) (fun c4 => ?_) (fun c4 => ?_)
        · rw [if_pos c4] at hT2
          refine z_locs [0, 1, 2] (lv' := [(0, .ref (zad G 0)), (1, .int v2_1), (2, .int (nI v2_2))]) rfl ?_
          exact hk2 v2_1 v2_2 vw2 (by omega) hT2
        · rw [if_neg c4] at hT2
          refine z_aload_n ok dX2_tryText_29 0 rfl ?_
          refine z_iload_n ok dX2_tryText_30 1 rfl ?_
          refine z_callVi ok old dX2_tryText_31 [] (c_X2_signsOfForm G N hN hg vw2 v2_1) zy_X2_signsOfForm zw_470 0 (by omega) (zE_0 G vw2) rfl rfl rfl rfl rfl (by decide) (Nat.le_of_ble_eq_true rfl) ?_
          replace hT2 := zlet_open hT2
          obtain ⟨x5, hx5, hT2⟩ := hT2
          rw [← hx5]
          refine z_istore_n ok dX2_tryText_34 (hI 3 (by decide)) (lv' := [(3, .int x5), (0, .ref (zad G 0)), (1, .int v2_1), (2, .int (nI v2_2))]) rfl ?_
          refine z_aload_n ok dX2_tryText_35 1 rfl ?_
          refine z_iload_n ok dX2_tryText_36 2 rfl ?_
          refine z_callVi ok old dX2_tryText_37 [] (c_X2_cellAt G N hN hg vw2 v2_1) zy_X2_cellAt zw_478 0 (by omega) (zE_0 G vw2) rfl rfl rfl rfl rfl (by decide) (Nat.le_of_ble_eq_true rfl) ?_
          replace hT2 := zlet_open hT2
          obtain ⟨x6, hx6, hT2⟩ := hT2
          rw [← hx6]
          refine z_istore ok dX2_tryText_40 (hI 4 (by decide)) (lv' := [(4, .int x6), (3, .int x5), (0, .ref (zad G 0)), (1, .int v2_1), (2, .int (nI v2_2))]) rfl ?_
          refine z_aload_n ok dX2_tryText_42 2 rfl ?_
          refine z_iload_n ok dX2_tryText_43 3 rfl ?_
          refine z_iconst ok dX2_tryText_44 (x := 2) (by decide) ?_
          refine z_iadd ok dX2_tryText_45 ?_
          refine z_callVi ok old dX2_tryText_46 [] (c_X2_cellAt G N hN hg vw2 (v2_1 + 2)) zy_X2_cellAt zw_478 0 (by omega) (zE_0 G vw2) rfl rfl rfl rfl rfl (by decide) (Nat.le_of_ble_eq_true rfl) ?_
          replace hT2 := zlet_open hT2
          obtain ⟨x7, hx7, hT2⟩ := hT2
          rw [← hx7]
          refine z_istore ok dX2_tryText_49 (hI 5 (by decide)) (lv' := [(5, .int x7), (4, .int x6), (3, .int x5), (0, .ref (zad G 0)), (1, .int v2_1), (2, .int (nI v2_2))]) rfl ?_
          refine z_iconst ok dX2_tryText_51 (x := 1) (by decide) ?_
          refine z_istore ok dX2_tryText_52 (hI 6 (by decide)) (lv' := [(6, .int 1), (5, .int x7), (4, .int x6), (3, .int x5), (0, .ref (zad G 0)), (1, .int v2_1), (2, .int (nI v2_2))]) rfl ?_
          refine z_iload_n ok dX2_tryText_54 3 rfl ?_
          refine z_iconst ok dX2_tryText_55 (x := 5) (by decide) ?_
          replace hT2 := zlet_open hT2
          obtain ⟨x8, hx8, hT2⟩ := hT2
          have hsx8 := hx8.symm
          have hJx8 : zZ k G N vw2 89 [(0, .ref (zad G 0)), (1, .int v2_1), (2, .int (nI v2_2)), (3, .int x5), (4, .int x6), (5, .int x7), (6, .int x8)] [] := by
            refine z_iload ok dX2_tryText_89 6 rfl ?_
            refine z_if_eq ok dX2_tryText_91 102 (by decide) (fun c9 => ?_) (fun c9 => ?_)
            · rw [if_pos c9] at hT2
              refine z_iload_n ok dX2_tryText_102 3 rfl ?_
              refine z_iconst ok dX2_tryText_103 (x := 5) (by decide) ?_
              refine z_icmp_ne ok dX2_tryText_104 122 (by decide) (fun c10 => ?_) (fun c10 => ?_)
              · rw [if_neg c10] at hT2
                refine z_aload_n ok dX2_tryText_122 0 rfl ?_
                refine z_get_X2_trial ok dX2_tryText_123 hN zw_177 ?_
                refine z_callVNv ok old dX2_tryText_126 [] (c_X1_makePass G N hN hg vw2 1 (by decide)) zy_X1_makePass zw_383 (5 + 6 * 1) (zg_lt hN (by decide)) (zE_game G vw2 (by decide)) rfl rfl rfl rfl rfl (by decide) (Nat.le_of_ble_eq_true rfl) ?_
                replace hT2 := zlet_open hT2
                obtain ⟨w11, hw11, hT2⟩ := hT2
                rw [← hw11]
                refine z_iload_n ok dX2_tryText_129 1 rfl ?_
                refine z_iload_n ok dX2_tryText_130 3 rfl ?_
                refine z_iadd ok dX2_tryText_131 ?_
                replace hT2 := zlet_open hT2
                obtain ⟨x12, hx12, hT2⟩ := hT2
                rw [← hx12]
                refine z_istore_n ok dX2_tryText_132 (hI 1 (by decide)) (lv' := [(1, .int x12), (0, .ref (zad G 0)), (2, .int (nI v2_2)), (3, .int x5), (4, .int x6), (5, .int x7), (6, .int x8)]) rfl ?_
                refine z_iinc ok dX2_tryText_133 (hI 2 (by decide)) 2 rfl (y := (nI (v2_2 + 1))) (z_incn v2_2 1) (lv' := [(2, .int (nI (v2_2 + 1))), (1, .int x12), (0, .ref (zad G 0)), (3, .int x5), (4, .int x6), (5, .int x7), (6, .int x8)]) rfl ?_
                refine z_goto ok dX2_tryText_136 15 (by decide) ?_
                refine z_locs [2, 1, 0] (lv' := [(0, .ref (zad G 0)), (1, .int x12), (2, .int (nI (v2_2 + 1)))]) rfl ?_
                exact ih2 x12 (v2_2 + 1) w11 (by omega) (by omega) hT2
              · rw [if_pos c10] at hT2
                replace hT2 := zlet_open hT2
                obtain ⟨c_x6, hc_x6, hT2⟩ := hT2
                obtain ⟨lc_x6, ec_x6⟩ := zcellx (zform_a (by assumption) (by assumption) (by assumption)) hc_x6
                subst ec_x6
                replace hT2 := zlet_open hT2
                obtain ⟨c_x7, hc_x7, hT2⟩ := hT2
                obtain ⟨lc_x7, ec_x7⟩ := zcellx (zform_b (by assumption) (by assumption) (by assumption)) hc_x7
                subst ec_x7
                refine z_aload_n ok dX2_tryText_107 0 rfl ?_
                refine z_get_X2_trial ok dX2_tryText_108 hN zw_177 ?_
                refine z_iload ok dX2_tryText_111 4 rfl ?_
                refine z_iload ok dX2_tryText_113 5 rfl ?_
                refine z_callVNi ok old dX2_tryText_115 [] (c_X1_makeMove G N hN hg vw2 1 (by decide) c_x6 (by omega) c_x7 (by omega)) zy_X1_makeMove zw_344 (5 + 6 * 1) (zg_lt hN (by decide)) (zE_game G vw2 (by decide)) rfl rfl rfl rfl rfl (by decide) (Nat.le_of_ble_eq_true rfl) ?_
                replace hT2 := zlet_open hT2
                obtain ⟨p13, hp13, hT2⟩ := hT2
                rw [← hp13]
                refine z_pop ok dX2_tryText_118 rfl ?_
                refine z_goto ok dX2_tryText_119 129 (by decide) ?_
                refine z_iload_n ok dX2_tryText_129 1 rfl ?_
                refine z_iload_n ok dX2_tryText_130 3 rfl ?_
                refine z_iadd ok dX2_tryText_131 ?_
                replace hT2 := zlet_open hT2
                obtain ⟨x14, hx14, hT2⟩ := hT2
                rw [← hx14]
                refine z_istore_n ok dX2_tryText_132 (hI 1 (by decide)) (lv' := [(1, .int x14), (0, .ref (zad G 0)), (2, .int (nI v2_2)), (3, .int x5), (4, .int (nI c_x6)), (5, .int (nI c_x7)), (6, .int x8)]) rfl ?_
                refine z_iinc ok dX2_tryText_133 (hI 2 (by decide)) 2 rfl (y := (nI (v2_2 + 1))) (z_incn v2_2 1) (lv' := [(2, .int (nI (v2_2 + 1))), (1, .int x14), (0, .ref (zad G 0)), (3, .int x5), (4, .int (nI c_x6)), (5, .int (nI c_x7)), (6, .int x8)]) rfl ?_
                refine z_goto ok dX2_tryText_136 15 (by decide) ?_
                refine z_locs [2, 1, 0] (lv' := [(0, .ref (zad G 0)), (1, .int x14), (2, .int (nI (v2_2 + 1)))]) rfl ?_
                exact ih2 x14 (v2_2 + 1) p13.2 (by omega) (by omega) hT2
            · rw [if_neg c9] at hT2
              refine z_bipush ok dX2_tryText_94 (x := 16) (by decide) ?_
              refine z_iload_n ok dX2_tryText_96 1 rfl ?_
              refine z_imul ok dX2_tryText_97 ?_
              refine z_iload ok dX2_tryText_98 6 rfl ?_
              refine z_iadd ok dX2_tryText_100 ?_
              exact z_iret ok hE dX2_tryText_101 rfl ⟨congrArg Prod.fst hT2, congrArg Prod.snd hT2⟩
          refine z_icmp_ne ok dX2_tryText_56 75 (by decide) (fun c15 => ?_) (fun c15 => ?_)
          · rw [if_neg c15] at hsx8
            refine z_iload_n ok dX2_tryText_75 3 rfl ?_
            refine z_iconst ok dX2_tryText_76 (x := 2) (by decide) ?_
            refine z_icmp_ne ok dX2_tryText_77 89 (by decide) (fun c16 => ?_) (fun c16 => ?_)
            · rw [if_neg c16] at hsx8
              rw [← hsx8] at hJx8
              refine z_locs [4, 5, 6, 3, 2, 1, 0] (lv' := [(0, .ref (zad G 0)), (1, .int v2_1), (2, .int (nI v2_2)), (3, .int x5), (4, .int x6), (5, .int x7), (6, .int 1)]) rfl ?_
              exact hJx8
            · rw [if_pos c16] at hsx8
              refine z_aload_n ok dX2_tryText_80 4 rfl ?_
              refine z_get_X2_trial ok dX2_tryText_81 hN zw_177 ?_
              refine z_callVNi ok old dX2_tryText_84 [] (c_X1_reasonAgainstPass G N hN hg vw2 1 (by decide)) zy_X1_reasonAgainstPass zw_369 (5 + 6 * 1) (zg_lt hN (by decide)) (zE_game G vw2 (by decide)) rfl rfl rfl rfl rfl (by decide) (Nat.le_of_ble_eq_true rfl) ?_
              replace hsx8 := zlet_open hsx8
              obtain ⟨x17, hx17, hsx8⟩ := hsx8
              rw [← hx17]
              refine z_istore ok dX2_tryText_87 (hI 6 (by decide)) (lv' := [(6, .int x17), (5, .int x7), (4, .int x6), (3, .int x5), (0, .ref (zad G 0)), (1, .int v2_1), (2, .int (nI v2_2))]) rfl ?_
              rw [← hsx8] at hJx8
              refine z_locs [4, 5, 6, 3, 2, 1, 0] (lv' := [(0, .ref (zad G 0)), (1, .int v2_1), (2, .int (nI v2_2)), (3, .int x5), (4, .int x6), (5, .int x7), (6, .int x17)]) rfl ?_
              exact hJx8
          · rw [if_pos c15] at hsx8
            replace hsx8 := zlet_open hsx8
            obtain ⟨c_x6, hc_x6, hsx8⟩ := hsx8
            obtain ⟨lc_x6, ec_x6⟩ := zcellx (zform_a (by assumption) (by assumption) (by assumption)) hc_x6
            subst ec_x6
            replace hsx8 := zlet_open hsx8
            obtain ⟨c_x7, hc_x7, hsx8⟩ := hsx8
            obtain ⟨lc_x7, ec_x7⟩ := zcellx (zform_b (by assumption) (by assumption) (by assumption)) hc_x7
            subst ec_x7
            refine z_aload_n ok dX2_tryText_59 4 rfl ?_
            refine z_get_X2_trial ok dX2_tryText_60 hN zw_177 ?_
            refine z_iload ok dX2_tryText_63 2 rfl ?_
            refine z_iload ok dX2_tryText_65 1 rfl ?_
            refine z_callVNi ok old dX2_tryText_67 [] (c_X1_reasonAgainst G N hN hg vw2 1 (by decide) c_x6 (by omega) c_x7 (by omega)) zy_X1_reasonAgainst zw_316 (5 + 6 * 1) (zg_lt hN (by decide)) (zE_game G vw2 (by decide)) rfl rfl rfl rfl rfl (by decide) (Nat.le_of_ble_eq_true rfl) ?_
            replace hsx8 := zlet_open hsx8
            obtain ⟨x18, hx18, hsx8⟩ := hsx8
            rw [← hx18]
            refine z_istore ok dX2_tryText_70 (hI 6 (by decide)) (lv' := [(6, .int x18), (5, .int (nI c_x7)), (4, .int (nI c_x6)), (3, .int x5), (0, .ref (zad G 0)), (1, .int v2_1), (2, .int (nI v2_2))]) rfl ?_
            refine z_goto ok dX2_tryText_72 89 (by decide) ?_
            rw [← hsx8] at hJx8
            refine z_locs [4, 5, 6, 3, 2, 1, 0] (lv' := [(0, .ref (zad G 0)), (1, .int v2_1), (2, .int (nI v2_2)), (3, .int x5), (4, .int (nI c_x6)), (5, .int (nI c_x7)), (6, .int x18)]) rfl ?_
            exact hJx8
  exact hl2 81 0 0 w1 (by omega) (by omega) hT

def d_X2_fault (w : xW) (what : Int32) : Int32 × xW :=
  if what = 0 then (zlet (d_X2_tryText w) fun p2 =>
  if p2.1 = (-1) then (((-4), p2.2))
  else (if what = 0 then (((p2.1 / 16), p2.2))
  else (((p2.1 - p2.1 / 16 * 16), p2.2))))
  else (if what = 1 then (zlet (d_X2_tryText w) fun p6 =>
  if p6.1 = (-1) then (((-4), p6.2))
  else (if what = 0 then (((p6.1 / 16), p6.2))
  else (((p6.1 - p6.1 / 16 * 16), p6.2))))
  else (((-1), w)))
set_option maxRecDepth 100000 in
set_option maxHeartbeats 4000000 in
theorem c_X2_fault (G : zG) (N : Nat) (hN : 47 ≤ N) (hg : zGeo G N) (w : xW) (what : Int32) : zM yX2_fault cX2_fault 3 (some .int) 7 170 G N [.ref (zad G 0), .int what] w (some (d_X2_fault w what).1) (d_X2_fault w what).2 := by
  obtain ⟨r, u, hT⟩ := zpair (d_X2_fault w what)
  rw [hT]
  dsimp only
  unfold d_X2_fault at hT
  refine zM_of zy_X2_fault.2.2.2.2.2.2.2 hg ⟨Nat.le_of_ble_eq_true rfl, by decide⟩ rfl (fun k ok hE hI => ?_)
  have old := hE.old
  refine z_iload_n ok dX2_fault_0 1 rfl ?_
  refine z_if_eq ok dX2_fault_1 11 (by decide) (fun c1 => ?_) (fun c1 => ?_)
  · rw [if_pos c1] at hT
    refine z_aload_n ok dX2_fault_11 0 rfl ?_
    refine z_callVi ok old dX2_fault_12 [] (c_X2_tryText G N hN hg w ) zy_X2_tryText zw_466 0 (by omega) (zE_0 G w) rfl rfl rfl rfl rfl (by decide) (Nat.le_of_ble_eq_true rfl) ?_
    replace hT := zlet_open hT
    obtain ⟨p2, hp2, hT⟩ := hT
    rw [← hp2]
    refine z_istore_n ok dX2_fault_15 (hI 2 (by decide)) (lv' := [(2, .int p2.1), (0, .ref (zad G 0)), (1, .int what)]) rfl ?_
    refine z_iload_n ok dX2_fault_16 0 rfl ?_
    refine z_iconst ok dX2_fault_17 (x := (-1)) (by decide) ?_
    refine z_icmp_ne ok dX2_fault_18 24 (by decide) (fun c3 => ?_) (fun c3 => ?_)
    · rw [if_neg c3] at hT
      refine z_iload_n ok dX2_fault_24 2 rfl ?_
      refine z_if_ne ok dX2_fault_25 35 (by decide) (fun c4 => ?_) (fun c4 => ?_)
      · rw [if_neg c4] at hT
        refine z_iload_n ok dX2_fault_35 0 rfl ?_
        refine z_bipush ok dX2_fault_36 (x := 16) (by decide) ?_
        refine z_irem ok dX2_fault_38 (by decide) ?_
        exact z_iret ok hE dX2_fault_39 rfl ⟨congrArg Prod.fst hT, congrArg Prod.snd hT⟩
      · rw [if_pos c4] at hT
        refine z_iload_n ok dX2_fault_28 0 rfl ?_
        refine z_bipush ok dX2_fault_29 (x := 16) (by decide) ?_
        refine z_idiv ok dX2_fault_31 (by decide) ?_
        refine z_goto ok dX2_fault_32 39 (by decide) ?_
        exact z_iret ok hE dX2_fault_39 rfl ⟨congrArg Prod.fst hT, congrArg Prod.snd hT⟩
    · rw [if_pos c3] at hT
      refine z_bipush ok dX2_fault_21 (x := (-4)) (by decide) ?_
      exact z_iret ok hE dX2_fault_23 rfl ⟨congrArg Prod.fst hT, congrArg Prod.snd hT⟩
  · rw [if_neg c1] at hT
    refine z_iload_n ok dX2_fault_4 1 rfl ?_
    refine z_iconst ok dX2_fault_5 (x := 1) (by decide) ?_
    refine z_icmp_eq ok dX2_fault_6 11 (by decide) (fun c5 => ?_) (fun c5 => ?_)
    · rw [if_pos c5] at hT
      refine z_aload_n ok dX2_fault_11 0 rfl ?_
      refine z_callVi ok old dX2_fault_12 [] (c_X2_tryText G N hN hg w ) zy_X2_tryText zw_466 0 (by omega) (zE_0 G w) rfl rfl rfl rfl rfl (by decide) (Nat.le_of_ble_eq_true rfl) ?_
      replace hT := zlet_open hT
      obtain ⟨p6, hp6, hT⟩ := hT
      rw [← hp6]
      refine z_istore_n ok dX2_fault_15 (hI 2 (by decide)) (lv' := [(2, .int p6.1), (0, .ref (zad G 0)), (1, .int what)]) rfl ?_
      refine z_iload_n ok dX2_fault_16 0 rfl ?_
      refine z_iconst ok dX2_fault_17 (x := (-1)) (by decide) ?_
      refine z_icmp_ne ok dX2_fault_18 24 (by decide) (fun c7 => ?_) (fun c7 => ?_)
      · rw [if_neg c7] at hT
        refine z_iload_n ok dX2_fault_24 2 rfl ?_
        refine z_if_ne ok dX2_fault_25 35 (by decide) (fun c8 => ?_) (fun c8 => ?_)
        · rw [if_neg c8] at hT
          refine z_iload_n ok dX2_fault_35 0 rfl ?_
          refine z_bipush ok dX2_fault_36 (x := 16) (by decide) ?_
          refine z_irem ok dX2_fault_38 (by decide) ?_
          exact z_iret ok hE dX2_fault_39 rfl ⟨congrArg Prod.fst hT, congrArg Prod.snd hT⟩
        · rw [if_pos c8] at hT
          refine z_iload_n ok dX2_fault_28 0 rfl ?_
          refine z_bipush ok dX2_fault_29 (x := 16) (by decide) ?_
          refine z_idiv ok dX2_fault_31 (by decide) ?_
          refine z_goto ok dX2_fault_32 39 (by decide) ?_
          exact z_iret ok hE dX2_fault_39 rfl ⟨congrArg Prod.fst hT, congrArg Prod.snd hT⟩
      · rw [if_pos c7] at hT
        refine z_bipush ok dX2_fault_21 (x := (-4)) (by decide) ?_
        exact z_iret ok hE dX2_fault_23 rfl ⟨congrArg Prod.fst hT, congrArg Prod.snd hT⟩
    · rw [if_neg c5] at hT
      refine z_iconst ok dX2_fault_9 (x := (-1)) (by decide) ?_
      exact z_iret ok hE dX2_fault_10 rfl ⟨congrArg Prod.fst hT, congrArg Prod.snd hT⟩

def d_X2_play (w : xW)  : Int32 × xW :=
  zlet (d_X2_tryText w) fun p1 =>
  if p1.1 = (-1) then (zlet (d_X2_record p1.2) fun w3 =>
  zlet (d_X1_copyFrom w3 0 1) fun w4 =>
  ((d_X2_movesInText w4), w4))
  else (((-2), p1.2))
set_option maxRecDepth 100000 in
set_option maxHeartbeats 4000000 in
theorem c_X2_play (G : zG) (N : Nat) (hN : 47 ≤ N) (hg : zGeo G N) (w : xW) : zM yX2_play cX2_play 1 (some .int) 7 170 G N [.ref (zad G 0)] w (some (d_X2_play w).1) (d_X2_play w).2 := by
  obtain ⟨r, u, hT⟩ := zpair (d_X2_play w)
  rw [hT]
  dsimp only
  unfold d_X2_play at hT
  refine zM_of zy_X2_play.2.2.2.2.2.2.2 hg ⟨Nat.le_of_ble_eq_true rfl, by decide⟩ rfl (fun k ok hE hI => ?_)
  have old := hE.old
  refine z_aload_n ok dX2_play_0 0 rfl ?_
  refine z_callVi ok old dX2_play_1 [] (c_X2_tryText G N hN hg w ) zy_X2_tryText zw_466 0 (by omega) (zE_0 G w) rfl rfl rfl rfl rfl (by decide) (Nat.le_of_ble_eq_true rfl) ?_
  replace hT := zlet_open hT
  obtain ⟨p1, hp1, hT⟩ := hT
  rw [← hp1]
  refine z_iconst ok dX2_play_4 (x := (-1)) (by decide) ?_
  refine z_icmp_eq ok dX2_play_5 11 (by decide) (fun c2 => ?_) (fun c2 => ?_)
  · rw [if_pos c2] at hT
    refine z_aload_n ok dX2_play_11 0 rfl ?_
    refine z_callVv ok old dX2_play_12 [] (c_X2_record G N hN hg p1.2 ) zy_X2_record zw_206 0 (by omega) (zE_0 G p1.2) rfl rfl rfl rfl rfl (by decide) (Nat.le_of_ble_eq_true rfl) ?_
    replace hT := zlet_open hT
    obtain ⟨w3, hw3, hT⟩ := hT
    rw [← hw3]
    refine z_aload_n ok dX2_play_15 0 rfl ?_
    refine z_get_X2_game ok dX2_play_16 hN zw_176 ?_
    refine z_aload_n ok dX2_play_19 0 rfl ?_
    refine z_get_X2_trial ok dX2_play_20 hN zw_177 ?_
    refine z_callVNv ok old dX2_play_23 [] (c_X1_copyFrom G N hN hg w3 0 (by decide) 1 (by decide)) zy_X1_copyFrom zw_214 (5 + 6 * 0) (zg_lt hN (by decide)) (zE_game G w3 (by decide)) rfl rfl rfl rfl rfl (by decide) (Nat.le_of_ble_eq_true rfl) ?_
    replace hT := zlet_open hT
    obtain ⟨w4, hw4, hT⟩ := hT
    rw [← hw4]
    refine z_aload_n ok dX2_play_26 0 rfl ?_
    refine z_callVi ok old dX2_play_27 [] (c_X2_movesInText G N hN hg w4 ) zy_X2_movesInText zw_493 0 (by omega) (zE_0 G w4) rfl rfl rfl rfl rfl (by decide) (Nat.le_of_ble_eq_true rfl) ?_
    exact z_iret ok hE dX2_play_30 rfl ⟨congrArg Prod.fst hT, congrArg Prod.snd hT⟩
  · rw [if_neg c2] at hT
    refine z_bipush ok dX2_play_8 (x := (-2)) (by decide) ?_
    exact z_iret ok hE dX2_play_10 rfl ⟨congrArg Prod.fst hT, congrArg Prod.snd hT⟩
end
