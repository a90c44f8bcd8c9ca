section
-- ===== PART A: goes FIRST, ahead of the names: the tables' words, and 'selects' of the private methods out of them =====
/-- a private method of a class that the tables say can be made, by its rows of tables_1 -/
def lw_okq (q : MethodName × Nat) : Prop := (q.1.cls ≠ "java/lang/invoke/MethodHandle" ∧ q.1.cls ≠ "java/lang/invoke/VarHandle") ∧ Cond.instantiable q.1.cls q.2 ∈ tables_1 ∧ Cond.privateMethod q.1 ∈ tables_1 ∧ Cond.instanceMethod q.1 ∈ tables_1
theorem lw_p0 : lw_okq (⟨"ClockworkChess$Game", "begin", "()V"⟩, 15) := ⟨⟨by decide +kernel, by decide +kernel⟩, List.mem_of_getElem? (i := 17) (by decide +kernel), List.mem_of_getElem? (i := 96) (by decide +kernel), List.mem_of_getElem? (i := 97) (by decide +kernel)⟩
theorem lw_p1 : lw_okq (⟨"ClockworkChess$Board", "arrange", "(I)V"⟩, 4) := ⟨⟨by decide +kernel, by decide +kernel⟩, List.mem_of_getElem? (i := 23) (by decide +kernel), List.mem_of_getElem? (i := 100) (by decide +kernel), List.mem_of_getElem? (i := 101) (by decide +kernel)⟩
theorem lw_p2 : lw_okq (⟨"ClockworkChess$Board", "empty", "(I)V"⟩, 4) := ⟨⟨by decide +kernel, by decide +kernel⟩, List.mem_of_getElem? (i := 23) (by decide +kernel), List.mem_of_getElem? (i := 104) (by decide +kernel), List.mem_of_getElem? (i := 105) (by decide +kernel)⟩
theorem lw_p3 : lw_okq (⟨"ClockworkChess$Board", "place", "(IIII)V"⟩, 4) := ⟨⟨by decide +kernel, by decide +kernel⟩, List.mem_of_getElem? (i := 23) (by decide +kernel), List.mem_of_getElem? (i := 108) (by decide +kernel), List.mem_of_getElem? (i := 109) (by decide +kernel)⟩
theorem lw_p4 : lw_okq (⟨"ClockworkChess$Board", "markTower", "(IZ)V"⟩, 4) := ⟨⟨by decide +kernel, by decide +kernel⟩, List.mem_of_getElem? (i := 23) (by decide +kernel), List.mem_of_getElem? (i := 115) (by decide +kernel), List.mem_of_getElem? (i := 116) (by decide +kernel)⟩
theorem lw_p5 : lw_okq (⟨"ClockworkChess$Board", "springsInAll", "()I"⟩, 4) := ⟨⟨by decide +kernel, by decide +kernel⟩, List.mem_of_getElem? (i := 23) (by decide +kernel), List.mem_of_getElem? (i := 123) (by decide +kernel), List.mem_of_getElem? (i := 124) (by decide +kernel)⟩
theorem lw_p6 : lw_okq (⟨"ClockworkChess$Board", "springsOf", "(I)I"⟩, 4) := ⟨⟨by decide +kernel, by decide +kernel⟩, List.mem_of_getElem? (i := 23) (by decide +kernel), List.mem_of_getElem? (i := 127) (by decide +kernel), List.mem_of_getElem? (i := 128) (by decide +kernel)⟩
theorem lw_p7 : lw_okq (⟨"ClockworkChess", "record", "()V"⟩, 8) := ⟨⟨by decide +kernel, by decide +kernel⟩, List.mem_of_getElem? (i := 9) (by decide +kernel), List.mem_of_getElem? (i := 161) (by decide +kernel), List.mem_of_getElem? (i := 162) (by decide +kernel)⟩
theorem lw_p8 : lw_okq (⟨"ClockworkChess$Game", "copyFrom", "(LClockworkChess$Game;)V"⟩, 15) := ⟨⟨by decide +kernel, by decide +kernel⟩, List.mem_of_getElem? (i := 17) (by decide +kernel), List.mem_of_getElem? (i := 165) (by decide +kernel), List.mem_of_getElem? (i := 166) (by decide +kernel)⟩
theorem lw_p9 : lw_okq (⟨"ClockworkChess$Board", "copyFrom", "(LClockworkChess$Board;)V"⟩, 4) := ⟨⟨by decide +kernel, by decide +kernel⟩, List.mem_of_getElem? (i := 23) (by decide +kernel), List.mem_of_getElem? (i := 169) (by decide +kernel), List.mem_of_getElem? (i := 170) (by decide +kernel)⟩
theorem lw_p10 : lw_okq (⟨"ClockworkChess$Game", "setting", "(I)I"⟩, 15) := ⟨⟨by decide +kernel, by decide +kernel⟩, List.mem_of_getElem? (i := 17) (by decide +kernel), List.mem_of_getElem? (i := 184) (by decide +kernel), List.mem_of_getElem? (i := 185) (by decide +kernel)⟩
theorem lw_p11 : lw_okq (⟨"ClockworkChess$Game", "changeSetting", "(II)V"⟩, 15) := ⟨⟨by decide +kernel, by decide +kernel⟩, List.mem_of_getElem? (i := 17) (by decide +kernel), List.mem_of_getElem? (i := 188) (by decide +kernel), List.mem_of_getElem? (i := 189) (by decide +kernel)⟩
theorem lw_p12 : lw_okq (⟨"ClockworkChess$Game", "cutSprings", "()V"⟩, 15) := ⟨⟨by decide +kernel, by decide +kernel⟩, List.mem_of_getElem? (i := 17) (by decide +kernel), List.mem_of_getElem? (i := 192) (by decide +kernel), List.mem_of_getElem? (i := 193) (by decide +kernel)⟩
theorem lw_p13 : lw_okq (⟨"ClockworkChess$Board", "springOn", "(I)I"⟩, 4) := ⟨⟨by decide +kernel, by decide +kernel⟩, List.mem_of_getElem? (i := 23) (by decide +kernel), List.mem_of_getElem? (i := 196) (by decide +kernel), List.mem_of_getElem? (i := 197) (by decide +kernel)⟩
theorem lw_p14 : lw_okq (⟨"ClockworkChess$Board", "changeSpring", "(II)V"⟩, 4) := ⟨⟨by decide +kernel, by decide +kernel⟩, List.mem_of_getElem? (i := 23) (by decide +kernel), List.mem_of_getElem? (i := 200) (by decide +kernel), List.mem_of_getElem? (i := 201) (by decide +kernel)⟩
theorem lw_p15 : lw_okq (⟨"ClockworkChess$Game", "isOver", "()Z"⟩, 15) := ⟨⟨by decide +kernel, by decide +kernel⟩, List.mem_of_getElem? (i := 17) (by decide +kernel), List.mem_of_getElem? (i := 212) (by decide +kernel), List.mem_of_getElem? (i := 213) (by decide +kernel)⟩
def lw_privs_1 : List (MethodName × Nat) := [(⟨"ClockworkChess$Game", "begin", "()V"⟩, 15), (⟨"ClockworkChess$Board", "arrange", "(I)V"⟩, 4), (⟨"ClockworkChess$Board", "empty", "(I)V"⟩, 4), (⟨"ClockworkChess$Board", "place", "(IIII)V"⟩, 4), (⟨"ClockworkChess$Board", "markTower", "(IZ)V"⟩, 4), (⟨"ClockworkChess$Board", "springsInAll", "()I"⟩, 4), (⟨"ClockworkChess$Board", "springsOf", "(I)I"⟩, 4), (⟨"ClockworkChess", "record", "()V"⟩, 8), (⟨"ClockworkChess$Game", "copyFrom", "(LClockworkChess$Game;)V"⟩, 15), (⟨"ClockworkChess$Board", "copyFrom", "(LClockworkChess$Board;)V"⟩, 4), (⟨"ClockworkChess$Game", "setting", "(I)I"⟩, 15), (⟨"ClockworkChess$Game", "changeSetting", "(II)V"⟩, 15), (⟨"ClockworkChess$Game", "cutSprings", "()V"⟩, 15), (⟨"ClockworkChess$Board", "springOn", "(I)I"⟩, 4), (⟨"ClockworkChess$Board", "changeSpring", "(II)V"⟩, 4), (⟨"ClockworkChess$Game", "isOver", "()Z"⟩, 15)]
theorem lw_r1 : ∀ q ∈ lw_privs_1, lw_okq q := List.forall_mem_cons.mpr ⟨lw_p0, List.forall_mem_cons.mpr ⟨lw_p1, List.forall_mem_cons.mpr ⟨lw_p2, List.forall_mem_cons.mpr ⟨lw_p3, List.forall_mem_cons.mpr ⟨lw_p4, List.forall_mem_cons.mpr ⟨lw_p5, List.forall_mem_cons.mpr ⟨lw_p6, List.forall_mem_cons.mpr ⟨lw_p7, List.forall_mem_cons.mpr ⟨lw_p8, List.forall_mem_cons.mpr ⟨lw_p9, List.forall_mem_cons.mpr ⟨lw_p10, List.forall_mem_cons.mpr ⟨lw_p11, List.forall_mem_cons.mpr ⟨lw_p12, List.forall_mem_cons.mpr ⟨lw_p13, List.forall_mem_cons.mpr ⟨lw_p14, List.forall_mem_cons.mpr ⟨lw_p15, fun _ h => absurd h List.not_mem_nil⟩⟩⟩⟩⟩⟩⟩⟩⟩⟩⟩⟩⟩⟩⟩⟩
theorem lw_p16 : lw_okq (⟨"ClockworkChess$Board", "hasPiece", "(I)Z"⟩, 4) := ⟨⟨by decide +kernel, by decide +kernel⟩, List.mem_of_getElem? (i := 23) (by decide +kernel), List.mem_of_getElem? (i := 216) (by decide +kernel), List.mem_of_getElem? (i := 217) (by decide +kernel)⟩
theorem lw_p17 : lw_okq (⟨"ClockworkChess$Board", "sideOn", "(I)I"⟩, 4) := ⟨⟨by decide +kernel, by decide +kernel⟩, List.mem_of_getElem? (i := 23) (by decide +kernel), List.mem_of_getElem? (i := 220) (by decide +kernel), List.mem_of_getElem? (i := 221) (by decide +kernel)⟩
theorem lw_p18 : lw_okq (⟨"ClockworkChess$Game", "putInstead", "(IIII)V"⟩, 15) := ⟨⟨by decide +kernel, by decide +kernel⟩, List.mem_of_getElem? (i := 17) (by decide +kernel), List.mem_of_getElem? (i := 224) (by decide +kernel), List.mem_of_getElem? (i := 225) (by decide +kernel)⟩
theorem lw_p19 : lw_okq (⟨"ClockworkChess$Board", "isTower", "(I)Z"⟩, 4) := ⟨⟨by decide +kernel, by decide +kernel⟩, List.mem_of_getElem? (i := 23) (by decide +kernel), List.mem_of_getElem? (i := 234) (by decide +kernel), List.mem_of_getElem? (i := 235) (by decide +kernel)⟩
theorem lw_p20 : lw_okq (⟨"ClockworkChess$Board", "towersInAll", "()I"⟩, 4) := ⟨⟨by decide +kernel, by decide +kernel⟩, List.mem_of_getElem? (i := 23) (by decide +kernel), List.mem_of_getElem? (i := 238) (by decide +kernel), List.mem_of_getElem? (i := 239) (by decide +kernel)⟩
theorem lw_p21 : lw_okq (⟨"ClockworkChess$Board", "kindOn", "(I)I"⟩, 4) := ⟨⟨by decide +kernel, by decide +kernel⟩, List.mem_of_getElem? (i := 23) (by decide +kernel), List.mem_of_getElem? (i := 248) (by decide +kernel), List.mem_of_getElem? (i := 249) (by decide +kernel)⟩
theorem lw_p22 : lw_okq (⟨"ClockworkChess$Board", "movesFrom", "(I)I"⟩, 4) := ⟨⟨by decide +kernel, by decide +kernel⟩, List.mem_of_getElem? (i := 23) (by decide +kernel), List.mem_of_getElem? (i := 253) (by decide +kernel), List.mem_of_getElem? (i := 254) (by decide +kernel)⟩
theorem lw_p23 : lw_okq (⟨"ClockworkChess$Board", "canMove", "(II)Z"⟩, 4) := ⟨⟨by decide +kernel, by decide +kernel⟩, List.mem_of_getElem? (i := 23) (by decide +kernel), List.mem_of_getElem? (i := 257) (by decide +kernel), List.mem_of_getElem? (i := 258) (by decide +kernel)⟩
theorem lw_p24 : lw_okq (⟨"ClockworkChess$Board", "price", "(II)I"⟩, 4) := ⟨⟨by decide +kernel, by decide +kernel⟩, List.mem_of_getElem? (i := 23) (by decide +kernel), List.mem_of_getElem? (i := 261) (by decide +kernel), List.mem_of_getElem? (i := 262) (by decide +kernel)⟩
theorem lw_p25 : lw_okq (⟨"ClockworkChess$Board", "priceAlong", "(III)I"⟩, 4) := ⟨⟨by decide +kernel, by decide +kernel⟩, List.mem_of_getElem? (i := 23) (by decide +kernel), List.mem_of_getElem? (i := 272) (by decide +kernel), List.mem_of_getElem? (i := 273) (by decide +kernel)⟩
theorem lw_p26 : lw_okq (⟨"ClockworkChess$Board", "piecesInAll", "()I"⟩, 4) := ⟨⟨by decide +kernel, by decide +kernel⟩, List.mem_of_getElem? (i := 23) (by decide +kernel), List.mem_of_getElem? (i := 284) (by decide +kernel), List.mem_of_getElem? (i := 285) (by decide +kernel)⟩
theorem lw_p27 : lw_okq (⟨"ClockworkChess$Game", "account", "(I)I"⟩, 15) := ⟨⟨by decide +kernel, by decide +kernel⟩, List.mem_of_getElem? (i := 17) (by decide +kernel), List.mem_of_getElem? (i := 292) (by decide +kernel), List.mem_of_getElem? (i := 293) (by decide +kernel)⟩
theorem lw_p28 : lw_okq (⟨"ClockworkChess$Game", "reasonAgainst", "(II)I"⟩, 15) := ⟨⟨by decide +kernel, by decide +kernel⟩, List.mem_of_getElem? (i := 17) (by decide +kernel), List.mem_of_getElem? (i := 304) (by decide +kernel), List.mem_of_getElem? (i := 305) (by decide +kernel)⟩
theorem lw_p29 : lw_okq (⟨"ClockworkChess$Game", "makeMove", "(II)I"⟩, 15) := ⟨⟨by decide +kernel, by decide +kernel⟩, List.mem_of_getElem? (i := 17) (by decide +kernel), List.mem_of_getElem? (i := 312) (by decide +kernel), List.mem_of_getElem? (i := 313) (by decide +kernel)⟩
theorem lw_p30 : lw_okq (⟨"ClockworkChess$Game", "carryOut", "(II)I"⟩, 15) := ⟨⟨by decide +kernel, by decide +kernel⟩, List.mem_of_getElem? (i := 17) (by decide +kernel), List.mem_of_getElem? (i := 316) (by decide +kernel), List.mem_of_getElem? (i := 317) (by decide +kernel)⟩
theorem lw_p31 : lw_okq (⟨"ClockworkChess$Game", "springBehindTaking", "(II)I"⟩, 15) := ⟨⟨by decide +kernel, by decide +kernel⟩, List.mem_of_getElem? (i := 17) (by decide +kernel), List.mem_of_getElem? (i := 321) (by decide +kernel), List.mem_of_getElem? (i := 322) (by decide +kernel)⟩
def lw_privs_2 : List (MethodName × Nat) := [(⟨"ClockworkChess$Board", "hasPiece", "(I)Z"⟩, 4), (⟨"ClockworkChess$Board", "sideOn", "(I)I"⟩, 4), (⟨"ClockworkChess$Game", "putInstead", "(IIII)V"⟩, 15), (⟨"ClockworkChess$Board", "isTower", "(I)Z"⟩, 4), (⟨"ClockworkChess$Board", "towersInAll", "()I"⟩, 4), (⟨"ClockworkChess$Board", "kindOn", "(I)I"⟩, 4), (⟨"ClockworkChess$Board", "movesFrom", "(I)I"⟩, 4), (⟨"ClockworkChess$Board", "canMove", "(II)Z"⟩, 4), (⟨"ClockworkChess$Board", "price", "(II)I"⟩, 4), (⟨"ClockworkChess$Board", "priceAlong", "(III)I"⟩, 4), (⟨"ClockworkChess$Board", "piecesInAll", "()I"⟩, 4), (⟨"ClockworkChess$Game", "account", "(I)I"⟩, 15), (⟨"ClockworkChess$Game", "reasonAgainst", "(II)I"⟩, 15), (⟨"ClockworkChess$Game", "makeMove", "(II)I"⟩, 15), (⟨"ClockworkChess$Game", "carryOut", "(II)I"⟩, 15), (⟨"ClockworkChess$Game", "springBehindTaking", "(II)I"⟩, 15)]
theorem lw_r2 : ∀ q ∈ lw_privs_2, lw_okq q := List.forall_mem_cons.mpr ⟨lw_p16, List.forall_mem_cons.mpr ⟨lw_p17, List.forall_mem_cons.mpr ⟨lw_p18, List.forall_mem_cons.mpr ⟨lw_p19, List.forall_mem_cons.mpr ⟨lw_p20, List.forall_mem_cons.mpr ⟨lw_p21, List.forall_mem_cons.mpr ⟨lw_p22, List.forall_mem_cons.mpr ⟨lw_p23, List.forall_mem_cons.mpr ⟨lw_p24, List.forall_mem_cons.mpr ⟨lw_p25, List.forall_mem_cons.mpr ⟨lw_p26, List.forall_mem_cons.mpr ⟨lw_p27, List.forall_mem_cons.mpr ⟨lw_p28, List.forall_mem_cons.mpr ⟨lw_p29, List.forall_mem_cons.mpr ⟨lw_p30, List.forall_mem_cons.mpr ⟨lw_p31, fun _ h => absurd h List.not_mem_nil⟩⟩⟩⟩⟩⟩⟩⟩⟩⟩⟩⟩⟩⟩⟩⟩
theorem lw_p32 : lw_okq (⟨"ClockworkChess$Game", "beginTurn", "(I)V"⟩, 15) := ⟨⟨by decide +kernel, by decide +kernel⟩, List.mem_of_getElem? (i := 17) (by decide +kernel), List.mem_of_getElem? (i := 328) (by decide +kernel), List.mem_of_getElem? (i := 329) (by decide +kernel)⟩
theorem lw_p33 : lw_okq (⟨"ClockworkChess$Game", "reasonAgainstPass", "()I"⟩, 15) := ⟨⟨by decide +kernel, by decide +kernel⟩, List.mem_of_getElem? (i := 17) (by decide +kernel), List.mem_of_getElem? (i := 337) (by decide +kernel), List.mem_of_getElem? (i := 338) (by decide +kernel)⟩
theorem lw_p34 : lw_okq (⟨"ClockworkChess$Board", "movesOf", "(I)I"⟩, 4) := ⟨⟨by decide +kernel, by decide +kernel⟩, List.mem_of_getElem? (i := 23) (by decide +kernel), List.mem_of_getElem? (i := 341) (by decide +kernel), List.mem_of_getElem? (i := 342) (by decide +kernel)⟩
theorem lw_p35 : lw_okq (⟨"ClockworkChess$Game", "makePass", "()V"⟩, 15) := ⟨⟨by decide +kernel, by decide +kernel⟩, List.mem_of_getElem? (i := 17) (by decide +kernel), List.mem_of_getElem? (i := 345) (by decide +kernel), List.mem_of_getElem? (i := 346) (by decide +kernel)⟩
theorem lw_p36 : lw_okq (⟨"ClockworkChess", "makeReachWider", "(II)V"⟩, 8) := ⟨⟨by decide +kernel, by decide +kernel⟩, List.mem_of_getElem? (i := 9) (by decide +kernel), List.mem_of_getElem? (i := 380) (by decide +kernel), List.mem_of_getElem? (i := 381) (by decide +kernel)⟩
theorem lw_p37 : lw_okq (⟨"ClockworkChess", "leaveFrom", "(I)V"⟩, 8) := ⟨⟨by decide +kernel, by decide +kernel⟩, List.mem_of_getElem? (i := 9) (by decide +kernel), List.mem_of_getElem? (i := 385) (by decide +kernel), List.mem_of_getElem? (i := 386) (by decide +kernel)⟩
theorem lw_p38 : lw_okq (⟨"ClockworkChess", "cellsReached", "()I"⟩, 8) := ⟨⟨by decide +kernel, by decide +kernel⟩, List.mem_of_getElem? (i := 9) (by decide +kernel), List.mem_of_getElem? (i := 390) (by decide +kernel), List.mem_of_getElem? (i := 391) (by decide +kernel)⟩
theorem lw_p39 : lw_okq (⟨"ClockworkChess", "gamesBehind", "(II)I"⟩, 8) := ⟨⟨by decide +kernel, by decide +kernel⟩, List.mem_of_getElem? (i := 9) (by decide +kernel), List.mem_of_getElem? (i := 398) (by decide +kernel), List.mem_of_getElem? (i := 399) (by decide +kernel)⟩
theorem lw_p40 : lw_okq (⟨"ClockworkChess", "worthOf", "(II)I"⟩, 8) := ⟨⟨by decide +kernel, by decide +kernel⟩, List.mem_of_getElem? (i := 9) (by decide +kernel), List.mem_of_getElem? (i := 406) (by decide +kernel), List.mem_of_getElem? (i := 407) (by decide +kernel)⟩
theorem lw_p41 : lw_okq (⟨"ClockworkChess", "tryText", "()I"⟩, 8) := ⟨⟨by decide +kernel, by decide +kernel⟩, List.mem_of_getElem? (i := 9) (by decide +kernel), List.mem_of_getElem? (i := 423) (by decide +kernel), List.mem_of_getElem? (i := 424) (by decide +kernel)⟩
theorem lw_p42 : lw_okq (⟨"ClockworkChess", "signsOfForm", "(I)I"⟩, 8) := ⟨⟨by decide +kernel, by decide +kernel⟩, List.mem_of_getElem? (i := 9) (by decide +kernel), List.mem_of_getElem? (i := 427) (by decide +kernel), List.mem_of_getElem? (i := 428) (by decide +kernel)⟩
theorem lw_p43 : lw_okq (⟨"ClockworkChess", "signAt", "(I)C"⟩, 8) := ⟨⟨by decide +kernel, by decide +kernel⟩, List.mem_of_getElem? (i := 9) (by decide +kernel), List.mem_of_getElem? (i := 431) (by decide +kernel), List.mem_of_getElem? (i := 432) (by decide +kernel)⟩
theorem lw_p44 : lw_okq (⟨"ClockworkChess", "cellAt", "(I)I"⟩, 8) := ⟨⟨by decide +kernel, by decide +kernel⟩, List.mem_of_getElem? (i := 9) (by decide +kernel), List.mem_of_getElem? (i := 435) (by decide +kernel), List.mem_of_getElem? (i := 436) (by decide +kernel)⟩
theorem lw_p45 : lw_okq (⟨"ClockworkChess", "movesInText", "()I"⟩, 8) := ⟨⟨by decide +kernel, by decide +kernel⟩, List.mem_of_getElem? (i := 9) (by decide +kernel), List.mem_of_getElem? (i := 443) (by decide +kernel), List.mem_of_getElem? (i := 444) (by decide +kernel)⟩
theorem lw_p46 : lw_okq (⟨"ClockworkChessModel", "begins", "()V"⟩, 13) := ⟨⟨by decide +kernel, by decide +kernel⟩, List.mem_of_getElem? (i := 447) (by decide +kernel), List.mem_of_getElem? (i := 453) (by decide +kernel), List.mem_of_getElem? (i := 454) (by decide +kernel)⟩
theorem lw_p47 : lw_okq (⟨"ClockworkChessModel", "lays", "(IIII)V"⟩, 13) := ⟨⟨by decide +kernel, by decide +kernel⟩, List.mem_of_getElem? (i := 447) (by decide +kernel), List.mem_of_getElem? (i := 457) (by decide +kernel), List.mem_of_getElem? (i := 458) (by decide +kernel)⟩
def lw_privs_3 : List (MethodName × Nat) := [(⟨"ClockworkChess$Game", "beginTurn", "(I)V"⟩, 15), (⟨"ClockworkChess$Game", "reasonAgainstPass", "()I"⟩, 15), (⟨"ClockworkChess$Board", "movesOf", "(I)I"⟩, 4), (⟨"ClockworkChess$Game", "makePass", "()V"⟩, 15), (⟨"ClockworkChess", "makeReachWider", "(II)V"⟩, 8), (⟨"ClockworkChess", "leaveFrom", "(I)V"⟩, 8), (⟨"ClockworkChess", "cellsReached", "()I"⟩, 8), (⟨"ClockworkChess", "gamesBehind", "(II)I"⟩, 8), (⟨"ClockworkChess", "worthOf", "(II)I"⟩, 8), (⟨"ClockworkChess", "tryText", "()I"⟩, 8), (⟨"ClockworkChess", "signsOfForm", "(I)I"⟩, 8), (⟨"ClockworkChess", "signAt", "(I)C"⟩, 8), (⟨"ClockworkChess", "cellAt", "(I)I"⟩, 8), (⟨"ClockworkChess", "movesInText", "()I"⟩, 8), (⟨"ClockworkChessModel", "begins", "()V"⟩, 13), (⟨"ClockworkChessModel", "lays", "(IIII)V"⟩, 13)]
theorem lw_r3 : ∀ q ∈ lw_privs_3, lw_okq q := List.forall_mem_cons.mpr ⟨lw_p32, List.forall_mem_cons.mpr ⟨lw_p33, List.forall_mem_cons.mpr ⟨lw_p34, List.forall_mem_cons.mpr ⟨lw_p35, List.forall_mem_cons.mpr ⟨lw_p36, List.forall_mem_cons.mpr ⟨lw_p37, List.forall_mem_cons.mpr ⟨lw_p38, List.forall_mem_cons.mpr ⟨lw_p39, List.forall_mem_cons.mpr ⟨lw_p40, List.forall_mem_cons.mpr ⟨lw_p41, List.forall_mem_cons.mpr ⟨lw_p42, List.forall_mem_cons.mpr ⟨lw_p43, List.forall_mem_cons.mpr ⟨lw_p44, List.forall_mem_cons.mpr ⟨lw_p45, List.forall_mem_cons.mpr ⟨lw_p46, List.forall_mem_cons.mpr ⟨lw_p47, fun _ h => absurd h List.not_mem_nil⟩⟩⟩⟩⟩⟩⟩⟩⟩⟩⟩⟩⟩⟩⟩⟩
theorem lw_p48 : lw_okq (⟨"ClockworkChessModel", "allSprings", "()I"⟩, 13) := ⟨⟨by decide +kernel, by decide +kernel⟩, List.mem_of_getElem? (i := 447) (by decide +kernel), List.mem_of_getElem? (i := 461) (by decide +kernel), List.mem_of_getElem? (i := 462) (by decide +kernel)⟩
theorem lw_p49 : lw_okq (⟨"ClockworkChessModel", "springs", "(I)I"⟩, 13) := ⟨⟨by decide +kernel, by decide +kernel⟩, List.mem_of_getElem? (i := 447) (by decide +kernel), List.mem_of_getElem? (i := 465) (by decide +kernel), List.mem_of_getElem? (i := 466) (by decide +kernel)⟩
theorem lw_p50 : lw_okq (⟨"ClockworkChessModel", "records", "()V"⟩, 13) := ⟨⟨by decide +kernel, by decide +kernel⟩, List.mem_of_getElem? (i := 447) (by decide +kernel), List.mem_of_getElem? (i := 517) (by decide +kernel), List.mem_of_getElem? (i := 518) (by decide +kernel)⟩
theorem lw_p51 : lw_okq (⟨"ClockworkChessModel", "towers", "()I"⟩, 13) := ⟨⟨by decide +kernel, by decide +kernel⟩, List.mem_of_getElem? (i := 447) (by decide +kernel), List.mem_of_getElem? (i := 542) (by decide +kernel), List.mem_of_getElem? (i := 543) (by decide +kernel)⟩
theorem lw_p52 : lw_okq (⟨"ClockworkChessModel", "movesFrom", "(I)I"⟩, 13) := ⟨⟨by decide +kernel, by decide +kernel⟩, List.mem_of_getElem? (i := 447) (by decide +kernel), List.mem_of_getElem? (i := 550) (by decide +kernel), List.mem_of_getElem? (i := 551) (by decide +kernel)⟩
theorem lw_p53 : lw_okq (⟨"ClockworkChessModel", "canGo", "(II)Z"⟩, 13) := ⟨⟨by decide +kernel, by decide +kernel⟩, List.mem_of_getElem? (i := 447) (by decide +kernel), List.mem_of_getElem? (i := 554) (by decide +kernel), List.mem_of_getElem? (i := 555) (by decide +kernel)⟩
theorem lw_p54 : lw_okq (⟨"ClockworkChessModel", "costOf", "(II)I"⟩, 13) := ⟨⟨by decide +kernel, by decide +kernel⟩, List.mem_of_getElem? (i := 447) (by decide +kernel), List.mem_of_getElem? (i := 558) (by decide +kernel), List.mem_of_getElem? (i := 559) (by decide +kernel)⟩
theorem lw_p55 : lw_okq (⟨"ClockworkChessModel", "costBy", "(IIII)I"⟩, 13) := ⟨⟨by decide +kernel, by decide +kernel⟩, List.mem_of_getElem? (i := 447) (by decide +kernel), List.mem_of_getElem? (i := 562) (by decide +kernel), List.mem_of_getElem? (i := 563) (by decide +kernel)⟩
theorem lw_p56 : lw_okq (⟨"ClockworkChessModel", "isFree", "(II)Z"⟩, 13) := ⟨⟨by decide +kernel, by decide +kernel⟩, List.mem_of_getElem? (i := 447) (by decide +kernel), List.mem_of_getElem? (i := 569) (by decide +kernel), List.mem_of_getElem? (i := 570) (by decide +kernel)⟩
theorem lw_p57 : lw_okq (⟨"ClockworkChessModel", "pieces", "()I"⟩, 13) := ⟨⟨by decide +kernel, by decide +kernel⟩, List.mem_of_getElem? (i := 447) (by decide +kernel), List.mem_of_getElem? (i := 580) (by decide +kernel), List.mem_of_getElem? (i := 581) (by decide +kernel)⟩
theorem lw_p58 : lw_okq (⟨"ClockworkChessModel", "refuses", "(II)I"⟩, 13) := ⟨⟨by decide +kernel, by decide +kernel⟩, List.mem_of_getElem? (i := 447) (by decide +kernel), List.mem_of_getElem? (i := 588) (by decide +kernel), List.mem_of_getElem? (i := 589) (by decide +kernel)⟩
theorem lw_p59 : lw_okq (⟨"ClockworkChessModel", "makes", "(II)V"⟩, 13) := ⟨⟨by decide +kernel, by decide +kernel⟩, List.mem_of_getElem? (i := 447) (by decide +kernel), List.mem_of_getElem? (i := 592) (by decide +kernel), List.mem_of_getElem? (i := 593) (by decide +kernel)⟩
theorem lw_p60 : lw_okq (⟨"ClockworkChessModel", "goes", "(II)V"⟩, 13) := ⟨⟨by decide +kernel, by decide +kernel⟩, List.mem_of_getElem? (i := 447) (by decide +kernel), List.mem_of_getElem? (i := 596) (by decide +kernel), List.mem_of_getElem? (i := 597) (by decide +kernel)⟩
theorem lw_p61 : lw_okq (⟨"ClockworkChessModel", "turns", "()V"⟩, 13) := ⟨⟨by decide +kernel, by decide +kernel⟩, List.mem_of_getElem? (i := 447) (by decide +kernel), List.mem_of_getElem? (i := 603) (by decide +kernel), List.mem_of_getElem? (i := 604) (by decide +kernel)⟩
theorem lw_p62 : lw_okq (⟨"ClockworkChessModel", "refusesPass", "()I"⟩, 13) := ⟨⟨by decide +kernel, by decide +kernel⟩, List.mem_of_getElem? (i := 447) (by decide +kernel), List.mem_of_getElem? (i := 611) (by decide +kernel), List.mem_of_getElem? (i := 612) (by decide +kernel)⟩
theorem lw_p63 : lw_okq (⟨"ClockworkChessModel", "movesOf", "(I)I"⟩, 13) := ⟨⟨by decide +kernel, by decide +kernel⟩, List.mem_of_getElem? (i := 447) (by decide +kernel), List.mem_of_getElem? (i := 615) (by decide +kernel), List.mem_of_getElem? (i := 616) (by decide +kernel)⟩
def lw_privs_4 : List (MethodName × Nat) := [(⟨"ClockworkChessModel", "allSprings", "()I"⟩, 13), (⟨"ClockworkChessModel", "springs", "(I)I"⟩, 13), (⟨"ClockworkChessModel", "records", "()V"⟩, 13), (⟨"ClockworkChessModel", "towers", "()I"⟩, 13), (⟨"ClockworkChessModel", "movesFrom", "(I)I"⟩, 13), (⟨"ClockworkChessModel", "canGo", "(II)Z"⟩, 13), (⟨"ClockworkChessModel", "costOf", "(II)I"⟩, 13), (⟨"ClockworkChessModel", "costBy", "(IIII)I"⟩, 13), (⟨"ClockworkChessModel", "isFree", "(II)Z"⟩, 13), (⟨"ClockworkChessModel", "pieces", "()I"⟩, 13), (⟨"ClockworkChessModel", "refuses", "(II)I"⟩, 13), (⟨"ClockworkChessModel", "makes", "(II)V"⟩, 13), (⟨"ClockworkChessModel", "goes", "(II)V"⟩, 13), (⟨"ClockworkChessModel", "turns", "()V"⟩, 13), (⟨"ClockworkChessModel", "refusesPass", "()I"⟩, 13), (⟨"ClockworkChessModel", "movesOf", "(I)I"⟩, 13)]
theorem lw_r4 : ∀ q ∈ lw_privs_4, lw_okq q := List.forall_mem_cons.mpr ⟨lw_p48, List.forall_mem_cons.mpr ⟨lw_p49, List.forall_mem_cons.mpr ⟨lw_p50, List.forall_mem_cons.mpr ⟨lw_p51, List.forall_mem_cons.mpr ⟨lw_p52, List.forall_mem_cons.mpr ⟨lw_p53, List.forall_mem_cons.mpr ⟨lw_p54, List.forall_mem_cons.mpr ⟨lw_p55, List.forall_mem_cons.mpr ⟨lw_p56, List.forall_mem_cons.mpr ⟨lw_p57, List.forall_mem_cons.mpr ⟨lw_p58, List.forall_mem_cons.mpr ⟨lw_p59, List.forall_mem_cons.mpr ⟨lw_p60, List.forall_mem_cons.mpr ⟨lw_p61, List.forall_mem_cons.mpr ⟨lw_p62, List.forall_mem_cons.mpr ⟨lw_p63, fun _ h => absurd h List.not_mem_nil⟩⟩⟩⟩⟩⟩⟩⟩⟩⟩⟩⟩⟩⟩⟩⟩
theorem lw_p64 : lw_okq (⟨"ClockworkChessModel", "passes", "()V"⟩, 13) := ⟨⟨by decide +kernel, by decide +kernel⟩, List.mem_of_getElem? (i := 447) (by decide +kernel), List.mem_of_getElem? (i := 619) (by decide +kernel), List.mem_of_getElem? (i := 620) (by decide +kernel)⟩
theorem lw_p65 : lw_okq (⟨"ClockworkChessModel", "moveAt", "(II)I"⟩, 13) := ⟨⟨by decide +kernel, by decide +kernel⟩, List.mem_of_getElem? (i := 447) (by decide +kernel), List.mem_of_getElem? (i := 642) (by decide +kernel), List.mem_of_getElem? (i := 643) (by decide +kernel)⟩
theorem lw_p66 : lw_okq (⟨"ClockworkChessModel", "laysAside", "()V"⟩, 13) := ⟨⟨by decide +kernel, by decide +kernel⟩, List.mem_of_getElem? (i := 447) (by decide +kernel), List.mem_of_getElem? (i := 650) (by decide +kernel), List.mem_of_getElem? (i := 651) (by decide +kernel)⟩
theorem lw_p67 : lw_okq (⟨"ClockworkChessModel", "bringsBack", "()V"⟩, 13) := ⟨⟨by decide +kernel, by decide +kernel⟩, List.mem_of_getElem? (i := 447) (by decide +kernel), List.mem_of_getElem? (i := 654) (by decide +kernel), List.mem_of_getElem? (i := 655) (by decide +kernel)⟩
theorem lw_p68 : lw_okq (⟨"ClockworkChessModel", "goesOn", "(II)V"⟩, 13) := ⟨⟨by decide +kernel, by decide +kernel⟩, List.mem_of_getElem? (i := 447) (by decide +kernel), List.mem_of_getElem? (i := 662) (by decide +kernel), List.mem_of_getElem? (i := 663) (by decide +kernel)⟩
theorem lw_p69 : lw_okq (⟨"ClockworkChessModel", "repliesTo", "(I)I"⟩, 13) := ⟨⟨by decide +kernel, by decide +kernel⟩, List.mem_of_getElem? (i := 447) (by decide +kernel), List.mem_of_getElem? (i := 670) (by decide +kernel), List.mem_of_getElem? (i := 671) (by decide +kernel)⟩
theorem lw_p70 : lw_okq (⟨"ClockworkChessModel", "goodFor", "(I)I"⟩, 13) := ⟨⟨by decide +kernel, by decide +kernel⟩, List.mem_of_getElem? (i := 447) (by decide +kernel), List.mem_of_getElem? (i := 678) (by decide +kernel), List.mem_of_getElem? (i := 679) (by decide +kernel)⟩
theorem lw_p71 : lw_okq (⟨"ClockworkChessModel", "reasonOfText", "()I"⟩, 13) := ⟨⟨by decide +kernel, by decide +kernel⟩, List.mem_of_getElem? (i := 447) (by decide +kernel), List.mem_of_getElem? (i := 694) (by decide +kernel), List.mem_of_getElem? (i := 695) (by decide +kernel)⟩
theorem lw_p72 : lw_okq (⟨"ClockworkChessModel", "isFormed", "()Z"⟩, 13) := ⟨⟨by decide +kernel, by decide +kernel⟩, List.mem_of_getElem? (i := 447) (by decide +kernel), List.mem_of_getElem? (i := 698) (by decide +kernel), List.mem_of_getElem? (i := 699) (by decide +kernel)⟩
theorem lw_p73 : lw_okq (⟨"ClockworkChessModel", "takes", "(I)Z"⟩, 13) := ⟨⟨by decide +kernel, by decide +kernel⟩, List.mem_of_getElem? (i := 447) (by decide +kernel), List.mem_of_getElem? (i := 702) (by decide +kernel), List.mem_of_getElem? (i := 703) (by decide +kernel)⟩
theorem lw_p74 : lw_okq (⟨"ClockworkChessModel", "takesCell", "()I"⟩, 13) := ⟨⟨by decide +kernel, by decide +kernel⟩, List.mem_of_getElem? (i := 447) (by decide +kernel), List.mem_of_getElem? (i := 706) (by decide +kernel), List.mem_of_getElem? (i := 707) (by decide +kernel)⟩
theorem lw_p75 : lw_okq (⟨"ClockworkChessModel", "does", "()I"⟩, 13) := ⟨⟨by decide +kernel, by decide +kernel⟩, List.mem_of_getElem? (i := 447) (by decide +kernel), List.mem_of_getElem? (i := 710) (by decide +kernel), List.mem_of_getElem? (i := 711) (by decide +kernel)⟩
def lw_privs_5 : List (MethodName × Nat) := [(⟨"ClockworkChessModel", "passes", "()V"⟩, 13), (⟨"ClockworkChessModel", "moveAt", "(II)I"⟩, 13), (⟨"ClockworkChessModel", "laysAside", "()V"⟩, 13), (⟨"ClockworkChessModel", "bringsBack", "()V"⟩, 13), (⟨"ClockworkChessModel", "goesOn", "(II)V"⟩, 13), (⟨"ClockworkChessModel", "repliesTo", "(I)I"⟩, 13), (⟨"ClockworkChessModel", "goodFor", "(I)I"⟩, 13), (⟨"ClockworkChessModel", "reasonOfText", "()I"⟩, 13), (⟨"ClockworkChessModel", "isFormed", "()Z"⟩, 13), (⟨"ClockworkChessModel", "takes", "(I)Z"⟩, 13), (⟨"ClockworkChessModel", "takesCell", "()I"⟩, 13), (⟨"ClockworkChessModel", "does", "()I"⟩, 13)]
theorem lw_r5 : ∀ q ∈ lw_privs_5, lw_okq q := List.forall_mem_cons.mpr ⟨lw_p64, List.forall_mem_cons.mpr ⟨lw_p65, List.forall_mem_cons.mpr ⟨lw_p66, List.forall_mem_cons.mpr ⟨lw_p67, List.forall_mem_cons.mpr ⟨lw_p68, List.forall_mem_cons.mpr ⟨lw_p69, List.forall_mem_cons.mpr ⟨lw_p70, List.forall_mem_cons.mpr ⟨lw_p71, List.forall_mem_cons.mpr ⟨lw_p72, List.forall_mem_cons.mpr ⟨lw_p73, List.forall_mem_cons.mpr ⟨lw_p74, List.forall_mem_cons.mpr ⟨lw_p75, fun _ h => absurd h List.not_mem_nil⟩⟩⟩⟩⟩⟩⟩⟩⟩⟩⟩⟩
def lw_privs : List (MethodName × Nat) := lw_privs_1 ++ (lw_privs_2 ++ (lw_privs_3 ++ (lw_privs_4 ++ (lw_privs_5))))
def lw_tbl : List Cond := k2_sels lw_privs ++ tables_1
theorem lw_privs_ok : ∀ q ∈ lw_privs, lw_okq q := by
  show ∀ q ∈ lw_privs_1 ++ (lw_privs_2 ++ (lw_privs_3 ++ (lw_privs_4 ++ (lw_privs_5)))), lw_okq q
  exact List.forall_mem_append.mpr ⟨lw_r1, List.forall_mem_append.mpr ⟨lw_r2, List.forall_mem_append.mpr ⟨lw_r3, List.forall_mem_append.mpr ⟨lw_r4, lw_r5⟩⟩⟩⟩
end
section
/-! ===== BEGIN printed: names, fields, word lists, decode rows ===== -/
def RX0 : String := "ClockworkChess$Board"
def TX0 : u_T := fun k => match k with
  | 0 => ("ClockworkChess$Board", "sides", "[I", true)
  | 1 => ("ClockworkChess$Board", "kinds", "[I", true)
  | 2 => ("ClockworkChess$Board", "springs", "[I", true)
  | _ => ("ClockworkChess$Board", "towers", "[I", true)
def tyX0 : Nat → FieldType := fun k => match k with
  | 0 => .array .int
  | 1 => .array .int
  | 2 => .array .int
  | _ => .array .int
theorem nmX0 : ∀ a, a < 4 → ∀ b, b < 4 → a ≠ b → (TX0 a).2.1 ≠ (TX0 b).2.1 := by decide +kernel
theorem tyX0_ok : ∀ k, k < 4 → parseFieldDescriptor (TX0 k).2.2.1 = some (tyX0 k) := by decide +kernel
abbrev cX0_init : ByteArray := prog_2_method_1_code
def yX0_init : MethodName := ⟨RX0, "<init>", "()V"⟩
abbrev cX0_copyFrom : ByteArray := prog_2_method_2_code
def yX0_copyFrom : MethodName := ⟨RX0, "copyFrom", "(LClockworkChess$Board;)V"⟩
abbrev cX0_arrange : ByteArray := prog_2_method_3_code
def yX0_arrange : MethodName := ⟨RX0, "arrange", "(I)V"⟩
abbrev cX0_place : ByteArray := prog_2_method_4_code
def yX0_place : MethodName := ⟨RX0, "place", "(IIII)V"⟩
abbrev cX0_empty : ByteArray := prog_2_method_5_code
def yX0_empty : MethodName := ⟨RX0, "empty", "(I)V"⟩
abbrev cX0_changeSpring : ByteArray := prog_2_method_6_code
def yX0_changeSpring : MethodName := ⟨RX0, "changeSpring", "(II)V"⟩
abbrev cX0_markTower : ByteArray := prog_2_method_7_code
def yX0_markTower : MethodName := ⟨RX0, "markTower", "(IZ)V"⟩
abbrev cX0_sideOn : ByteArray := prog_2_method_8_code
def yX0_sideOn : MethodName := ⟨RX0, "sideOn", "(I)I"⟩
abbrev cX0_hasPiece : ByteArray := prog_2_method_9_code
def yX0_hasPiece : MethodName := ⟨RX0, "hasPiece", "(I)Z"⟩
abbrev cX0_kindOn : ByteArray := prog_2_method_10_code
def yX0_kindOn : MethodName := ⟨RX0, "kindOn", "(I)I"⟩
abbrev cX0_springOn : ByteArray := prog_2_method_11_code
def yX0_springOn : MethodName := ⟨RX0, "springOn", "(I)I"⟩
abbrev cX0_isTower : ByteArray := prog_2_method_12_code
def yX0_isTower : MethodName := ⟨RX0, "isTower", "(I)Z"⟩
abbrev cX0_springsOf : ByteArray := prog_2_method_13_code
def yX0_springsOf : MethodName := ⟨RX0, "springsOf", "(I)I"⟩
abbrev cX0_springsInAll : ByteArray := prog_2_method_14_code
def yX0_springsInAll : MethodName := ⟨RX0, "springsInAll", "()I"⟩
abbrev cX0_piecesInAll : ByteArray := prog_2_method_15_code
def yX0_piecesInAll : MethodName := ⟨RX0, "piecesInAll", "()I"⟩
abbrev cX0_towersInAll : ByteArray := prog_2_method_16_code
def yX0_towersInAll : MethodName := ⟨RX0, "towersInAll", "()I"⟩
abbrev cX0_movesOf : ByteArray := prog_2_method_17_code
def yX0_movesOf : MethodName := ⟨RX0, "movesOf", "(I)I"⟩
abbrev cX0_movesFrom : ByteArray := prog_2_method_18_code
def yX0_movesFrom : MethodName := ⟨RX0, "movesFrom", "(I)I"⟩
abbrev cX0_canMove : ByteArray := prog_2_method_19_code
def yX0_canMove : MethodName := ⟨RX0, "canMove", "(II)Z"⟩
abbrev cX0_price : ByteArray := prog_2_method_20_code
def yX0_price : MethodName := ⟨RX0, "price", "(II)I"⟩
abbrev cX0_priceAlong : ByteArray := prog_2_method_21_code
def yX0_priceAlong : MethodName := ⟨RX0, "priceAlong", "(III)I"⟩
def RX1 : String := "ClockworkChess$Game"
def TX1 : u_T := fun k => match k with
  | 0 => ("ClockworkChess$Game", "board", "LClockworkChess$Board;", true)
  | 1 => ("ClockworkChess$Game", "limit", "I", false)
  | 2 => ("ClockworkChess$Game", "bonus", "I", false)
  | 3 => ("ClockworkChess$Game", "winding", "I", false)
  | 4 => ("ClockworkChess$Game", "mover", "I", false)
  | 5 => ("ClockworkChess$Game", "ending", "I", false)
  | 6 => ("ClockworkChess$Game", "winner", "I", false)
  | 7 => ("ClockworkChess$Game", "turnsMade", "I", false)
  | 8 => ("ClockworkChess$Game", "justPassed", "Z", false)
  | 9 => ("ClockworkChess$Game", "atBeginning", "I", false)
  | 10 => ("ClockworkChess$Game", "wound", "I", false)
  | 11 => ("ClockworkChess$Game", "gainedByBonus", "I", false)
  | 12 => ("ClockworkChess$Game", "spent", "I", false)
  | 13 => ("ClockworkChess$Game", "lost", "I", false)
  | _ => ("ClockworkChess$Game", "putOn", "I", false)
def tyX1 : Nat → FieldType := fun k => match k with
  | 0 => .object "ClockworkChess$Board"
  | 1 => .int
  | 2 => .int
  | 3 => .int
  | 4 => .int
  | 5 => .int
  | 6 => .int
  | 7 => .int
  | 8 => .boolean
  | 9 => .int
  | 10 => .int
  | 11 => .int
  | 12 => .int
  | 13 => .int
  | _ => .int
theorem nmX1 : ∀ a, a < 15 → ∀ b, b < 15 → a ≠ b → (TX1 a).2.1 ≠ (TX1 b).2.1 := by decide +kernel
theorem tyX1_ok : ∀ k, k < 15 → parseFieldDescriptor (TX1 k).2.2.1 = some (tyX1 k) := by decide +kernel
abbrev cX1_init : ByteArray := prog_3_method_1_code
def yX1_init : MethodName := ⟨RX1, "<init>", "()V"⟩
abbrev cX1_copyFrom : ByteArray := prog_3_method_2_code
def yX1_copyFrom : MethodName := ⟨RX1, "copyFrom", "(LClockworkChess$Game;)V"⟩
abbrev cX1_begin : ByteArray := prog_3_method_3_code
def yX1_begin : MethodName := ⟨RX1, "begin", "()V"⟩
abbrev cX1_isOver : ByteArray := prog_3_method_4_code
def yX1_isOver : MethodName := ⟨RX1, "isOver", "()Z"⟩
abbrev cX1_setting : ByteArray := prog_3_method_5_code
def yX1_setting : MethodName := ⟨RX1, "setting", "(I)I"⟩
abbrev cX1_changeSetting : ByteArray := prog_3_method_6_code
def yX1_changeSetting : MethodName := ⟨RX1, "changeSetting", "(II)V"⟩
abbrev cX1_cutSprings : ByteArray := prog_3_method_7_code
def yX1_cutSprings : MethodName := ⟨RX1, "cutSprings", "()V"⟩
abbrev cX1_account : ByteArray := prog_3_method_8_code
def yX1_account : MethodName := ⟨RX1, "account", "(I)I"⟩
abbrev cX1_putInstead : ByteArray := prog_3_method_9_code
def yX1_putInstead : MethodName := ⟨RX1, "putInstead", "(IIII)V"⟩
abbrev cX1_reasonAgainst : ByteArray := prog_3_method_10_code
def yX1_reasonAgainst : MethodName := ⟨RX1, "reasonAgainst", "(II)I"⟩
abbrev cX1_reasonAgainstPass : ByteArray := prog_3_method_11_code
def yX1_reasonAgainstPass : MethodName := ⟨RX1, "reasonAgainstPass", "()I"⟩
abbrev cX1_makeMove : ByteArray := prog_3_method_12_code
def yX1_makeMove : MethodName := ⟨RX1, "makeMove", "(II)I"⟩
abbrev cX1_carryOut : ByteArray := prog_3_method_13_code
def yX1_carryOut : MethodName := ⟨RX1, "carryOut", "(II)I"⟩
abbrev cX1_springBehindTaking : ByteArray := prog_3_method_14_code
def yX1_springBehindTaking : MethodName := ⟨RX1, "springBehindTaking", "(II)I"⟩
abbrev cX1_makePass : ByteArray := prog_3_method_15_code
def yX1_makePass : MethodName := ⟨RX1, "makePass", "()V"⟩
abbrev cX1_beginTurn : ByteArray := prog_3_method_16_code
def yX1_beginTurn : MethodName := ⟨RX1, "beginTurn", "(I)V"⟩
def RX2 : String := "ClockworkChess"
def TX2 : u_T := fun k => match k with
  | 0 => ("ClockworkChess", "game", "LClockworkChess$Game;", true)
  | 1 => ("ClockworkChess", "trial", "LClockworkChess$Game;", true)
  | 2 => ("ClockworkChess", "states", "[LClockworkChess$Game;", true)
  | 3 => ("ClockworkChess", "stateCount", "I", false)
  | 4 => ("ClockworkChess", "text", "[C", true)
  | 5 => ("ClockworkChess", "textLength", "I", false)
  | 6 => ("ClockworkChess", "springLeft", "[I", false)
  | _ => ("ClockworkChess", "springLeftNext", "[I", false)
def tyX2 : Nat → FieldType := fun k => match k with
  | 0 => .object "ClockworkChess$Game"
  | 1 => .object "ClockworkChess$Game"
  | 2 => .array (.object "ClockworkChess$Game")
  | 3 => .int
  | 4 => .array .char
  | 5 => .int
  | 6 => .array .int
  | _ => .array .int
theorem nmX2 : ∀ a, a < 8 → ∀ b, b < 8 → a ≠ b → (TX2 a).2.1 ≠ (TX2 b).2.1 := by decide +kernel
theorem tyX2_ok : ∀ k, k < 8 → parseFieldDescriptor (TX2 k).2.2.1 = some (tyX2 k) := by decide +kernel
abbrev cX2_init : ByteArray := prog_1_method_1_code
def yX2_init : MethodName := ⟨RX2, "<init>", "()V"⟩
abbrev cX2_setUp : ByteArray := prog_1_method_2_code
def yX2_setUp : MethodName := ⟨RX2, "setUp", "()I"⟩
abbrev cX2_set : ByteArray := prog_1_method_3_code
def yX2_set : MethodName := ⟨RX2, "set", "(II)I"⟩
abbrev cX2_put : ByteArray := prog_1_method_4_code
def yX2_put : MethodName := ⟨RX2, "put", "(IIII)I"⟩
abbrev cX2_tower : ByteArray := prog_1_method_5_code
def yX2_tower : MethodName := ⟨RX2, "tower", "(I)I"⟩
abbrev cX2_cell : ByteArray := prog_1_method_6_code
def yX2_cell : MethodName := ⟨RX2, "cell", "(II)I"⟩
abbrev cX2_count : ByteArray := prog_1_method_7_code
def yX2_count : MethodName := ⟨RX2, "count", "(I)I"⟩
abbrev cX2_undo : ByteArray := prog_1_method_8_code
def yX2_undo : MethodName := ⟨RX2, "undo", "()I"⟩
abbrev cX2_move : ByteArray := prog_1_method_9_code
def yX2_move : MethodName := ⟨RX2, "move", "(II)I"⟩
abbrev cX2_pass : ByteArray := prog_1_method_10_code
def yX2_pass : MethodName := ⟨RX2, "pass", "()I"⟩
abbrev cX2_refusal : ByteArray := prog_1_method_11_code
def yX2_refusal : MethodName := ⟨RX2, "refusal", "(II)I"⟩
abbrev cX2_cost : ByteArray := prog_1_method_12_code
def yX2_cost : MethodName := ⟨RX2, "cost", "(II)I"⟩
abbrev cX2_moves : ByteArray := prog_1_method_13_code
def yX2_moves : MethodName := ⟨RX2, "moves", "(I)I"⟩
abbrev cX2_listed : ByteArray := prog_1_method_14_code
def yX2_listed : MethodName := ⟨RX2, "listed", "(II)I"⟩
abbrev cX2_struck : ByteArray := prog_1_method_15_code
def yX2_struck : MethodName := ⟨RX2, "struck", "(II)I"⟩
abbrev cX2_reach : ByteArray := prog_1_method_16_code
def yX2_reach : MethodName := ⟨RX2, "reach", "(II)I"⟩
abbrev cX2_replies : ByteArray := prog_1_method_17_code
def yX2_replies : MethodName := ⟨RX2, "replies", "()I"⟩
abbrev cX2_best : ByteArray := prog_1_method_18_code
def yX2_best : MethodName := ⟨RX2, "best", "()I"⟩
abbrev cX2_type : ByteArray := prog_1_method_19_code
def yX2_type : MethodName := ⟨RX2, "type", "(I)I"⟩
abbrev cX2_clearText : ByteArray := prog_1_method_20_code
def yX2_clearText : MethodName := ⟨RX2, "clearText", "()I"⟩
abbrev cX2_fault : ByteArray := prog_1_method_21_code
def yX2_fault : MethodName := ⟨RX2, "fault", "(I)I"⟩
abbrev cX2_play : ByteArray := prog_1_method_22_code
def yX2_play : MethodName := ⟨RX2, "play", "()I"⟩
abbrev cX2_isCell : ByteArray := prog_1_method_23_code
def yX2_isCell : MethodName := ⟨RX2, "isCell", "(I)Z"⟩
abbrev cX2_isSide : ByteArray := prog_1_method_24_code
def yX2_isSide : MethodName := ⟨RX2, "isSide", "(I)Z"⟩
abbrev cX2_isAccount : ByteArray := prog_1_method_25_code
def yX2_isAccount : MethodName := ⟨RX2, "isAccount", "(I)Z"⟩
abbrev cX2_isSetting : ByteArray := prog_1_method_26_code
def yX2_isSetting : MethodName := ⟨RX2, "isSetting", "(II)Z"⟩
abbrev cX2_record : ByteArray := prog_1_method_27_code
def yX2_record : MethodName := ⟨RX2, "record", "()V"⟩
abbrev cX2_makeReachWider : ByteArray := prog_1_method_28_code
def yX2_makeReachWider : MethodName := ⟨RX2, "makeReachWider", "(II)V"⟩
abbrev cX2_leaveFrom : ByteArray := prog_1_method_29_code
def yX2_leaveFrom : MethodName := ⟨RX2, "leaveFrom", "(I)V"⟩
abbrev cX2_cellsReached : ByteArray := prog_1_method_30_code
def yX2_cellsReached : MethodName := ⟨RX2, "cellsReached", "()I"⟩
abbrev cX2_gamesBehind : ByteArray := prog_1_method_31_code
def yX2_gamesBehind : MethodName := ⟨RX2, "gamesBehind", "(II)I"⟩
abbrev cX2_worthOf : ByteArray := prog_1_method_32_code
def yX2_worthOf : MethodName := ⟨RX2, "worthOf", "(II)I"⟩
abbrev cX2_tryText : ByteArray := prog_1_method_33_code
def yX2_tryText : MethodName := ⟨RX2, "tryText", "()I"⟩
abbrev cX2_signsOfForm : ByteArray := prog_1_method_34_code
def yX2_signsOfForm : MethodName := ⟨RX2, "signsOfForm", "(I)I"⟩
abbrev cX2_cellAt : ByteArray := prog_1_method_35_code
def yX2_cellAt : MethodName := ⟨RX2, "cellAt", "(I)I"⟩
abbrev cX2_signAt : ByteArray := prog_1_method_36_code
def yX2_signAt : MethodName := ⟨RX2, "signAt", "(I)C"⟩
abbrev cX2_movesInText : ByteArray := prog_1_method_37_code
def yX2_movesInText : MethodName := ⟨RX2, "movesInText", "()I"⟩
def RX3 : String := "ClockworkChessModel"
def TX3 : u_T := fun k => match k with
  | 0 => ("ClockworkChessModel", "st", "[I", true)
  | 1 => ("ClockworkChessModel", "past", "[I", true)
  | 2 => ("ClockworkChessModel", "aside", "[I", true)
  | 3 => ("ClockworkChessModel", "pasts", "I", false)
  | 4 => ("ClockworkChessModel", "text", "[I", true)
  | 5 => ("ClockworkChessModel", "length", "I", false)
  | 6 => ("ClockworkChessModel", "most", "[I", true)
  | 7 => ("ClockworkChessModel", "then", "[I", true)
  | 8 => ("ClockworkChessModel", "spot", "I", false)
  | 9 => ("ClockworkChessModel", "itsFrom", "I", false)
  | 10 => ("ClockworkChessModel", "itsTo", "I", false)
  | 11 => ("ClockworkChessModel", "from", "I", false)
  | _ => ("ClockworkChessModel", "many", "I", false)
def tyX3 : Nat → FieldType := fun k => match k with
  | 0 => .array .int
  | 1 => .array .int
  | 2 => .array .int
  | 3 => .int
  | 4 => .array .int
  | 5 => .int
  | 6 => .array .int
  | 7 => .array .int
  | 8 => .int
  | 9 => .int
  | 10 => .int
  | 11 => .int
  | _ => .int
theorem nmX3 : ∀ a, a < 13 → ∀ b, b < 13 → a ≠ b → (TX3 a).2.1 ≠ (TX3 b).2.1 := by decide +kernel
theorem tyX3_ok : ∀ k, k < 13 → parseFieldDescriptor (TX3 k).2.2.1 = some (tyX3 k) := by decide +kernel
abbrev cX3_init : ByteArray := prog_5_method_1_code
def yX3_init : MethodName := ⟨RX3, "<init>", "()V"⟩
abbrev cX3_in : ByteArray := prog_5_method_3_code
def yX3_in : MethodName := ⟨RX3, "in", "(III)Z"⟩
abbrev cX3_size : ByteArray := prog_5_method_4_code
def yX3_size : MethodName := ⟨RX3, "size", "(I)I"⟩
abbrev cX3_lesser : ByteArray := prog_5_method_5_code
def yX3_lesser : MethodName := ⟨RX3, "lesser", "(II)I"⟩
abbrev cX3_isCell : ByteArray := prog_5_method_6_code
def yX3_isCell : MethodName := ⟨RX3, "isCell", "(I)Z"⟩
abbrev cX3_isSide : ByteArray := prog_5_method_7_code
def yX3_isSide : MethodName := ⟨RX3, "isSide", "(I)Z"⟩
abbrev cX3_records : ByteArray := prog_5_method_8_code
def yX3_records : MethodName := ⟨RX3, "records", "()V"⟩
abbrev cX3_undo : ByteArray := prog_5_method_9_code
def yX3_undo : MethodName := ⟨RX3, "undo", "()I"⟩
abbrev cX3_laysAside : ByteArray := prog_5_method_10_code
def yX3_laysAside : MethodName := ⟨RX3, "laysAside", "()V"⟩
abbrev cX3_bringsBack : ByteArray := prog_5_method_11_code
def yX3_bringsBack : MethodName := ⟨RX3, "bringsBack", "()V"⟩
abbrev cX3_lays : ByteArray := prog_5_method_12_code
def yX3_lays : MethodName := ⟨RX3, "lays", "(IIII)V"⟩
abbrev cX3_springs : ByteArray := prog_5_method_13_code
def yX3_springs : MethodName := ⟨RX3, "springs", "(I)I"⟩
abbrev cX3_allSprings : ByteArray := prog_5_method_14_code
def yX3_allSprings : MethodName := ⟨RX3, "allSprings", "()I"⟩
abbrev cX3_begins : ByteArray := prog_5_method_15_code
def yX3_begins : MethodName := ⟨RX3, "begins", "()V"⟩
abbrev cX3_setUp : ByteArray := prog_5_method_16_code
def yX3_setUp : MethodName := ⟨RX3, "setUp", "()I"⟩
abbrev cX3_canBe : ByteArray := prog_5_method_17_code
def yX3_canBe : MethodName := ⟨RX3, "canBe", "(II)Z"⟩
abbrev cX3_set : ByteArray := prog_5_method_18_code
def yX3_set : MethodName := ⟨RX3, "set", "(II)I"⟩
abbrev cX3_put : ByteArray := prog_5_method_19_code
def yX3_put : MethodName := ⟨RX3, "put", "(IIII)I"⟩
abbrev cX3_towers : ByteArray := prog_5_method_20_code
def yX3_towers : MethodName := ⟨RX3, "towers", "()I"⟩
abbrev cX3_tower : ByteArray := prog_5_method_21_code
def yX3_tower : MethodName := ⟨RX3, "tower", "(I)I"⟩
abbrev cX3_cell : ByteArray := prog_5_method_22_code
def yX3_cell : MethodName := ⟨RX3, "cell", "(II)I"⟩
abbrev cX3_pieces : ByteArray := prog_5_method_23_code
def yX3_pieces : MethodName := ⟨RX3, "pieces", "()I"⟩
abbrev cX3_count : ByteArray := prog_5_method_24_code
def yX3_count : MethodName := ⟨RX3, "count", "(I)I"⟩
abbrev cX3_sign : ByteArray := prog_5_method_25_code
def yX3_sign : MethodName := ⟨RX3, "sign", "(I)I"⟩
abbrev cX3_isFree : ByteArray := prog_5_method_26_code
def yX3_isFree : MethodName := ⟨RX3, "isFree", "(II)Z"⟩
abbrev cX3_costBy : ByteArray := prog_5_method_27_code
def yX3_costBy : MethodName := ⟨RX3, "costBy", "(IIII)I"⟩
abbrev cX3_costOf : ByteArray := prog_5_method_28_code
def yX3_costOf : MethodName := ⟨RX3, "costOf", "(II)I"⟩
abbrev cX3_canGo : ByteArray := prog_5_method_29_code
def yX3_canGo : MethodName := ⟨RX3, "canGo", "(II)Z"⟩
abbrev cX3_movesFrom : ByteArray := prog_5_method_30_code
def yX3_movesFrom : MethodName := ⟨RX3, "movesFrom", "(I)I"⟩
abbrev cX3_movesOf : ByteArray := prog_5_method_31_code
def yX3_movesOf : MethodName := ⟨RX3, "movesOf", "(I)I"⟩
abbrev cX3_moveAt : ByteArray := prog_5_method_32_code
def yX3_moveAt : MethodName := ⟨RX3, "moveAt", "(II)I"⟩
abbrev cX3_goes : ByteArray := prog_5_method_33_code
def yX3_goes : MethodName := ⟨RX3, "goes", "(II)V"⟩
abbrev cX3_turns : ByteArray := prog_5_method_34_code
def yX3_turns : MethodName := ⟨RX3, "turns", "()V"⟩
abbrev cX3_makes : ByteArray := prog_5_method_35_code
def yX3_makes : MethodName := ⟨RX3, "makes", "(II)V"⟩
abbrev cX3_passes : ByteArray := prog_5_method_36_code
def yX3_passes : MethodName := ⟨RX3, "passes", "()V"⟩
abbrev cX3_refuses : ByteArray := prog_5_method_37_code
def yX3_refuses : MethodName := ⟨RX3, "refuses", "(II)I"⟩
abbrev cX3_refusesPass : ByteArray := prog_5_method_38_code
def yX3_refusesPass : MethodName := ⟨RX3, "refusesPass", "()I"⟩
abbrev cX3_move : ByteArray := prog_5_method_39_code
def yX3_move : MethodName := ⟨RX3, "move", "(II)I"⟩
abbrev cX3_pass : ByteArray := prog_5_method_40_code
def yX3_pass : MethodName := ⟨RX3, "pass", "()I"⟩
abbrev cX3_refusal : ByteArray := prog_5_method_41_code
def yX3_refusal : MethodName := ⟨RX3, "refusal", "(II)I"⟩
abbrev cX3_cost : ByteArray := prog_5_method_42_code
def yX3_cost : MethodName := ⟨RX3, "cost", "(II)I"⟩
abbrev cX3_moves : ByteArray := prog_5_method_43_code
def yX3_moves : MethodName := ⟨RX3, "moves", "(I)I"⟩
abbrev cX3_listed : ByteArray := prog_5_method_44_code
def yX3_listed : MethodName := ⟨RX3, "listed", "(II)I"⟩
abbrev cX3_struck : ByteArray := prog_5_method_45_code
def yX3_struck : MethodName := ⟨RX3, "struck", "(II)I"⟩
abbrev cX3_goesOn : ByteArray := prog_5_method_46_code
def yX3_goesOn : MethodName := ⟨RX3, "goesOn", "(II)V"⟩
abbrev cX3_reach : ByteArray := prog_5_method_47_code
def yX3_reach : MethodName := ⟨RX3, "reach", "(II)I"⟩
abbrev cX3_repliesTo : ByteArray := prog_5_method_48_code
def yX3_repliesTo : MethodName := ⟨RX3, "repliesTo", "(I)I"⟩
abbrev cX3_replies : ByteArray := prog_5_method_49_code
def yX3_replies : MethodName := ⟨RX3, "replies", "()I"⟩
abbrev cX3_goodFor : ByteArray := prog_5_method_50_code
def yX3_goodFor : MethodName := ⟨RX3, "goodFor", "(I)I"⟩
abbrev cX3_best : ByteArray := prog_5_method_51_code
def yX3_best : MethodName := ⟨RX3, "best", "()I"⟩
abbrev cX3_type : ByteArray := prog_5_method_52_code
def yX3_type : MethodName := ⟨RX3, "type", "(I)I"⟩
abbrev cX3_clearText : ByteArray := prog_5_method_53_code
def yX3_clearText : MethodName := ⟨RX3, "clearText", "()I"⟩
abbrev cX3_takes : ByteArray := prog_5_method_54_code
def yX3_takes : MethodName := ⟨RX3, "takes", "(I)Z"⟩
abbrev cX3_takesCell : ByteArray := prog_5_method_55_code
def yX3_takesCell : MethodName := ⟨RX3, "takesCell", "()I"⟩
abbrev cX3_isFormed : ByteArray := prog_5_method_56_code
def yX3_isFormed : MethodName := ⟨RX3, "isFormed", "()Z"⟩
abbrev cX3_does : ByteArray := prog_5_method_57_code
def yX3_does : MethodName := ⟨RX3, "does", "()I"⟩
abbrev cX3_reasonOfText : ByteArray := prog_5_method_58_code
def yX3_reasonOfText : MethodName := ⟨RX3, "reasonOfText", "()I"⟩
abbrev cX3_fault : ByteArray := prog_5_method_59_code
def yX3_fault : MethodName := ⟨RX3, "fault", "(I)I"⟩
abbrev cX3_play : ByteArray := prog_5_method_60_code
def yX3_play : MethodName := ⟨RX3, "play", "()I"⟩
def RJ6 : String := "java/lang/Integer"
def TJ6 : u_T := fun k => match k with
  | _ => ("", "", "", false)
def tyJ6 : Nat → FieldType := fun k => match k with
  | _ => .int
theorem nmJ6 : ∀ a, a < 0 → ∀ b, b < 0 → a ≠ b → (TJ6 a).2.1 ≠ (TJ6 b).2.1 := by decide +kernel
theorem tyJ6_ok : ∀ k, k < 0 → parseFieldDescriptor (TJ6 k).2.2.1 = some (tyJ6 k) := by decide +kernel
abbrev cJ6_compare_7cf53 : ByteArray := prog_6_method_40_code
def yJ6_compare_7cf53 : MethodName := ⟨RJ6, "compare", "(II)I"⟩
def RJ9 : String := "java/lang/Math"
def TJ9 : u_T := fun k => match k with
  | _ => ("", "", "", false)
def tyJ9 : Nat → FieldType := fun k => match k with
  | _ => .int
theorem nmJ9 : ∀ a, a < 0 → ∀ b, b < 0 → a ≠ b → (TJ9 a).2.1 ≠ (TJ9 b).2.1 := by decide +kernel
theorem tyJ9_ok : ∀ k, k < 0 → parseFieldDescriptor (TJ9 k).2.2.1 = some (tyJ9 k) := by decide +kernel
abbrev cJ9_abs_0f7a4 : ByteArray := prog_7_method_59_code
def yJ9_abs_0f7a4 : MethodName := ⟨RJ9, "abs", "(I)I"⟩
abbrev cJ9_max_7cf53 : ByteArray := prog_7_method_65_code
def yJ9_max_7cf53 : MethodName := ⟨RJ9, "max", "(II)I"⟩
abbrev cJ9_min_7cf53 : ByteArray := prog_7_method_69_code
def yJ9_min_7cf53 : MethodName := ⟨RJ9, "min", "(II)I"⟩
def RJ10 : String := "java/lang/System"
def TJ10 : u_T := fun k => match k with
  | _ => ("", "", "", false)
def tyJ10 : Nat → FieldType := fun k => match k with
  | _ => .int
theorem nmJ10 : ∀ a, a < 0 → ∀ b, b < 0 → a ≠ b → (TJ10 a).2.1 ≠ (TJ10 b).2.1 := by decide +kernel
theorem tyJ10_ok : ∀ k, k < 0 → parseFieldDescriptor (TJ10 k).2.2.1 = some (tyJ10 k) := by decide +kernel
def RL : String := "ClockworkChessLaw"
abbrev cL_law : ByteArray := code
def yL_law : MethodName := ⟨RL, "law", "([I)Z"⟩
theorem dX0_init_0 : decode cX0_init 0 = .ok (.aload_n 0, 1) := by decide +kernel
theorem dX0_init_1 : decode cX0_init 1 = .ok (.invokespecial 3, 3) := by decide +kernel
theorem dX0_init_4 : decode cX0_init 4 = .ok (.aload_n 0, 1) := by decide +kernel
theorem dX0_init_5 : decode cX0_init 5 = .ok (.bipush 36, 2) := by decide +kernel
theorem dX0_init_7 : decode cX0_init 7 = .ok (.newarray .int, 2) := by decide +kernel
theorem dX0_init_9 : decode cX0_init 9 = .ok (.putfield 9, 3) := by decide +kernel
theorem dX0_init_12 : decode cX0_init 12 = .ok (.aload_n 0, 1) := by decide +kernel
theorem dX0_init_13 : decode cX0_init 13 = .ok (.bipush 36, 2) := by decide +kernel
theorem dX0_init_15 : decode cX0_init 15 = .ok (.newarray .int, 2) := by decide +kernel
theorem dX0_init_17 : decode cX0_init 17 = .ok (.putfield 15, 3) := by decide +kernel
theorem dX0_init_20 : decode cX0_init 20 = .ok (.aload_n 0, 1) := by decide +kernel
theorem dX0_init_21 : decode cX0_init 21 = .ok (.bipush 36, 2) := by decide +kernel
theorem dX0_init_23 : decode cX0_init 23 = .ok (.newarray .int, 2) := by decide +kernel
theorem dX0_init_25 : decode cX0_init 25 = .ok (.putfield 18, 3) := by decide +kernel
theorem dX0_init_28 : decode cX0_init 28 = .ok (.aload_n 0, 1) := by decide +kernel
theorem dX0_init_29 : decode cX0_init 29 = .ok (.bipush 36, 2) := by decide +kernel
theorem dX0_init_31 : decode cX0_init 31 = .ok (.newarray .int, 2) := by decide +kernel
theorem dX0_init_33 : decode cX0_init 33 = .ok (.putfield 21, 3) := by decide +kernel
theorem dX0_init_36 : decode cX0_init 36 = .ok (.return_, 1) := by decide +kernel
theorem dX0_copyFrom_0 : decode cX0_copyFrom 0 = .ok (.aload_n 1, 1) := by decide +kernel
theorem dX0_copyFrom_1 : decode cX0_copyFrom 1 = .ok (.getfield 9, 3) := by decide +kernel
theorem dX0_copyFrom_4 : decode cX0_copyFrom 4 = .ok (.iconst 0, 1) := by decide +kernel
theorem dX0_copyFrom_5 : decode cX0_copyFrom 5 = .ok (.aload_n 0, 1) := by decide +kernel
theorem dX0_copyFrom_6 : decode cX0_copyFrom 6 = .ok (.getfield 9, 3) := by decide +kernel
theorem dX0_copyFrom_9 : decode cX0_copyFrom 9 = .ok (.iconst 0, 1) := by decide +kernel
theorem dX0_copyFrom_10 : decode cX0_copyFrom 10 = .ok (.bipush 36, 2) := by decide +kernel
theorem dX0_copyFrom_12 : decode cX0_copyFrom 12 = .ok (.invokestatic 24, 3) := by decide +kernel
theorem dX0_copyFrom_15 : decode cX0_copyFrom 15 = .ok (.aload_n 1, 1) := by decide +kernel
theorem dX0_copyFrom_16 : decode cX0_copyFrom 16 = .ok (.getfield 15, 3) := by decide +kernel
theorem dX0_copyFrom_19 : decode cX0_copyFrom 19 = .ok (.iconst 0, 1) := by decide +kernel
theorem dX0_copyFrom_20 : decode cX0_copyFrom 20 = .ok (.aload_n 0, 1) := by decide +kernel
theorem dX0_copyFrom_21 : decode cX0_copyFrom 21 = .ok (.getfield 15, 3) := by decide +kernel
theorem dX0_copyFrom_24 : decode cX0_copyFrom 24 = .ok (.iconst 0, 1) := by decide +kernel
theorem dX0_copyFrom_25 : decode cX0_copyFrom 25 = .ok (.bipush 36, 2) := by decide +kernel
theorem dX0_copyFrom_27 : decode cX0_copyFrom 27 = .ok (.invokestatic 24, 3) := by decide +kernel
theorem dX0_copyFrom_30 : decode cX0_copyFrom 30 = .ok (.aload_n 1, 1) := by decide +kernel
theorem dX0_copyFrom_31 : decode cX0_copyFrom 31 = .ok (.getfield 18, 3) := by decide +kernel
theorem dX0_copyFrom_34 : decode cX0_copyFrom 34 = .ok (.iconst 0, 1) := by decide +kernel
theorem dX0_copyFrom_35 : decode cX0_copyFrom 35 = .ok (.aload_n 0, 1) := by decide +kernel
theorem dX0_copyFrom_36 : decode cX0_copyFrom 36 = .ok (.getfield 18, 3) := by decide +kernel
theorem dX0_copyFrom_39 : decode cX0_copyFrom 39 = .ok (.iconst 0, 1) := by decide +kernel
theorem dX0_copyFrom_40 : decode cX0_copyFrom 40 = .ok (.bipush 36, 2) := by decide +kernel
theorem dX0_copyFrom_42 : decode cX0_copyFrom 42 = .ok (.invokestatic 24, 3) := by decide +kernel
theorem dX0_copyFrom_45 : decode cX0_copyFrom 45 = .ok (.aload_n 1, 1) := by decide +kernel
theorem dX0_copyFrom_46 : decode cX0_copyFrom 46 = .ok (.getfield 21, 3) := by decide +kernel
theorem dX0_copyFrom_49 : decode cX0_copyFrom 49 = .ok (.iconst 0, 1) := by decide +kernel
theorem dX0_copyFrom_50 : decode cX0_copyFrom 50 = .ok (.aload_n 0, 1) := by decide +kernel
theorem dX0_copyFrom_51 : decode cX0_copyFrom 51 = .ok (.getfield 21, 3) := by decide +kernel
theorem dX0_copyFrom_54 : decode cX0_copyFrom 54 = .ok (.iconst 0, 1) := by decide +kernel
theorem dX0_copyFrom_55 : decode cX0_copyFrom 55 = .ok (.bipush 36, 2) := by decide +kernel
theorem dX0_copyFrom_57 : decode cX0_copyFrom 57 = .ok (.invokestatic 24, 3) := by decide +kernel
theorem dX0_copyFrom_60 : decode cX0_copyFrom 60 = .ok (.return_, 1) := by decide +kernel
theorem dX0_arrange_0 : decode cX0_arrange 0 = .ok (.iconst 0, 1) := by decide +kernel
theorem dX0_arrange_1 : decode cX0_arrange 1 = .ok (.istore_n 2, 1) := by decide +kernel
theorem dX0_arrange_2 : decode cX0_arrange 2 = .ok (.iload_n 2, 1) := by decide +kernel
theorem dX0_arrange_3 : decode cX0_arrange 3 = .ok (.bipush 36, 2) := by decide +kernel
theorem dX0_arrange_5 : decode cX0_arrange 5 = .ok (.if_icmp .ge 20, 3) := by decide +kernel
theorem dX0_arrange_8 : decode cX0_arrange 8 = .ok (.aload_n 0, 1) := by decide +kernel
theorem dX0_arrange_9 : decode cX0_arrange 9 = .ok (.iload_n 2, 1) := by decide +kernel
theorem dX0_arrange_10 : decode cX0_arrange 10 = .ok (.invokevirtual 30, 3) := by decide +kernel
theorem dX0_arrange_13 : decode cX0_arrange 13 = .ok (.aload_n 0, 1) := by decide +kernel
theorem dX0_arrange_14 : decode cX0_arrange 14 = .ok (.iload_n 2, 1) := by decide +kernel
theorem dX0_arrange_15 : decode cX0_arrange 15 = .ok (.iconst 0, 1) := by decide +kernel
theorem dX0_arrange_16 : decode cX0_arrange 16 = .ok (.invokevirtual 34, 3) := by decide +kernel
theorem dX0_arrange_19 : decode cX0_arrange 19 = .ok (.iinc 2 1, 3) := by decide +kernel
theorem dX0_arrange_22 : decode cX0_arrange 22 = .ok (.goto (-20), 3) := by decide +kernel
theorem dX0_arrange_25 : decode cX0_arrange 25 = .ok (.iconst 0, 1) := by decide +kernel
theorem dX0_arrange_26 : decode cX0_arrange 26 = .ok (.istore_n 2, 1) := by decide +kernel
theorem dX0_arrange_27 : decode cX0_arrange 27 = .ok (.iload_n 2, 1) := by decide +kernel
theorem dX0_arrange_28 : decode cX0_arrange 28 = .ok (.getstatic 38, 3) := by decide +kernel
theorem dX0_arrange_31 : decode cX0_arrange 31 = .ok (.arraylength, 1) := by decide +kernel
theorem dX0_arrange_32 : decode cX0_arrange 32 = .ok (.if_icmp .ge 58, 3) := by decide +kernel
theorem dX0_arrange_35 : decode cX0_arrange 35 = .ok (.aload_n 0, 1) := by decide +kernel
theorem dX0_arrange_36 : decode cX0_arrange 36 = .ok (.iload_n 2, 1) := by decide +kernel
theorem dX0_arrange_37 : decode cX0_arrange 37 = .ok (.iconst 0, 1) := by decide +kernel
theorem dX0_arrange_38 : decode cX0_arrange 38 = .ok (.getstatic 38, 3) := by decide +kernel
theorem dX0_arrange_41 : decode cX0_arrange 41 = .ok (.iload_n 2, 1) := by decide +kernel
theorem dX0_arrange_42 : decode cX0_arrange 42 = .ok (.iaload, 1) := by decide +kernel
theorem dX0_arrange_43 : decode cX0_arrange 43 = .ok (.iload_n 1, 1) := by decide +kernel
theorem dX0_arrange_44 : decode cX0_arrange 44 = .ok (.invokevirtual 41, 3) := by decide +kernel
theorem dX0_arrange_47 : decode cX0_arrange 47 = .ok (.aload_n 0, 1) := by decide +kernel
theorem dX0_arrange_48 : decode cX0_arrange 48 = .ok (.bipush 6, 2) := by decide +kernel
theorem dX0_arrange_50 : decode cX0_arrange 50 = .ok (.iload_n 2, 1) := by decide +kernel
theorem dX0_arrange_51 : decode cX0_arrange 51 = .ok (.iadd, 1) := by decide +kernel
theorem dX0_arrange_52 : decode cX0_arrange 52 = .ok (.iconst 0, 1) := by decide +kernel
theorem dX0_arrange_53 : decode cX0_arrange 53 = .ok (.iconst 4, 1) := by decide +kernel
theorem dX0_arrange_54 : decode cX0_arrange 54 = .ok (.iload_n 1, 1) := by decide +kernel
theorem dX0_arrange_55 : decode cX0_arrange 55 = .ok (.invokevirtual 41, 3) := by decide +kernel
theorem dX0_arrange_58 : decode cX0_arrange 58 = .ok (.aload_n 0, 1) := by decide +kernel
theorem dX0_arrange_59 : decode cX0_arrange 59 = .ok (.bipush 24, 2) := by decide +kernel
theorem dX0_arrange_61 : decode cX0_arrange 61 = .ok (.iload_n 2, 1) := by decide +kernel
theorem dX0_arrange_62 : decode cX0_arrange 62 = .ok (.iadd, 1) := by decide +kernel
theorem dX0_arrange_63 : decode cX0_arrange 63 = .ok (.iconst 1, 1) := by decide +kernel
theorem dX0_arrange_64 : decode cX0_arrange 64 = .ok (.iconst 4, 1) := by decide +kernel
theorem dX0_arrange_65 : decode cX0_arrange 65 = .ok (.iload_n 1, 1) := by decide +kernel
theorem dX0_arrange_66 : decode cX0_arrange 66 = .ok (.invokevirtual 41, 3) := by decide +kernel
theorem dX0_arrange_69 : decode cX0_arrange 69 = .ok (.aload_n 0, 1) := by decide +kernel
theorem dX0_arrange_70 : decode cX0_arrange 70 = .ok (.bipush 30, 2) := by decide +kernel
theorem dX0_arrange_72 : decode cX0_arrange 72 = .ok (.iload_n 2, 1) := by decide +kernel
theorem dX0_arrange_73 : decode cX0_arrange 73 = .ok (.iadd, 1) := by decide +kernel
theorem dX0_arrange_74 : decode cX0_arrange 74 = .ok (.iconst 1, 1) := by decide +kernel
theorem dX0_arrange_75 : decode cX0_arrange 75 = .ok (.getstatic 38, 3) := by decide +kernel
theorem dX0_arrange_78 : decode cX0_arrange 78 = .ok (.iload_n 2, 1) := by decide +kernel
theorem dX0_arrange_79 : decode cX0_arrange 79 = .ok (.iaload, 1) := by decide +kernel
theorem dX0_arrange_80 : decode cX0_arrange 80 = .ok (.iload_n 1, 1) := by decide +kernel
theorem dX0_arrange_81 : decode cX0_arrange 81 = .ok (.invokevirtual 41, 3) := by decide +kernel
theorem dX0_arrange_84 : decode cX0_arrange 84 = .ok (.iinc 2 1, 3) := by decide +kernel
theorem dX0_arrange_87 : decode cX0_arrange 87 = .ok (.goto (-60), 3) := by decide +kernel
theorem dX0_arrange_90 : decode cX0_arrange 90 = .ok (.iconst 0, 1) := by decide +kernel
theorem dX0_arrange_91 : decode cX0_arrange 91 = .ok (.istore_n 2, 1) := by decide +kernel
theorem dX0_arrange_92 : decode cX0_arrange 92 = .ok (.iload_n 2, 1) := by decide +kernel
theorem dX0_arrange_93 : decode cX0_arrange 93 = .ok (.getstatic 45, 3) := by decide +kernel
theorem dX0_arrange_96 : decode cX0_arrange 96 = .ok (.arraylength, 1) := by decide +kernel
theorem dX0_arrange_97 : decode cX0_arrange 97 = .ok (.if_icmp .ge 19, 3) := by decide +kernel
theorem dX0_arrange_100 : decode cX0_arrange 100 = .ok (.aload_n 0, 1) := by decide +kernel
theorem dX0_arrange_101 : decode cX0_arrange 101 = .ok (.getstatic 45, 3) := by decide +kernel
theorem dX0_arrange_104 : decode cX0_arrange 104 = .ok (.iload_n 2, 1) := by decide +kernel
theorem dX0_arrange_105 : decode cX0_arrange 105 = .ok (.iaload, 1) := by decide +kernel
theorem dX0_arrange_106 : decode cX0_arrange 106 = .ok (.iconst 1, 1) := by decide +kernel
theorem dX0_arrange_107 : decode cX0_arrange 107 = .ok (.invokevirtual 34, 3) := by decide +kernel
theorem dX0_arrange_110 : decode cX0_arrange 110 = .ok (.iinc 2 1, 3) := by decide +kernel
theorem dX0_arrange_113 : decode cX0_arrange 113 = .ok (.goto (-21), 3) := by decide +kernel
theorem dX0_arrange_116 : decode cX0_arrange 116 = .ok (.return_, 1) := by decide +kernel
theorem dX0_place_0 : decode cX0_place 0 = .ok (.iload_n 1, 1) := by decide +kernel
theorem dX0_place_1 : decode cX0_place 1 = .ok (.invokestatic 48, 3) := by decide +kernel
theorem dX0_place_4 : decode cX0_place 4 = .ok (.ifCond .eq 25, 3) := by decide +kernel
theorem dX0_place_7 : decode cX0_place 7 = .ok (.aload_n 0, 1) := by decide +kernel
theorem dX0_place_8 : decode cX0_place 8 = .ok (.getfield 9, 3) := by decide +kernel
theorem dX0_place_11 : decode cX0_place 11 = .ok (.iload_n 1, 1) := by decide +kernel
theorem dX0_place_12 : decode cX0_place 12 = .ok (.iload_n 2, 1) := by decide +kernel
theorem dX0_place_13 : decode cX0_place 13 = .ok (.iastore, 1) := by decide +kernel
theorem dX0_place_14 : decode cX0_place 14 = .ok (.aload_n 0, 1) := by decide +kernel
theorem dX0_place_15 : decode cX0_place 15 = .ok (.getfield 15, 3) := by decide +kernel
theorem dX0_place_18 : decode cX0_place 18 = .ok (.iload_n 1, 1) := by decide +kernel
theorem dX0_place_19 : decode cX0_place 19 = .ok (.iload_n 3, 1) := by decide +kernel
theorem dX0_place_20 : decode cX0_place 20 = .ok (.iastore, 1) := by decide +kernel
theorem dX0_place_21 : decode cX0_place 21 = .ok (.aload_n 0, 1) := by decide +kernel
theorem dX0_place_22 : decode cX0_place 22 = .ok (.getfield 18, 3) := by decide +kernel
theorem dX0_place_25 : decode cX0_place 25 = .ok (.iload_n 1, 1) := by decide +kernel
theorem dX0_place_26 : decode cX0_place 26 = .ok (.iload 4, 2) := by decide +kernel
theorem dX0_place_28 : decode cX0_place 28 = .ok (.iastore, 1) := by decide +kernel
theorem dX0_place_29 : decode cX0_place 29 = .ok (.return_, 1) := by decide +kernel
theorem dX0_empty_0 : decode cX0_empty 0 = .ok (.aload_n 0, 1) := by decide +kernel
theorem dX0_empty_1 : decode cX0_empty 1 = .ok (.iload_n 1, 1) := by decide +kernel
theorem dX0_empty_2 : decode cX0_empty 2 = .ok (.iconst (-1), 1) := by decide +kernel
theorem dX0_empty_3 : decode cX0_empty 3 = .ok (.iconst 0, 1) := by decide +kernel
theorem dX0_empty_4 : decode cX0_empty 4 = .ok (.iconst 0, 1) := by decide +kernel
theorem dX0_empty_5 : decode cX0_empty 5 = .ok (.invokevirtual 41, 3) := by decide +kernel
theorem dX0_empty_8 : decode cX0_empty 8 = .ok (.return_, 1) := by decide +kernel
theorem dX0_changeSpring_0 : decode cX0_changeSpring 0 = .ok (.iload_n 1, 1) := by decide +kernel
theorem dX0_changeSpring_1 : decode cX0_changeSpring 1 = .ok (.invokestatic 48, 3) := by decide +kernel
theorem dX0_changeSpring_4 : decode cX0_changeSpring 4 = .ok (.ifCond .eq 10, 3) := by decide +kernel
theorem dX0_changeSpring_7 : decode cX0_changeSpring 7 = .ok (.aload_n 0, 1) := by decide +kernel
theorem dX0_changeSpring_8 : decode cX0_changeSpring 8 = .ok (.getfield 18, 3) := by decide +kernel
theorem dX0_changeSpring_11 : decode cX0_changeSpring 11 = .ok (.iload_n 1, 1) := by decide +kernel
theorem dX0_changeSpring_12 : decode cX0_changeSpring 12 = .ok (.iload_n 2, 1) := by decide +kernel
theorem dX0_changeSpring_13 : decode cX0_changeSpring 13 = .ok (.iastore, 1) := by decide +kernel
theorem dX0_changeSpring_14 : decode cX0_changeSpring 14 = .ok (.return_, 1) := by decide +kernel
theorem dX0_markTower_0 : decode cX0_markTower 0 = .ok (.iload_n 1, 1) := by decide +kernel
theorem dX0_markTower_1 : decode cX0_markTower 1 = .ok (.invokestatic 48, 3) := by decide +kernel
theorem dX0_markTower_4 : decode cX0_markTower 4 = .ok (.ifCond .eq 18, 3) := by decide +kernel
theorem dX0_markTower_7 : decode cX0_markTower 7 = .ok (.aload_n 0, 1) := by decide +kernel
theorem dX0_markTower_8 : decode cX0_markTower 8 = .ok (.getfield 21, 3) := by decide +kernel
theorem dX0_markTower_11 : decode cX0_markTower 11 = .ok (.iload_n 1, 1) := by decide +kernel
theorem dX0_markTower_12 : decode cX0_markTower 12 = .ok (.iload_n 2, 1) := by decide +kernel
theorem dX0_markTower_13 : decode cX0_markTower 13 = .ok (.ifCond .eq 7, 3) := by decide +kernel
theorem dX0_markTower_16 : decode cX0_markTower 16 = .ok (.iconst 1, 1) := by decide +kernel
theorem dX0_markTower_17 : decode cX0_markTower 17 = .ok (.goto 4, 3) := by decide +kernel
theorem dX0_markTower_20 : decode cX0_markTower 20 = .ok (.iconst 0, 1) := by decide +kernel
theorem dX0_markTower_21 : decode cX0_markTower 21 = .ok (.iastore, 1) := by decide +kernel
theorem dX0_markTower_22 : decode cX0_markTower 22 = .ok (.return_, 1) := by decide +kernel
theorem dX0_sideOn_0 : decode cX0_sideOn 0 = .ok (.iload_n 1, 1) := by decide +kernel
theorem dX0_sideOn_1 : decode cX0_sideOn 1 = .ok (.invokestatic 48, 3) := by decide +kernel
theorem dX0_sideOn_4 : decode cX0_sideOn 4 = .ok (.ifCond .eq 12, 3) := by decide +kernel
theorem dX0_sideOn_7 : decode cX0_sideOn 7 = .ok (.aload_n 0, 1) := by decide +kernel
theorem dX0_sideOn_8 : decode cX0_sideOn 8 = .ok (.getfield 9, 3) := by decide +kernel
theorem dX0_sideOn_11 : decode cX0_sideOn 11 = .ok (.iload_n 1, 1) := by decide +kernel
theorem dX0_sideOn_12 : decode cX0_sideOn 12 = .ok (.iaload, 1) := by decide +kernel
theorem dX0_sideOn_13 : decode cX0_sideOn 13 = .ok (.goto 4, 3) := by decide +kernel
theorem dX0_sideOn_16 : decode cX0_sideOn 16 = .ok (.iconst (-1), 1) := by decide +kernel
theorem dX0_sideOn_17 : decode cX0_sideOn 17 = .ok (.ireturn, 1) := by decide +kernel
theorem dX0_hasPiece_0 : decode cX0_hasPiece 0 = .ok (.aload_n 0, 1) := by decide +kernel
theorem dX0_hasPiece_1 : decode cX0_hasPiece 1 = .ok (.iload_n 1, 1) := by decide +kernel
theorem dX0_hasPiece_2 : decode cX0_hasPiece 2 = .ok (.invokevirtual 52, 3) := by decide +kernel
theorem dX0_hasPiece_5 : decode cX0_hasPiece 5 = .ok (.iconst (-1), 1) := by decide +kernel
theorem dX0_hasPiece_6 : decode cX0_hasPiece 6 = .ok (.if_icmp .eq 7, 3) := by decide +kernel
theorem dX0_hasPiece_9 : decode cX0_hasPiece 9 = .ok (.iconst 1, 1) := by decide +kernel
theorem dX0_hasPiece_10 : decode cX0_hasPiece 10 = .ok (.goto 4, 3) := by decide +kernel
theorem dX0_hasPiece_13 : decode cX0_hasPiece 13 = .ok (.iconst 0, 1) := by decide +kernel
theorem dX0_hasPiece_14 : decode cX0_hasPiece 14 = .ok (.ireturn, 1) := by decide +kernel
theorem dX0_kindOn_0 : decode cX0_kindOn 0 = .ok (.iload_n 1, 1) := by decide +kernel
theorem dX0_kindOn_1 : decode cX0_kindOn 1 = .ok (.invokestatic 48, 3) := by decide +kernel
theorem dX0_kindOn_4 : decode cX0_kindOn 4 = .ok (.ifCond .eq 12, 3) := by decide +kernel
theorem dX0_kindOn_7 : decode cX0_kindOn 7 = .ok (.aload_n 0, 1) := by decide +kernel
theorem dX0_kindOn_8 : decode cX0_kindOn 8 = .ok (.getfield 15, 3) := by decide +kernel
theorem dX0_kindOn_11 : decode cX0_kindOn 11 = .ok (.iload_n 1, 1) := by decide +kernel
theorem dX0_kindOn_12 : decode cX0_kindOn 12 = .ok (.iaload, 1) := by decide +kernel
theorem dX0_kindOn_13 : decode cX0_kindOn 13 = .ok (.goto 4, 3) := by decide +kernel
theorem dX0_kindOn_16 : decode cX0_kindOn 16 = .ok (.iconst 0, 1) := by decide +kernel
theorem dX0_kindOn_17 : decode cX0_kindOn 17 = .ok (.ireturn, 1) := by decide +kernel
theorem dX0_springOn_0 : decode cX0_springOn 0 = .ok (.iload_n 1, 1) := by decide +kernel
theorem dX0_springOn_1 : decode cX0_springOn 1 = .ok (.invokestatic 48, 3) := by decide +kernel
theorem dX0_springOn_4 : decode cX0_springOn 4 = .ok (.ifCond .eq 12, 3) := by decide +kernel
theorem dX0_springOn_7 : decode cX0_springOn 7 = .ok (.aload_n 0, 1) := by decide +kernel
theorem dX0_springOn_8 : decode cX0_springOn 8 = .ok (.getfield 18, 3) := by decide +kernel
theorem dX0_springOn_11 : decode cX0_springOn 11 = .ok (.iload_n 1, 1) := by decide +kernel
theorem dX0_springOn_12 : decode cX0_springOn 12 = .ok (.iaload, 1) := by decide +kernel
theorem dX0_springOn_13 : decode cX0_springOn 13 = .ok (.goto 4, 3) := by decide +kernel
theorem dX0_springOn_16 : decode cX0_springOn 16 = .ok (.iconst 0, 1) := by decide +kernel
theorem dX0_springOn_17 : decode cX0_springOn 17 = .ok (.ireturn, 1) := by decide +kernel
theorem dX0_isTower_0 : decode cX0_isTower 0 = .ok (.iload_n 1, 1) := by decide +kernel
theorem dX0_isTower_1 : decode cX0_isTower 1 = .ok (.invokestatic 48, 3) := by decide +kernel
theorem dX0_isTower_4 : decode cX0_isTower 4 = .ok (.ifCond .eq 17, 3) := by decide +kernel
theorem dX0_isTower_7 : decode cX0_isTower 7 = .ok (.aload_n 0, 1) := by decide +kernel
theorem dX0_isTower_8 : decode cX0_isTower 8 = .ok (.getfield 21, 3) := by decide +kernel
theorem dX0_isTower_11 : decode cX0_isTower 11 = .ok (.iload_n 1, 1) := by decide +kernel
theorem dX0_isTower_12 : decode cX0_isTower 12 = .ok (.iaload, 1) := by decide +kernel
theorem dX0_isTower_13 : decode cX0_isTower 13 = .ok (.iconst 1, 1) := by decide +kernel
theorem dX0_isTower_14 : decode cX0_isTower 14 = .ok (.if_icmp .ne 7, 3) := by decide +kernel
theorem dX0_isTower_17 : decode cX0_isTower 17 = .ok (.iconst 1, 1) := by decide +kernel
theorem dX0_isTower_18 : decode cX0_isTower 18 = .ok (.goto 4, 3) := by decide +kernel
theorem dX0_isTower_21 : decode cX0_isTower 21 = .ok (.iconst 0, 1) := by decide +kernel
theorem dX0_isTower_22 : decode cX0_isTower 22 = .ok (.ireturn, 1) := by decide +kernel
theorem dX0_springsOf_0 : decode cX0_springsOf 0 = .ok (.iconst 0, 1) := by decide +kernel
theorem dX0_springsOf_1 : decode cX0_springsOf 1 = .ok (.istore_n 2, 1) := by decide +kernel
theorem dX0_springsOf_2 : decode cX0_springsOf 2 = .ok (.iconst 0, 1) := by decide +kernel
theorem dX0_springsOf_3 : decode cX0_springsOf 3 = .ok (.istore_n 3, 1) := by decide +kernel
theorem dX0_springsOf_4 : decode cX0_springsOf 4 = .ok (.iload_n 3, 1) := by decide +kernel
theorem dX0_springsOf_5 : decode cX0_springsOf 5 = .ok (.bipush 36, 2) := by decide +kernel
theorem dX0_springsOf_7 : decode cX0_springsOf 7 = .ok (.if_icmp .ge 28, 3) := by decide +kernel
theorem dX0_springsOf_10 : decode cX0_springsOf 10 = .ok (.aload_n 0, 1) := by decide +kernel
theorem dX0_springsOf_11 : decode cX0_springsOf 11 = .ok (.getfield 9, 3) := by decide +kernel
theorem dX0_springsOf_14 : decode cX0_springsOf 14 = .ok (.iload_n 3, 1) := by decide +kernel
theorem dX0_springsOf_15 : decode cX0_springsOf 15 = .ok (.iaload, 1) := by decide +kernel
theorem dX0_springsOf_16 : decode cX0_springsOf 16 = .ok (.iload_n 1, 1) := by decide +kernel
theorem dX0_springsOf_17 : decode cX0_springsOf 17 = .ok (.if_icmp .ne 12, 3) := by decide +kernel
theorem dX0_springsOf_20 : decode cX0_springsOf 20 = .ok (.iload_n 2, 1) := by decide +kernel
theorem dX0_springsOf_21 : decode cX0_springsOf 21 = .ok (.aload_n 0, 1) := by decide +kernel
theorem dX0_springsOf_22 : decode cX0_springsOf 22 = .ok (.getfield 18, 3) := by decide +kernel
theorem dX0_springsOf_25 : decode cX0_springsOf 25 = .ok (.iload_n 3, 1) := by decide +kernel
theorem dX0_springsOf_26 : decode cX0_springsOf 26 = .ok (.iaload, 1) := by decide +kernel
theorem dX0_springsOf_27 : decode cX0_springsOf 27 = .ok (.iadd, 1) := by decide +kernel
theorem dX0_springsOf_28 : decode cX0_springsOf 28 = .ok (.istore_n 2, 1) := by decide +kernel
theorem dX0_springsOf_29 : decode cX0_springsOf 29 = .ok (.iinc 3 1, 3) := by decide +kernel
theorem dX0_springsOf_32 : decode cX0_springsOf 32 = .ok (.goto (-28), 3) := by decide +kernel
theorem dX0_springsOf_35 : decode cX0_springsOf 35 = .ok (.iload_n 2, 1) := by decide +kernel
theorem dX0_springsOf_36 : decode cX0_springsOf 36 = .ok (.ireturn, 1) := by decide +kernel
theorem dX0_springsInAll_0 : decode cX0_springsInAll 0 = .ok (.aload_n 0, 1) := by decide +kernel
theorem dX0_springsInAll_1 : decode cX0_springsInAll 1 = .ok (.iconst 0, 1) := by decide +kernel
theorem dX0_springsInAll_2 : decode cX0_springsInAll 2 = .ok (.invokevirtual 56, 3) := by decide +kernel
theorem dX0_springsInAll_5 : decode cX0_springsInAll 5 = .ok (.aload_n 0, 1) := by decide +kernel
theorem dX0_springsInAll_6 : decode cX0_springsInAll 6 = .ok (.iconst 1, 1) := by decide +kernel
theorem dX0_springsInAll_7 : decode cX0_springsInAll 7 = .ok (.invokevirtual 56, 3) := by decide +kernel
theorem dX0_springsInAll_10 : decode cX0_springsInAll 10 = .ok (.iadd, 1) := by decide +kernel
theorem dX0_springsInAll_11 : decode cX0_springsInAll 11 = .ok (.ireturn, 1) := by decide +kernel
theorem dX0_piecesInAll_0 : decode cX0_piecesInAll 0 = .ok (.iconst 0, 1) := by decide +kernel
theorem dX0_piecesInAll_1 : decode cX0_piecesInAll 1 = .ok (.istore_n 1, 1) := by decide +kernel
theorem dX0_piecesInAll_2 : decode cX0_piecesInAll 2 = .ok (.iconst 0, 1) := by decide +kernel
theorem dX0_piecesInAll_3 : decode cX0_piecesInAll 3 = .ok (.istore_n 2, 1) := by decide +kernel
theorem dX0_piecesInAll_4 : decode cX0_piecesInAll 4 = .ok (.iload_n 2, 1) := by decide +kernel
theorem dX0_piecesInAll_5 : decode cX0_piecesInAll 5 = .ok (.bipush 36, 2) := by decide +kernel
theorem dX0_piecesInAll_7 : decode cX0_piecesInAll 7 = .ok (.if_icmp .ge 22, 3) := by decide +kernel
theorem dX0_piecesInAll_10 : decode cX0_piecesInAll 10 = .ok (.aload_n 0, 1) := by decide +kernel
theorem dX0_piecesInAll_11 : decode cX0_piecesInAll 11 = .ok (.getfield 9, 3) := by decide +kernel
theorem dX0_piecesInAll_14 : decode cX0_piecesInAll 14 = .ok (.iload_n 2, 1) := by decide +kernel
theorem dX0_piecesInAll_15 : decode cX0_piecesInAll 15 = .ok (.iaload, 1) := by decide +kernel
theorem dX0_piecesInAll_16 : decode cX0_piecesInAll 16 = .ok (.iconst (-1), 1) := by decide +kernel
theorem dX0_piecesInAll_17 : decode cX0_piecesInAll 17 = .ok (.if_icmp .eq 6, 3) := by decide +kernel
theorem dX0_piecesInAll_20 : decode cX0_piecesInAll 20 = .ok (.iinc 1 1, 3) := by decide +kernel
theorem dX0_piecesInAll_23 : decode cX0_piecesInAll 23 = .ok (.iinc 2 1, 3) := by decide +kernel
theorem dX0_piecesInAll_26 : decode cX0_piecesInAll 26 = .ok (.goto (-22), 3) := by decide +kernel
theorem dX0_piecesInAll_29 : decode cX0_piecesInAll 29 = .ok (.iload_n 1, 1) := by decide +kernel
theorem dX0_piecesInAll_30 : decode cX0_piecesInAll 30 = .ok (.ireturn, 1) := by decide +kernel
theorem dX0_towersInAll_0 : decode cX0_towersInAll 0 = .ok (.iconst 0, 1) := by decide +kernel
theorem dX0_towersInAll_1 : decode cX0_towersInAll 1 = .ok (.istore_n 1, 1) := by decide +kernel
theorem dX0_towersInAll_2 : decode cX0_towersInAll 2 = .ok (.iconst 0, 1) := by decide +kernel
theorem dX0_towersInAll_3 : decode cX0_towersInAll 3 = .ok (.istore_n 2, 1) := by decide +kernel
theorem dX0_towersInAll_4 : decode cX0_towersInAll 4 = .ok (.iload_n 2, 1) := by decide +kernel
theorem dX0_towersInAll_5 : decode cX0_towersInAll 5 = .ok (.bipush 36, 2) := by decide +kernel
theorem dX0_towersInAll_7 : decode cX0_towersInAll 7 = .ok (.if_icmp .ge 18, 3) := by decide +kernel
theorem dX0_towersInAll_10 : decode cX0_towersInAll 10 = .ok (.iload_n 1, 1) := by decide +kernel
theorem dX0_towersInAll_11 : decode cX0_towersInAll 11 = .ok (.aload_n 0, 1) := by decide +kernel
theorem dX0_towersInAll_12 : decode cX0_towersInAll 12 = .ok (.getfield 21, 3) := by decide +kernel
theorem dX0_towersInAll_15 : decode cX0_towersInAll 15 = .ok (.iload_n 2, 1) := by decide +kernel
theorem dX0_towersInAll_16 : decode cX0_towersInAll 16 = .ok (.iaload, 1) := by decide +kernel
theorem dX0_towersInAll_17 : decode cX0_towersInAll 17 = .ok (.iadd, 1) := by decide +kernel
theorem dX0_towersInAll_18 : decode cX0_towersInAll 18 = .ok (.istore_n 1, 1) := by decide +kernel
theorem dX0_towersInAll_19 : decode cX0_towersInAll 19 = .ok (.iinc 2 1, 3) := by decide +kernel
theorem dX0_towersInAll_22 : decode cX0_towersInAll 22 = .ok (.goto (-18), 3) := by decide +kernel
theorem dX0_towersInAll_25 : decode cX0_towersInAll 25 = .ok (.iload_n 1, 1) := by decide +kernel
theorem dX0_towersInAll_26 : decode cX0_towersInAll 26 = .ok (.ireturn, 1) := by decide +kernel
theorem dX0_movesOf_0 : decode cX0_movesOf 0 = .ok (.iconst 0, 1) := by decide +kernel
theorem dX0_movesOf_1 : decode cX0_movesOf 1 = .ok (.istore_n 2, 1) := by decide +kernel
theorem dX0_movesOf_2 : decode cX0_movesOf 2 = .ok (.iconst 0, 1) := by decide +kernel
theorem dX0_movesOf_3 : decode cX0_movesOf 3 = .ok (.istore_n 3, 1) := by decide +kernel
theorem dX0_movesOf_4 : decode cX0_movesOf 4 = .ok (.iload_n 3, 1) := by decide +kernel
theorem dX0_movesOf_5 : decode cX0_movesOf 5 = .ok (.bipush 36, 2) := by decide +kernel
theorem dX0_movesOf_7 : decode cX0_movesOf 7 = .ok (.if_icmp .ge 48, 3) := by decide +kernel
theorem dX0_movesOf_10 : decode cX0_movesOf 10 = .ok (.iconst 0, 1) := by decide +kernel
theorem dX0_movesOf_11 : decode cX0_movesOf 11 = .ok (.istore 4, 2) := by decide +kernel
theorem dX0_movesOf_13 : decode cX0_movesOf 13 = .ok (.aload_n 0, 1) := by decide +kernel
theorem dX0_movesOf_14 : decode cX0_movesOf 14 = .ok (.getfield 9, 3) := by decide +kernel
theorem dX0_movesOf_17 : decode cX0_movesOf 17 = .ok (.iload_n 3, 1) := by decide +kernel
theorem dX0_movesOf_18 : decode cX0_movesOf 18 = .ok (.iaload, 1) := by decide +kernel
theorem dX0_movesOf_19 : decode cX0_movesOf 19 = .ok (.iload_n 1, 1) := by decide +kernel
theorem dX0_movesOf_20 : decode cX0_movesOf 20 = .ok (.if_icmp .ne 29, 3) := by decide +kernel
theorem dX0_movesOf_23 : decode cX0_movesOf 23 = .ok (.iload 4, 2) := by decide +kernel
theorem dX0_movesOf_25 : decode cX0_movesOf 25 = .ok (.bipush 36, 2) := by decide +kernel
theorem dX0_movesOf_27 : decode cX0_movesOf 27 = .ok (.if_icmp .ge 22, 3) := by decide +kernel
theorem dX0_movesOf_30 : decode cX0_movesOf 30 = .ok (.aload_n 0, 1) := by decide +kernel
theorem dX0_movesOf_31 : decode cX0_movesOf 31 = .ok (.iload_n 3, 1) := by decide +kernel
theorem dX0_movesOf_32 : decode cX0_movesOf 32 = .ok (.iload 4, 2) := by decide +kernel
theorem dX0_movesOf_34 : decode cX0_movesOf 34 = .ok (.invokevirtual 59, 3) := by decide +kernel
theorem dX0_movesOf_37 : decode cX0_movesOf 37 = .ok (.ifCond .eq 6, 3) := by decide +kernel
theorem dX0_movesOf_40 : decode cX0_movesOf 40 = .ok (.iinc 2 1, 3) := by decide +kernel
theorem dX0_movesOf_43 : decode cX0_movesOf 43 = .ok (.iinc 4 1, 3) := by decide +kernel
theorem dX0_movesOf_46 : decode cX0_movesOf 46 = .ok (.goto (-33), 3) := by decide +kernel
theorem dX0_movesOf_49 : decode cX0_movesOf 49 = .ok (.iinc 3 1, 3) := by decide +kernel
theorem dX0_movesOf_52 : decode cX0_movesOf 52 = .ok (.goto (-48), 3) := by decide +kernel
theorem dX0_movesOf_55 : decode cX0_movesOf 55 = .ok (.iload_n 2, 1) := by decide +kernel
theorem dX0_movesOf_56 : decode cX0_movesOf 56 = .ok (.ireturn, 1) := by decide +kernel
theorem dX0_movesFrom_0 : decode cX0_movesFrom 0 = .ok (.iconst 0, 1) := by decide +kernel
theorem dX0_movesFrom_1 : decode cX0_movesFrom 1 = .ok (.istore_n 2, 1) := by decide +kernel
theorem dX0_movesFrom_2 : decode cX0_movesFrom 2 = .ok (.iconst 0, 1) := by decide +kernel
theorem dX0_movesFrom_3 : decode cX0_movesFrom 3 = .ok (.istore_n 3, 1) := by decide +kernel
theorem dX0_movesFrom_4 : decode cX0_movesFrom 4 = .ok (.iload_n 3, 1) := by decide +kernel
theorem dX0_movesFrom_5 : decode cX0_movesFrom 5 = .ok (.bipush 36, 2) := by decide +kernel
theorem dX0_movesFrom_7 : decode cX0_movesFrom 7 = .ok (.if_icmp .ge 21, 3) := by decide +kernel
theorem dX0_movesFrom_10 : decode cX0_movesFrom 10 = .ok (.aload_n 0, 1) := by decide +kernel
theorem dX0_movesFrom_11 : decode cX0_movesFrom 11 = .ok (.iload_n 1, 1) := by decide +kernel
theorem dX0_movesFrom_12 : decode cX0_movesFrom 12 = .ok (.iload_n 3, 1) := by decide +kernel
theorem dX0_movesFrom_13 : decode cX0_movesFrom 13 = .ok (.invokevirtual 59, 3) := by decide +kernel
theorem dX0_movesFrom_16 : decode cX0_movesFrom 16 = .ok (.ifCond .eq 6, 3) := by decide +kernel
theorem dX0_movesFrom_19 : decode cX0_movesFrom 19 = .ok (.iinc 2 1, 3) := by decide +kernel
theorem dX0_movesFrom_22 : decode cX0_movesFrom 22 = .ok (.iinc 3 1, 3) := by decide +kernel
theorem dX0_movesFrom_25 : decode cX0_movesFrom 25 = .ok (.goto (-21), 3) := by decide +kernel
theorem dX0_movesFrom_28 : decode cX0_movesFrom 28 = .ok (.iload_n 2, 1) := by decide +kernel
theorem dX0_movesFrom_29 : decode cX0_movesFrom 29 = .ok (.ireturn, 1) := by decide +kernel
theorem dX0_canMove_0 : decode cX0_canMove 0 = .ok (.aload_n 0, 1) := by decide +kernel
theorem dX0_canMove_1 : decode cX0_canMove 1 = .ok (.iload_n 1, 1) := by decide +kernel
theorem dX0_canMove_2 : decode cX0_canMove 2 = .ok (.iload_n 2, 1) := by decide +kernel
theorem dX0_canMove_3 : decode cX0_canMove 3 = .ok (.invokevirtual 63, 3) := by decide +kernel
theorem dX0_canMove_6 : decode cX0_canMove 6 = .ok (.istore_n 3, 1) := by decide +kernel
theorem dX0_canMove_7 : decode cX0_canMove 7 = .ok (.iload_n 3, 1) := by decide +kernel
theorem dX0_canMove_8 : decode cX0_canMove 8 = .ok (.ifCond .le 16, 3) := by decide +kernel
theorem dX0_canMove_11 : decode cX0_canMove 11 = .ok (.iload_n 3, 1) := by decide +kernel
theorem dX0_canMove_12 : decode cX0_canMove 12 = .ok (.aload_n 0, 1) := by decide +kernel
theorem dX0_canMove_13 : decode cX0_canMove 13 = .ok (.iload_n 1, 1) := by decide +kernel
theorem dX0_canMove_14 : decode cX0_canMove 14 = .ok (.invokevirtual 67, 3) := by decide +kernel
theorem dX0_canMove_17 : decode cX0_canMove 17 = .ok (.if_icmp .gt 7, 3) := by decide +kernel
theorem dX0_canMove_20 : decode cX0_canMove 20 = .ok (.iconst 1, 1) := by decide +kernel
theorem dX0_canMove_21 : decode cX0_canMove 21 = .ok (.goto 4, 3) := by decide +kernel
theorem dX0_canMove_24 : decode cX0_canMove 24 = .ok (.iconst 0, 1) := by decide +kernel
theorem dX0_canMove_25 : decode cX0_canMove 25 = .ok (.ireturn, 1) := by decide +kernel
theorem dX0_price_0 : decode cX0_price 0 = .ok (.aload_n 0, 1) := by decide +kernel
theorem dX0_price_1 : decode cX0_price 1 = .ok (.iload_n 1, 1) := by decide +kernel
theorem dX0_price_2 : decode cX0_price 2 = .ok (.invokevirtual 52, 3) := by decide +kernel
theorem dX0_price_5 : decode cX0_price 5 = .ok (.istore_n 3, 1) := by decide +kernel
theorem dX0_price_6 : decode cX0_price 6 = .ok (.aload_n 0, 1) := by decide +kernel
theorem dX0_price_7 : decode cX0_price 7 = .ok (.iload_n 2, 1) := by decide +kernel
theorem dX0_price_8 : decode cX0_price 8 = .ok (.invokevirtual 52, 3) := by decide +kernel
theorem dX0_price_11 : decode cX0_price 11 = .ok (.istore 4, 2) := by decide +kernel
theorem dX0_price_13 : decode cX0_price 13 = .ok (.iload_n 3, 1) := by decide +kernel
theorem dX0_price_14 : decode cX0_price 14 = .ok (.iconst (-1), 1) := by decide +kernel
theorem dX0_price_15 : decode cX0_price 15 = .ok (.if_icmp .eq 9, 3) := by decide +kernel
theorem dX0_price_18 : decode cX0_price 18 = .ok (.iload 4, 2) := by decide +kernel
theorem dX0_price_20 : decode cX0_price 20 = .ok (.iload_n 3, 1) := by decide +kernel
theorem dX0_price_21 : decode cX0_price 21 = .ok (.if_icmp .ne 5, 3) := by decide +kernel
theorem dX0_price_24 : decode cX0_price 24 = .ok (.iconst 0, 1) := by decide +kernel
theorem dX0_price_25 : decode cX0_price 25 = .ok (.ireturn, 1) := by decide +kernel
theorem dX0_price_26 : decode cX0_price 26 = .ok (.iload_n 2, 1) := by decide +kernel
theorem dX0_price_27 : decode cX0_price 27 = .ok (.bipush 6, 2) := by decide +kernel
theorem dX0_price_29 : decode cX0_price 29 = .ok (.irem, 1) := by decide +kernel
theorem dX0_price_30 : decode cX0_price 30 = .ok (.iload_n 1, 1) := by decide +kernel
theorem dX0_price_31 : decode cX0_price 31 = .ok (.bipush 6, 2) := by decide +kernel
theorem dX0_price_33 : decode cX0_price 33 = .ok (.irem, 1) := by decide +kernel
theorem dX0_price_34 : decode cX0_price 34 = .ok (.isub, 1) := by decide +kernel
theorem dX0_price_35 : decode cX0_price 35 = .ok (.istore 5, 2) := by decide +kernel
theorem dX0_price_37 : decode cX0_price 37 = .ok (.iload_n 2, 1) := by decide +kernel
theorem dX0_price_38 : decode cX0_price 38 = .ok (.bipush 6, 2) := by decide +kernel
theorem dX0_price_40 : decode cX0_price 40 = .ok (.idiv, 1) := by decide +kernel
theorem dX0_price_41 : decode cX0_price 41 = .ok (.iload_n 1, 1) := by decide +kernel
theorem dX0_price_42 : decode cX0_price 42 = .ok (.bipush 6, 2) := by decide +kernel
theorem dX0_price_44 : decode cX0_price 44 = .ok (.idiv, 1) := by decide +kernel
theorem dX0_price_45 : decode cX0_price 45 = .ok (.isub, 1) := by decide +kernel
theorem dX0_price_46 : decode cX0_price 46 = .ok (.istore 6, 2) := by decide +kernel
theorem dX0_price_48 : decode cX0_price 48 = .ok (.iload 5, 2) := by decide +kernel
theorem dX0_price_50 : decode cX0_price 50 = .ok (.invokestatic 70, 3) := by decide +kernel
theorem dX0_price_53 : decode cX0_price 53 = .ok (.istore 7, 2) := by decide +kernel
theorem dX0_price_55 : decode cX0_price 55 = .ok (.iload 6, 2) := by decide +kernel
theorem dX0_price_57 : decode cX0_price 57 = .ok (.invokestatic 70, 3) := by decide +kernel
theorem dX0_price_60 : decode cX0_price 60 = .ok (.istore 8, 2) := by decide +kernel
theorem dX0_price_62 : decode cX0_price 62 = .ok (.aload_n 0, 1) := by decide +kernel
theorem dX0_price_63 : decode cX0_price 63 = .ok (.iload_n 1, 1) := by decide +kernel
theorem dX0_price_64 : decode cX0_price 64 = .ok (.invokevirtual 75, 3) := by decide +kernel
theorem dX0_price_67 : decode cX0_price 67 = .ok (.tableswitch 106 0 3 #[29, 46, 70, 91], 29) := by decide +kernel
theorem dX0_price_96 : decode cX0_price 96 = .ok (.iload 7, 2) := by decide +kernel
theorem dX0_price_98 : decode cX0_price 98 = .ok (.iload 8, 2) := by decide +kernel
theorem dX0_price_100 : decode cX0_price 100 = .ok (.invokestatic 78, 3) := by decide +kernel
theorem dX0_price_103 : decode cX0_price 103 = .ok (.iconst 1, 1) := by decide +kernel
theorem dX0_price_104 : decode cX0_price 104 = .ok (.if_icmp .ne 7, 3) := by decide +kernel
theorem dX0_price_107 : decode cX0_price 107 = .ok (.iconst 1, 1) := by decide +kernel
theorem dX0_price_108 : decode cX0_price 108 = .ok (.goto 4, 3) := by decide +kernel
theorem dX0_price_111 : decode cX0_price 111 = .ok (.iconst 0, 1) := by decide +kernel
theorem dX0_price_112 : decode cX0_price 112 = .ok (.ireturn, 1) := by decide +kernel
theorem dX0_price_113 : decode cX0_price 113 = .ok (.iload 7, 2) := by decide +kernel
theorem dX0_price_115 : decode cX0_price 115 = .ok (.ifCond .eq 8, 3) := by decide +kernel
theorem dX0_price_118 : decode cX0_price 118 = .ok (.iload 8, 2) := by decide +kernel
theorem dX0_price_120 : decode cX0_price 120 = .ok (.ifCond .ne 15, 3) := by decide +kernel
theorem dX0_price_123 : decode cX0_price 123 = .ok (.aload_n 0, 1) := by decide +kernel
theorem dX0_price_124 : decode cX0_price 124 = .ok (.iload_n 1, 1) := by decide +kernel
theorem dX0_price_125 : decode cX0_price 125 = .ok (.iload 5, 2) := by decide +kernel
theorem dX0_price_127 : decode cX0_price 127 = .ok (.iload 6, 2) := by decide +kernel
theorem dX0_price_129 : decode cX0_price 129 = .ok (.invokevirtual 81, 3) := by decide +kernel
theorem dX0_price_132 : decode cX0_price 132 = .ok (.goto 4, 3) := by decide +kernel
theorem dX0_price_135 : decode cX0_price 135 = .ok (.iconst 0, 1) := by decide +kernel
theorem dX0_price_136 : decode cX0_price 136 = .ok (.ireturn, 1) := by decide +kernel
theorem dX0_price_137 : decode cX0_price 137 = .ok (.iload 7, 2) := by decide +kernel
theorem dX0_price_139 : decode cX0_price 139 = .ok (.iload 8, 2) := by decide +kernel
theorem dX0_price_141 : decode cX0_price 141 = .ok (.if_icmp .ne 15, 3) := by decide +kernel
theorem dX0_price_144 : decode cX0_price 144 = .ok (.aload_n 0, 1) := by decide +kernel
theorem dX0_price_145 : decode cX0_price 145 = .ok (.iload_n 1, 1) := by decide +kernel
theorem dX0_price_146 : decode cX0_price 146 = .ok (.iload 5, 2) := by decide +kernel
theorem dX0_price_148 : decode cX0_price 148 = .ok (.iload 6, 2) := by decide +kernel
theorem dX0_price_150 : decode cX0_price 150 = .ok (.invokevirtual 81, 3) := by decide +kernel
theorem dX0_price_153 : decode cX0_price 153 = .ok (.goto 4, 3) := by decide +kernel
theorem dX0_price_156 : decode cX0_price 156 = .ok (.iconst 0, 1) := by decide +kernel
theorem dX0_price_157 : decode cX0_price 157 = .ok (.ireturn, 1) := by decide +kernel
theorem dX0_price_158 : decode cX0_price 158 = .ok (.iload 7, 2) := by decide +kernel
theorem dX0_price_160 : decode cX0_price 160 = .ok (.iload 8, 2) := by decide +kernel
theorem dX0_price_162 : decode cX0_price 162 = .ok (.imul, 1) := by decide +kernel
theorem dX0_price_163 : decode cX0_price 163 = .ok (.iconst 2, 1) := by decide +kernel
theorem dX0_price_164 : decode cX0_price 164 = .ok (.if_icmp .ne 7, 3) := by decide +kernel
theorem dX0_price_167 : decode cX0_price 167 = .ok (.iconst 2, 1) := by decide +kernel
theorem dX0_price_168 : decode cX0_price 168 = .ok (.goto 4, 3) := by decide +kernel
theorem dX0_price_171 : decode cX0_price 171 = .ok (.iconst 0, 1) := by decide +kernel
theorem dX0_price_172 : decode cX0_price 172 = .ok (.ireturn, 1) := by decide +kernel
theorem dX0_price_173 : decode cX0_price 173 = .ok (.iload_n 3, 1) := by decide +kernel
theorem dX0_price_174 : decode cX0_price 174 = .ok (.ifCond .ne 7, 3) := by decide +kernel
theorem dX0_price_177 : decode cX0_price 177 = .ok (.iconst 1, 1) := by decide +kernel
theorem dX0_price_178 : decode cX0_price 178 = .ok (.goto 4, 3) := by decide +kernel
theorem dX0_price_181 : decode cX0_price 181 = .ok (.iconst (-1), 1) := by decide +kernel
theorem dX0_price_182 : decode cX0_price 182 = .ok (.istore 9, 2) := by decide +kernel
theorem dX0_price_184 : decode cX0_price 184 = .ok (.iload 6, 2) := by decide +kernel
theorem dX0_price_186 : decode cX0_price 186 = .ok (.iload 9, 2) := by decide +kernel
theorem dX0_price_188 : decode cX0_price 188 = .ok (.if_icmp .ne 23, 3) := by decide +kernel
theorem dX0_price_191 : decode cX0_price 191 = .ok (.iload 7, 2) := by decide +kernel
theorem dX0_price_193 : decode cX0_price 193 = .ok (.iload 4, 2) := by decide +kernel
theorem dX0_price_195 : decode cX0_price 195 = .ok (.iconst (-1), 1) := by decide +kernel
theorem dX0_price_196 : decode cX0_price 196 = .ok (.if_icmp .ne 7, 3) := by decide +kernel
theorem dX0_price_199 : decode cX0_price 199 = .ok (.iconst 0, 1) := by decide +kernel
theorem dX0_price_200 : decode cX0_price 200 = .ok (.goto 4, 3) := by decide +kernel
theorem dX0_price_203 : decode cX0_price 203 = .ok (.iconst 1, 1) := by decide +kernel
theorem dX0_price_204 : decode cX0_price 204 = .ok (.if_icmp .ne 7, 3) := by decide +kernel
theorem dX0_price_207 : decode cX0_price 207 = .ok (.iconst 1, 1) := by decide +kernel
theorem dX0_price_208 : decode cX0_price 208 = .ok (.goto 4, 3) := by decide +kernel
theorem dX0_price_211 : decode cX0_price 211 = .ok (.iconst 0, 1) := by decide +kernel
theorem dX0_price_212 : decode cX0_price 212 = .ok (.ireturn, 1) := by decide +kernel
theorem dX0_priceAlong_0 : decode cX0_priceAlong 0 = .ok (.iload_n 2, 1) := by decide +kernel
theorem dX0_priceAlong_1 : decode cX0_priceAlong 1 = .ok (.invokestatic 70, 3) := by decide +kernel
theorem dX0_priceAlong_4 : decode cX0_priceAlong 4 = .ok (.iload_n 3, 1) := by decide +kernel
theorem dX0_priceAlong_5 : decode cX0_priceAlong 5 = .ok (.invokestatic 70, 3) := by decide +kernel
theorem dX0_priceAlong_8 : decode cX0_priceAlong 8 = .ok (.invokestatic 78, 3) := by decide +kernel
theorem dX0_priceAlong_11 : decode cX0_priceAlong 11 = .ok (.istore 4, 2) := by decide +kernel
theorem dX0_priceAlong_13 : decode cX0_priceAlong 13 = .ok (.bipush 6, 2) := by decide +kernel
theorem dX0_priceAlong_15 : decode cX0_priceAlong 15 = .ok (.iload_n 3, 1) := by decide +kernel
theorem dX0_priceAlong_16 : decode cX0_priceAlong 16 = .ok (.iconst 0, 1) := by decide +kernel
theorem dX0_priceAlong_17 : decode cX0_priceAlong 17 = .ok (.invokestatic 85, 3) := by decide +kernel
theorem dX0_priceAlong_20 : decode cX0_priceAlong 20 = .ok (.imul, 1) := by decide +kernel
theorem dX0_priceAlong_21 : decode cX0_priceAlong 21 = .ok (.iload_n 2, 1) := by decide +kernel
theorem dX0_priceAlong_22 : decode cX0_priceAlong 22 = .ok (.iconst 0, 1) := by decide +kernel
theorem dX0_priceAlong_23 : decode cX0_priceAlong 23 = .ok (.invokestatic 85, 3) := by decide +kernel
theorem dX0_priceAlong_26 : decode cX0_priceAlong 26 = .ok (.iadd, 1) := by decide +kernel
theorem dX0_priceAlong_27 : decode cX0_priceAlong 27 = .ok (.istore 5, 2) := by decide +kernel
theorem dX0_priceAlong_29 : decode cX0_priceAlong 29 = .ok (.iconst 1, 1) := by decide +kernel
theorem dX0_priceAlong_30 : decode cX0_priceAlong 30 = .ok (.istore 6, 2) := by decide +kernel
theorem dX0_priceAlong_32 : decode cX0_priceAlong 32 = .ok (.iload 6, 2) := by decide +kernel
theorem dX0_priceAlong_34 : decode cX0_priceAlong 34 = .ok (.iload 4, 2) := by decide +kernel
theorem dX0_priceAlong_36 : decode cX0_priceAlong 36 = .ok (.if_icmp .ge 43, 3) := by decide +kernel
theorem dX0_priceAlong_39 : decode cX0_priceAlong 39 = .ok (.iload_n 1, 1) := by decide +kernel
theorem dX0_priceAlong_40 : decode cX0_priceAlong 40 = .ok (.iload 6, 2) := by decide +kernel
theorem dX0_priceAlong_42 : decode cX0_priceAlong 42 = .ok (.iload 5, 2) := by decide +kernel
theorem dX0_priceAlong_44 : decode cX0_priceAlong 44 = .ok (.imul, 1) := by decide +kernel
theorem dX0_priceAlong_45 : decode cX0_priceAlong 45 = .ok (.iadd, 1) := by decide +kernel
theorem dX0_priceAlong_46 : decode cX0_priceAlong 46 = .ok (.istore 7, 2) := by decide +kernel
theorem dX0_priceAlong_48 : decode cX0_priceAlong 48 = .ok (.iload 7, 2) := by decide +kernel
theorem dX0_priceAlong_50 : decode cX0_priceAlong 50 = .ok (.ifCond .lt 21, 3) := by decide +kernel
theorem dX0_priceAlong_53 : decode cX0_priceAlong 53 = .ok (.iload 7, 2) := by decide +kernel
theorem dX0_priceAlong_55 : decode cX0_priceAlong 55 = .ok (.bipush 36, 2) := by decide +kernel
theorem dX0_priceAlong_57 : decode cX0_priceAlong 57 = .ok (.if_icmp .ge 14, 3) := by decide +kernel
theorem dX0_priceAlong_60 : decode cX0_priceAlong 60 = .ok (.aload_n 0, 1) := by decide +kernel
theorem dX0_priceAlong_61 : decode cX0_priceAlong 61 = .ok (.getfield 9, 3) := by decide +kernel
theorem dX0_priceAlong_64 : decode cX0_priceAlong 64 = .ok (.iload 7, 2) := by decide +kernel
theorem dX0_priceAlong_66 : decode cX0_priceAlong 66 = .ok (.iaload, 1) := by decide +kernel
theorem dX0_priceAlong_67 : decode cX0_priceAlong 67 = .ok (.iconst (-1), 1) := by decide +kernel
theorem dX0_priceAlong_68 : decode cX0_priceAlong 68 = .ok (.if_icmp .eq 5, 3) := by decide +kernel
theorem dX0_priceAlong_71 : decode cX0_priceAlong 71 = .ok (.iconst 0, 1) := by decide +kernel
theorem dX0_priceAlong_72 : decode cX0_priceAlong 72 = .ok (.ireturn, 1) := by decide +kernel
theorem dX0_priceAlong_73 : decode cX0_priceAlong 73 = .ok (.iinc 6 1, 3) := by decide +kernel
theorem dX0_priceAlong_76 : decode cX0_priceAlong 76 = .ok (.goto (-44), 3) := by decide +kernel
theorem dX0_priceAlong_79 : decode cX0_priceAlong 79 = .ok (.iload 4, 2) := by decide +kernel
theorem dX0_priceAlong_81 : decode cX0_priceAlong 81 = .ok (.ireturn, 1) := by decide +kernel
theorem dX1_init_0 : decode cX1_init 0 = .ok (.aload_n 0, 1) := by decide +kernel
theorem dX1_init_1 : decode cX1_init 1 = .ok (.invokespecial 3, 3) := by decide +kernel
theorem dX1_init_4 : decode cX1_init 4 = .ok (.aload_n 0, 1) := by decide +kernel
theorem dX1_init_5 : decode cX1_init 5 = .ok (.new 9, 3) := by decide +kernel
theorem dX1_init_8 : decode cX1_init 8 = .ok (.dup, 1) := by decide +kernel
theorem dX1_init_9 : decode cX1_init 9 = .ok (.invokespecial 11, 3) := by decide +kernel
theorem dX1_init_12 : decode cX1_init 12 = .ok (.putfield 12, 3) := by decide +kernel
theorem dX1_init_15 : decode cX1_init 15 = .ok (.aload_n 0, 1) := by decide +kernel
theorem dX1_init_16 : decode cX1_init 16 = .ok (.bipush 9, 2) := by decide +kernel
theorem dX1_init_18 : decode cX1_init 18 = .ok (.putfield 18, 3) := by decide +kernel
theorem dX1_init_21 : decode cX1_init 21 = .ok (.aload_n 0, 1) := by decide +kernel
theorem dX1_init_22 : decode cX1_init 22 = .ok (.iconst 1, 1) := by decide +kernel
theorem dX1_init_23 : decode cX1_init 23 = .ok (.putfield 22, 3) := by decide +kernel
theorem dX1_init_26 : decode cX1_init 26 = .ok (.aload_n 0, 1) := by decide +kernel
theorem dX1_init_27 : decode cX1_init 27 = .ok (.iconst 2, 1) := by decide +kernel
theorem dX1_init_28 : decode cX1_init 28 = .ok (.putfield 25, 3) := by decide +kernel
theorem dX1_init_31 : decode cX1_init 31 = .ok (.aload_n 0, 1) := by decide +kernel
theorem dX1_init_32 : decode cX1_init 32 = .ok (.iconst (-1), 1) := by decide +kernel
theorem dX1_init_33 : decode cX1_init 33 = .ok (.putfield 28, 3) := by decide +kernel
theorem dX1_init_36 : decode cX1_init 36 = .ok (.return_, 1) := by decide +kernel
theorem dX1_copyFrom_0 : decode cX1_copyFrom 0 = .ok (.aload_n 0, 1) := by decide +kernel
theorem dX1_copyFrom_1 : decode cX1_copyFrom 1 = .ok (.getfield 12, 3) := by decide +kernel
theorem dX1_copyFrom_4 : decode cX1_copyFrom 4 = .ok (.aload_n 1, 1) := by decide +kernel
theorem dX1_copyFrom_5 : decode cX1_copyFrom 5 = .ok (.getfield 12, 3) := by decide +kernel
theorem dX1_copyFrom_8 : decode cX1_copyFrom 8 = .ok (.invokevirtual 31, 3) := by decide +kernel
theorem dX1_copyFrom_11 : decode cX1_copyFrom 11 = .ok (.aload_n 0, 1) := by decide +kernel
theorem dX1_copyFrom_12 : decode cX1_copyFrom 12 = .ok (.aload_n 1, 1) := by decide +kernel
theorem dX1_copyFrom_13 : decode cX1_copyFrom 13 = .ok (.getfield 18, 3) := by decide +kernel
theorem dX1_copyFrom_16 : decode cX1_copyFrom 16 = .ok (.putfield 18, 3) := by decide +kernel
theorem dX1_copyFrom_19 : decode cX1_copyFrom 19 = .ok (.aload_n 0, 1) := by decide +kernel
theorem dX1_copyFrom_20 : decode cX1_copyFrom 20 = .ok (.aload_n 1, 1) := by decide +kernel
theorem dX1_copyFrom_21 : decode cX1_copyFrom 21 = .ok (.getfield 22, 3) := by decide +kernel
theorem dX1_copyFrom_24 : decode cX1_copyFrom 24 = .ok (.putfield 22, 3) := by decide +kernel
theorem dX1_copyFrom_27 : decode cX1_copyFrom 27 = .ok (.aload_n 0, 1) := by decide +kernel
theorem dX1_copyFrom_28 : decode cX1_copyFrom 28 = .ok (.aload_n 1, 1) := by decide +kernel
theorem dX1_copyFrom_29 : decode cX1_copyFrom 29 = .ok (.getfield 25, 3) := by decide +kernel
theorem dX1_copyFrom_32 : decode cX1_copyFrom 32 = .ok (.putfield 25, 3) := by decide +kernel
theorem dX1_copyFrom_35 : decode cX1_copyFrom 35 = .ok (.aload_n 0, 1) := by decide +kernel
theorem dX1_copyFrom_36 : decode cX1_copyFrom 36 = .ok (.aload_n 1, 1) := by decide +kernel
theorem dX1_copyFrom_37 : decode cX1_copyFrom 37 = .ok (.getfield 35, 3) := by decide +kernel
theorem dX1_copyFrom_40 : decode cX1_copyFrom 40 = .ok (.putfield 35, 3) := by decide +kernel
theorem dX1_copyFrom_43 : decode cX1_copyFrom 43 = .ok (.aload_n 0, 1) := by decide +kernel
theorem dX1_copyFrom_44 : decode cX1_copyFrom 44 = .ok (.aload_n 1, 1) := by decide +kernel
theorem dX1_copyFrom_45 : decode cX1_copyFrom 45 = .ok (.getfield 38, 3) := by decide +kernel
theorem dX1_copyFrom_48 : decode cX1_copyFrom 48 = .ok (.putfield 38, 3) := by decide +kernel
theorem dX1_copyFrom_51 : decode cX1_copyFrom 51 = .ok (.aload_n 0, 1) := by decide +kernel
theorem dX1_copyFrom_52 : decode cX1_copyFrom 52 = .ok (.aload_n 1, 1) := by decide +kernel
theorem dX1_copyFrom_53 : decode cX1_copyFrom 53 = .ok (.getfield 28, 3) := by decide +kernel
theorem dX1_copyFrom_56 : decode cX1_copyFrom 56 = .ok (.putfield 28, 3) := by decide +kernel
theorem dX1_copyFrom_59 : decode cX1_copyFrom 59 = .ok (.aload_n 0, 1) := by decide +kernel
theorem dX1_copyFrom_60 : decode cX1_copyFrom 60 = .ok (.aload_n 1, 1) := by decide +kernel
theorem dX1_copyFrom_61 : decode cX1_copyFrom 61 = .ok (.getfield 41, 3) := by decide +kernel
theorem dX1_copyFrom_64 : decode cX1_copyFrom 64 = .ok (.putfield 41, 3) := by decide +kernel
theorem dX1_copyFrom_67 : decode cX1_copyFrom 67 = .ok (.aload_n 0, 1) := by decide +kernel
theorem dX1_copyFrom_68 : decode cX1_copyFrom 68 = .ok (.aload_n 1, 1) := by decide +kernel
theorem dX1_copyFrom_69 : decode cX1_copyFrom 69 = .ok (.getfield 44, 3) := by decide +kernel
theorem dX1_copyFrom_72 : decode cX1_copyFrom 72 = .ok (.putfield 44, 3) := by decide +kernel
theorem dX1_copyFrom_75 : decode cX1_copyFrom 75 = .ok (.aload_n 0, 1) := by decide +kernel
theorem dX1_copyFrom_76 : decode cX1_copyFrom 76 = .ok (.aload_n 1, 1) := by decide +kernel
theorem dX1_copyFrom_77 : decode cX1_copyFrom 77 = .ok (.getfield 48, 3) := by decide +kernel
theorem dX1_copyFrom_80 : decode cX1_copyFrom 80 = .ok (.putfield 48, 3) := by decide +kernel
theorem dX1_copyFrom_83 : decode cX1_copyFrom 83 = .ok (.aload_n 0, 1) := by decide +kernel
theorem dX1_copyFrom_84 : decode cX1_copyFrom 84 = .ok (.aload_n 1, 1) := by decide +kernel
theorem dX1_copyFrom_85 : decode cX1_copyFrom 85 = .ok (.getfield 51, 3) := by decide +kernel
theorem dX1_copyFrom_88 : decode cX1_copyFrom 88 = .ok (.putfield 51, 3) := by decide +kernel
theorem dX1_copyFrom_91 : decode cX1_copyFrom 91 = .ok (.aload_n 0, 1) := by decide +kernel
theorem dX1_copyFrom_92 : decode cX1_copyFrom 92 = .ok (.aload_n 1, 1) := by decide +kernel
theorem dX1_copyFrom_93 : decode cX1_copyFrom 93 = .ok (.getfield 54, 3) := by decide +kernel
theorem dX1_copyFrom_96 : decode cX1_copyFrom 96 = .ok (.putfield 54, 3) := by decide +kernel
theorem dX1_copyFrom_99 : decode cX1_copyFrom 99 = .ok (.aload_n 0, 1) := by decide +kernel
theorem dX1_copyFrom_100 : decode cX1_copyFrom 100 = .ok (.aload_n 1, 1) := by decide +kernel
theorem dX1_copyFrom_101 : decode cX1_copyFrom 101 = .ok (.getfield 57, 3) := by decide +kernel
theorem dX1_copyFrom_104 : decode cX1_copyFrom 104 = .ok (.putfield 57, 3) := by decide +kernel
theorem dX1_copyFrom_107 : decode cX1_copyFrom 107 = .ok (.aload_n 0, 1) := by decide +kernel
theorem dX1_copyFrom_108 : decode cX1_copyFrom 108 = .ok (.aload_n 1, 1) := by decide +kernel
theorem dX1_copyFrom_109 : decode cX1_copyFrom 109 = .ok (.getfield 60, 3) := by decide +kernel
theorem dX1_copyFrom_112 : decode cX1_copyFrom 112 = .ok (.putfield 60, 3) := by decide +kernel
theorem dX1_copyFrom_115 : decode cX1_copyFrom 115 = .ok (.aload_n 0, 1) := by decide +kernel
theorem dX1_copyFrom_116 : decode cX1_copyFrom 116 = .ok (.aload_n 1, 1) := by decide +kernel
theorem dX1_copyFrom_117 : decode cX1_copyFrom 117 = .ok (.getfield 63, 3) := by decide +kernel
theorem dX1_copyFrom_120 : decode cX1_copyFrom 120 = .ok (.putfield 63, 3) := by decide +kernel
theorem dX1_copyFrom_123 : decode cX1_copyFrom 123 = .ok (.return_, 1) := by decide +kernel
theorem dX1_begin_0 : decode cX1_begin 0 = .ok (.aload_n 0, 1) := by decide +kernel
theorem dX1_begin_1 : decode cX1_begin 1 = .ok (.getfield 12, 3) := by decide +kernel
theorem dX1_begin_4 : decode cX1_begin 4 = .ok (.aload_n 0, 1) := by decide +kernel
theorem dX1_begin_5 : decode cX1_begin 5 = .ok (.getfield 18, 3) := by decide +kernel
theorem dX1_begin_8 : decode cX1_begin 8 = .ok (.iconst 2, 1) := by decide +kernel
theorem dX1_begin_9 : decode cX1_begin 9 = .ok (.idiv, 1) := by decide +kernel
theorem dX1_begin_10 : decode cX1_begin 10 = .ok (.invokevirtual 66, 3) := by decide +kernel
theorem dX1_begin_13 : decode cX1_begin 13 = .ok (.aload_n 0, 1) := by decide +kernel
theorem dX1_begin_14 : decode cX1_begin 14 = .ok (.iconst 0, 1) := by decide +kernel
theorem dX1_begin_15 : decode cX1_begin 15 = .ok (.putfield 35, 3) := by decide +kernel
theorem dX1_begin_18 : decode cX1_begin 18 = .ok (.aload_n 0, 1) := by decide +kernel
theorem dX1_begin_19 : decode cX1_begin 19 = .ok (.iconst 0, 1) := by decide +kernel
theorem dX1_begin_20 : decode cX1_begin 20 = .ok (.putfield 38, 3) := by decide +kernel
theorem dX1_begin_23 : decode cX1_begin 23 = .ok (.aload_n 0, 1) := by decide +kernel
theorem dX1_begin_24 : decode cX1_begin 24 = .ok (.iconst (-1), 1) := by decide +kernel
theorem dX1_begin_25 : decode cX1_begin 25 = .ok (.putfield 28, 3) := by decide +kernel
theorem dX1_begin_28 : decode cX1_begin 28 = .ok (.aload_n 0, 1) := by decide +kernel
theorem dX1_begin_29 : decode cX1_begin 29 = .ok (.iconst 0, 1) := by decide +kernel
theorem dX1_begin_30 : decode cX1_begin 30 = .ok (.putfield 41, 3) := by decide +kernel
theorem dX1_begin_33 : decode cX1_begin 33 = .ok (.aload_n 0, 1) := by decide +kernel
theorem dX1_begin_34 : decode cX1_begin 34 = .ok (.iconst 0, 1) := by decide +kernel
theorem dX1_begin_35 : decode cX1_begin 35 = .ok (.putfield 44, 3) := by decide +kernel
theorem dX1_begin_38 : decode cX1_begin 38 = .ok (.aload_n 0, 1) := by decide +kernel
theorem dX1_begin_39 : decode cX1_begin 39 = .ok (.aload_n 0, 1) := by decide +kernel
theorem dX1_begin_40 : decode cX1_begin 40 = .ok (.getfield 12, 3) := by decide +kernel
theorem dX1_begin_43 : decode cX1_begin 43 = .ok (.invokevirtual 70, 3) := by decide +kernel
theorem dX1_begin_46 : decode cX1_begin 46 = .ok (.putfield 48, 3) := by decide +kernel
theorem dX1_begin_49 : decode cX1_begin 49 = .ok (.aload_n 0, 1) := by decide +kernel
theorem dX1_begin_50 : decode cX1_begin 50 = .ok (.iconst 0, 1) := by decide +kernel
theorem dX1_begin_51 : decode cX1_begin 51 = .ok (.putfield 51, 3) := by decide +kernel
theorem dX1_begin_54 : decode cX1_begin 54 = .ok (.aload_n 0, 1) := by decide +kernel
theorem dX1_begin_55 : decode cX1_begin 55 = .ok (.iconst 0, 1) := by decide +kernel
theorem dX1_begin_56 : decode cX1_begin 56 = .ok (.putfield 54, 3) := by decide +kernel
theorem dX1_begin_59 : decode cX1_begin 59 = .ok (.aload_n 0, 1) := by decide +kernel
theorem dX1_begin_60 : decode cX1_begin 60 = .ok (.iconst 0, 1) := by decide +kernel
theorem dX1_begin_61 : decode cX1_begin 61 = .ok (.putfield 57, 3) := by decide +kernel
theorem dX1_begin_64 : decode cX1_begin 64 = .ok (.aload_n 0, 1) := by decide +kernel
theorem dX1_begin_65 : decode cX1_begin 65 = .ok (.iconst 0, 1) := by decide +kernel
theorem dX1_begin_66 : decode cX1_begin 66 = .ok (.putfield 60, 3) := by decide +kernel
theorem dX1_begin_69 : decode cX1_begin 69 = .ok (.aload_n 0, 1) := by decide +kernel
theorem dX1_begin_70 : decode cX1_begin 70 = .ok (.iconst 0, 1) := by decide +kernel
theorem dX1_begin_71 : decode cX1_begin 71 = .ok (.putfield 63, 3) := by decide +kernel
theorem dX1_begin_74 : decode cX1_begin 74 = .ok (.return_, 1) := by decide +kernel
theorem dX1_isOver_0 : decode cX1_isOver 0 = .ok (.aload_n 0, 1) := by decide +kernel
theorem dX1_isOver_1 : decode cX1_isOver 1 = .ok (.getfield 38, 3) := by decide +kernel
theorem dX1_isOver_4 : decode cX1_isOver 4 = .ok (.ifCond .eq 7, 3) := by decide +kernel
theorem dX1_isOver_7 : decode cX1_isOver 7 = .ok (.iconst 1, 1) := by decide +kernel
theorem dX1_isOver_8 : decode cX1_isOver 8 = .ok (.goto 4, 3) := by decide +kernel
theorem dX1_isOver_11 : decode cX1_isOver 11 = .ok (.iconst 0, 1) := by decide +kernel
theorem dX1_isOver_12 : decode cX1_isOver 12 = .ok (.ireturn, 1) := by decide +kernel
theorem dX1_setting_0 : decode cX1_setting 0 = .ok (.iload_n 1, 1) := by decide +kernel
theorem dX1_setting_1 : decode cX1_setting 1 = .ok (.lookupswitch 37 #[(0, 27), (1, 32)], 27) := by decide +kernel
theorem dX1_setting_28 : decode cX1_setting 28 = .ok (.aload_n 0, 1) := by decide +kernel
theorem dX1_setting_29 : decode cX1_setting 29 = .ok (.getfield 18, 3) := by decide +kernel
theorem dX1_setting_32 : decode cX1_setting 32 = .ok (.ireturn, 1) := by decide +kernel
theorem dX1_setting_33 : decode cX1_setting 33 = .ok (.aload_n 0, 1) := by decide +kernel
theorem dX1_setting_34 : decode cX1_setting 34 = .ok (.getfield 22, 3) := by decide +kernel
theorem dX1_setting_37 : decode cX1_setting 37 = .ok (.ireturn, 1) := by decide +kernel
theorem dX1_setting_38 : decode cX1_setting 38 = .ok (.aload_n 0, 1) := by decide +kernel
theorem dX1_setting_39 : decode cX1_setting 39 = .ok (.getfield 25, 3) := by decide +kernel
theorem dX1_setting_42 : decode cX1_setting 42 = .ok (.ireturn, 1) := by decide +kernel
theorem dX1_changeSetting_0 : decode cX1_changeSetting 0 = .ok (.iload_n 1, 1) := by decide +kernel
theorem dX1_changeSetting_1 : decode cX1_changeSetting 1 = .ok (.lookupswitch 47 #[(0, 27), (1, 39)], 27) := by decide +kernel
theorem dX1_changeSetting_28 : decode cX1_changeSetting 28 = .ok (.aload_n 0, 1) := by decide +kernel
theorem dX1_changeSetting_29 : decode cX1_changeSetting 29 = .ok (.iload_n 2, 1) := by decide +kernel
theorem dX1_changeSetting_30 : decode cX1_changeSetting 30 = .ok (.putfield 18, 3) := by decide +kernel
theorem dX1_changeSetting_33 : decode cX1_changeSetting 33 = .ok (.aload_n 0, 1) := by decide +kernel
theorem dX1_changeSetting_34 : decode cX1_changeSetting 34 = .ok (.invokevirtual 74, 3) := by decide +kernel
theorem dX1_changeSetting_37 : decode cX1_changeSetting 37 = .ok (.goto 16, 3) := by decide +kernel
theorem dX1_changeSetting_40 : decode cX1_changeSetting 40 = .ok (.aload_n 0, 1) := by decide +kernel
theorem dX1_changeSetting_41 : decode cX1_changeSetting 41 = .ok (.iload_n 2, 1) := by decide +kernel
theorem dX1_changeSetting_42 : decode cX1_changeSetting 42 = .ok (.putfield 22, 3) := by decide +kernel
theorem dX1_changeSetting_45 : decode cX1_changeSetting 45 = .ok (.goto 8, 3) := by decide +kernel
theorem dX1_changeSetting_48 : decode cX1_changeSetting 48 = .ok (.aload_n 0, 1) := by decide +kernel
theorem dX1_changeSetting_49 : decode cX1_changeSetting 49 = .ok (.iload_n 2, 1) := by decide +kernel
theorem dX1_changeSetting_50 : decode cX1_changeSetting 50 = .ok (.putfield 25, 3) := by decide +kernel
theorem dX1_changeSetting_53 : decode cX1_changeSetting 53 = .ok (.return_, 1) := by decide +kernel
theorem dX1_cutSprings_0 : decode cX1_cutSprings 0 = .ok (.iconst 0, 1) := by decide +kernel
theorem dX1_cutSprings_1 : decode cX1_cutSprings 1 = .ok (.istore_n 1, 1) := by decide +kernel
theorem dX1_cutSprings_2 : decode cX1_cutSprings 2 = .ok (.iload_n 1, 1) := by decide +kernel
theorem dX1_cutSprings_3 : decode cX1_cutSprings 3 = .ok (.bipush 36, 2) := by decide +kernel
theorem dX1_cutSprings_5 : decode cX1_cutSprings 5 = .ok (.if_icmp .ge 49, 3) := by decide +kernel
theorem dX1_cutSprings_8 : decode cX1_cutSprings 8 = .ok (.aload_n 0, 1) := by decide +kernel
theorem dX1_cutSprings_9 : decode cX1_cutSprings 9 = .ok (.getfield 12, 3) := by decide +kernel
theorem dX1_cutSprings_12 : decode cX1_cutSprings 12 = .ok (.iload_n 1, 1) := by decide +kernel
theorem dX1_cutSprings_13 : decode cX1_cutSprings 13 = .ok (.invokevirtual 77, 3) := by decide +kernel
theorem dX1_cutSprings_16 : decode cX1_cutSprings 16 = .ok (.aload_n 0, 1) := by decide +kernel
theorem dX1_cutSprings_17 : decode cX1_cutSprings 17 = .ok (.getfield 18, 3) := by decide +kernel
theorem dX1_cutSprings_20 : decode cX1_cutSprings 20 = .ok (.isub, 1) := by decide +kernel
theorem dX1_cutSprings_21 : decode cX1_cutSprings 21 = .ok (.istore_n 2, 1) := by decide +kernel
theorem dX1_cutSprings_22 : decode cX1_cutSprings 22 = .ok (.iload_n 2, 1) := by decide +kernel
theorem dX1_cutSprings_23 : decode cX1_cutSprings 23 = .ok (.ifCond .le 25, 3) := by decide +kernel
theorem dX1_cutSprings_26 : decode cX1_cutSprings 26 = .ok (.aload_n 0, 1) := by decide +kernel
theorem dX1_cutSprings_27 : decode cX1_cutSprings 27 = .ok (.getfield 12, 3) := by decide +kernel
theorem dX1_cutSprings_30 : decode cX1_cutSprings 30 = .ok (.iload_n 1, 1) := by decide +kernel
theorem dX1_cutSprings_31 : decode cX1_cutSprings 31 = .ok (.aload_n 0, 1) := by decide +kernel
theorem dX1_cutSprings_32 : decode cX1_cutSprings 32 = .ok (.getfield 18, 3) := by decide +kernel
theorem dX1_cutSprings_35 : decode cX1_cutSprings 35 = .ok (.invokevirtual 81, 3) := by decide +kernel
theorem dX1_cutSprings_38 : decode cX1_cutSprings 38 = .ok (.aload_n 0, 1) := by decide +kernel
theorem dX1_cutSprings_39 : decode cX1_cutSprings 39 = .ok (.dup, 1) := by decide +kernel
theorem dX1_cutSprings_40 : decode cX1_cutSprings 40 = .ok (.getfield 63, 3) := by decide +kernel
theorem dX1_cutSprings_43 : decode cX1_cutSprings 43 = .ok (.iload_n 2, 1) := by decide +kernel
theorem dX1_cutSprings_44 : decode cX1_cutSprings 44 = .ok (.isub, 1) := by decide +kernel
theorem dX1_cutSprings_45 : decode cX1_cutSprings 45 = .ok (.putfield 63, 3) := by decide +kernel
theorem dX1_cutSprings_48 : decode cX1_cutSprings 48 = .ok (.iinc 1 1, 3) := by decide +kernel
theorem dX1_cutSprings_51 : decode cX1_cutSprings 51 = .ok (.goto (-49), 3) := by decide +kernel
theorem dX1_cutSprings_54 : decode cX1_cutSprings 54 = .ok (.return_, 1) := by decide +kernel
theorem dX1_account_0 : decode cX1_account 0 = .ok (.iload_n 1, 1) := by decide +kernel
theorem dX1_account_1 : decode cX1_account 1 = .ok (.tableswitch 72 0 5 #[39, 44, 49, 54, 59, 64], 39) := by decide +kernel
theorem dX1_account_40 : decode cX1_account 40 = .ok (.aload_n 0, 1) := by decide +kernel
theorem dX1_account_41 : decode cX1_account 41 = .ok (.getfield 48, 3) := by decide +kernel
theorem dX1_account_44 : decode cX1_account 44 = .ok (.ireturn, 1) := by decide +kernel
theorem dX1_account_45 : decode cX1_account 45 = .ok (.aload_n 0, 1) := by decide +kernel
theorem dX1_account_46 : decode cX1_account 46 = .ok (.getfield 51, 3) := by decide +kernel
theorem dX1_account_49 : decode cX1_account 49 = .ok (.ireturn, 1) := by decide +kernel
theorem dX1_account_50 : decode cX1_account 50 = .ok (.aload_n 0, 1) := by decide +kernel
theorem dX1_account_51 : decode cX1_account 51 = .ok (.getfield 54, 3) := by decide +kernel
theorem dX1_account_54 : decode cX1_account 54 = .ok (.ireturn, 1) := by decide +kernel
theorem dX1_account_55 : decode cX1_account 55 = .ok (.aload_n 0, 1) := by decide +kernel
theorem dX1_account_56 : decode cX1_account 56 = .ok (.getfield 57, 3) := by decide +kernel
theorem dX1_account_59 : decode cX1_account 59 = .ok (.ireturn, 1) := by decide +kernel
theorem dX1_account_60 : decode cX1_account 60 = .ok (.aload_n 0, 1) := by decide +kernel
theorem dX1_account_61 : decode cX1_account 61 = .ok (.getfield 60, 3) := by decide +kernel
theorem dX1_account_64 : decode cX1_account 64 = .ok (.ireturn, 1) := by decide +kernel
theorem dX1_account_65 : decode cX1_account 65 = .ok (.aload_n 0, 1) := by decide +kernel
theorem dX1_account_66 : decode cX1_account 66 = .ok (.getfield 12, 3) := by decide +kernel
theorem dX1_account_69 : decode cX1_account 69 = .ok (.invokevirtual 70, 3) := by decide +kernel
theorem dX1_account_72 : decode cX1_account 72 = .ok (.ireturn, 1) := by decide +kernel
theorem dX1_account_73 : decode cX1_account 73 = .ok (.aload_n 0, 1) := by decide +kernel
theorem dX1_account_74 : decode cX1_account 74 = .ok (.getfield 63, 3) := by decide +kernel
theorem dX1_account_77 : decode cX1_account 77 = .ok (.ireturn, 1) := by decide +kernel
theorem dX1_putInstead_0 : decode cX1_putInstead 0 = .ok (.aload_n 0, 1) := by decide +kernel
theorem dX1_putInstead_1 : decode cX1_putInstead 1 = .ok (.dup, 1) := by decide +kernel
theorem dX1_putInstead_2 : decode cX1_putInstead 2 = .ok (.getfield 63, 3) := by decide +kernel
theorem dX1_putInstead_5 : decode cX1_putInstead 5 = .ok (.aload_n 0, 1) := by decide +kernel
theorem dX1_putInstead_6 : decode cX1_putInstead 6 = .ok (.getfield 12, 3) := by decide +kernel
theorem dX1_putInstead_9 : decode cX1_putInstead 9 = .ok (.iload_n 1, 1) := by decide +kernel
theorem dX1_putInstead_10 : decode cX1_putInstead 10 = .ok (.invokevirtual 77, 3) := by decide +kernel
theorem dX1_putInstead_13 : decode cX1_putInstead 13 = .ok (.isub, 1) := by decide +kernel
theorem dX1_putInstead_14 : decode cX1_putInstead 14 = .ok (.putfield 63, 3) := by decide +kernel
theorem dX1_putInstead_17 : decode cX1_putInstead 17 = .ok (.iload_n 2, 1) := by decide +kernel
theorem dX1_putInstead_18 : decode cX1_putInstead 18 = .ok (.iconst (-1), 1) := by decide +kernel
theorem dX1_putInstead_19 : decode cX1_putInstead 19 = .ok (.if_icmp .ne 14, 3) := by decide +kernel
theorem dX1_putInstead_22 : decode cX1_putInstead 22 = .ok (.aload_n 0, 1) := by decide +kernel
theorem dX1_putInstead_23 : decode cX1_putInstead 23 = .ok (.getfield 12, 3) := by decide +kernel
theorem dX1_putInstead_26 : decode cX1_putInstead 26 = .ok (.iload_n 1, 1) := by decide +kernel
theorem dX1_putInstead_27 : decode cX1_putInstead 27 = .ok (.invokevirtual 85, 3) := by decide +kernel
theorem dX1_putInstead_30 : decode cX1_putInstead 30 = .ok (.goto 15, 3) := by decide +kernel
theorem dX1_putInstead_33 : decode cX1_putInstead 33 = .ok (.aload_n 0, 1) := by decide +kernel
theorem dX1_putInstead_34 : decode cX1_putInstead 34 = .ok (.getfield 12, 3) := by decide +kernel
theorem dX1_putInstead_37 : decode cX1_putInstead 37 = .ok (.iload_n 1, 1) := by decide +kernel
theorem dX1_putInstead_38 : decode cX1_putInstead 38 = .ok (.iload_n 2, 1) := by decide +kernel
theorem dX1_putInstead_39 : decode cX1_putInstead 39 = .ok (.iload_n 3, 1) := by decide +kernel
theorem dX1_putInstead_40 : decode cX1_putInstead 40 = .ok (.iload 4, 2) := by decide +kernel
theorem dX1_putInstead_42 : decode cX1_putInstead 42 = .ok (.invokevirtual 88, 3) := by decide +kernel
theorem dX1_putInstead_45 : decode cX1_putInstead 45 = .ok (.aload_n 0, 1) := by decide +kernel
theorem dX1_putInstead_46 : decode cX1_putInstead 46 = .ok (.dup, 1) := by decide +kernel
theorem dX1_putInstead_47 : decode cX1_putInstead 47 = .ok (.getfield 63, 3) := by decide +kernel
theorem dX1_putInstead_50 : decode cX1_putInstead 50 = .ok (.aload_n 0, 1) := by decide +kernel
theorem dX1_putInstead_51 : decode cX1_putInstead 51 = .ok (.getfield 12, 3) := by decide +kernel
theorem dX1_putInstead_54 : decode cX1_putInstead 54 = .ok (.iload_n 1, 1) := by decide +kernel
theorem dX1_putInstead_55 : decode cX1_putInstead 55 = .ok (.invokevirtual 77, 3) := by decide +kernel
theorem dX1_putInstead_58 : decode cX1_putInstead 58 = .ok (.iadd, 1) := by decide +kernel
theorem dX1_putInstead_59 : decode cX1_putInstead 59 = .ok (.putfield 63, 3) := by decide +kernel
theorem dX1_putInstead_62 : decode cX1_putInstead 62 = .ok (.return_, 1) := by decide +kernel
theorem dX1_reasonAgainst_0 : decode cX1_reasonAgainst 0 = .ok (.aload_n 0, 1) := by decide +kernel
theorem dX1_reasonAgainst_1 : decode cX1_reasonAgainst 1 = .ok (.invokevirtual 92, 3) := by decide +kernel
theorem dX1_reasonAgainst_4 : decode cX1_reasonAgainst 4 = .ok (.ifCond .eq 5, 3) := by decide +kernel
theorem dX1_reasonAgainst_7 : decode cX1_reasonAgainst 7 = .ok (.iconst 2, 1) := by decide +kernel
theorem dX1_reasonAgainst_8 : decode cX1_reasonAgainst 8 = .ok (.ireturn, 1) := by decide +kernel
theorem dX1_reasonAgainst_9 : decode cX1_reasonAgainst 9 = .ok (.aload_n 0, 1) := by decide +kernel
theorem dX1_reasonAgainst_10 : decode cX1_reasonAgainst 10 = .ok (.getfield 12, 3) := by decide +kernel
theorem dX1_reasonAgainst_13 : decode cX1_reasonAgainst 13 = .ok (.iload_n 1, 1) := by decide +kernel
theorem dX1_reasonAgainst_14 : decode cX1_reasonAgainst 14 = .ok (.invokevirtual 96, 3) := by decide +kernel
theorem dX1_reasonAgainst_17 : decode cX1_reasonAgainst 17 = .ok (.ifCond .ne 5, 3) := by decide +kernel
theorem dX1_reasonAgainst_20 : decode cX1_reasonAgainst 20 = .ok (.iconst 3, 1) := by decide +kernel
theorem dX1_reasonAgainst_21 : decode cX1_reasonAgainst 21 = .ok (.ireturn, 1) := by decide +kernel
theorem dX1_reasonAgainst_22 : decode cX1_reasonAgainst 22 = .ok (.aload_n 0, 1) := by decide +kernel
theorem dX1_reasonAgainst_23 : decode cX1_reasonAgainst 23 = .ok (.getfield 12, 3) := by decide +kernel
theorem dX1_reasonAgainst_26 : decode cX1_reasonAgainst 26 = .ok (.iload_n 1, 1) := by decide +kernel
theorem dX1_reasonAgainst_27 : decode cX1_reasonAgainst 27 = .ok (.invokevirtual 100, 3) := by decide +kernel
theorem dX1_reasonAgainst_30 : decode cX1_reasonAgainst 30 = .ok (.aload_n 0, 1) := by decide +kernel
theorem dX1_reasonAgainst_31 : decode cX1_reasonAgainst 31 = .ok (.getfield 35, 3) := by decide +kernel
theorem dX1_reasonAgainst_34 : decode cX1_reasonAgainst 34 = .ok (.if_icmp .eq 5, 3) := by decide +kernel
theorem dX1_reasonAgainst_37 : decode cX1_reasonAgainst 37 = .ok (.iconst 4, 1) := by decide +kernel
theorem dX1_reasonAgainst_38 : decode cX1_reasonAgainst 38 = .ok (.ireturn, 1) := by decide +kernel
theorem dX1_reasonAgainst_39 : decode cX1_reasonAgainst 39 = .ok (.aload_n 0, 1) := by decide +kernel
theorem dX1_reasonAgainst_40 : decode cX1_reasonAgainst 40 = .ok (.getfield 12, 3) := by decide +kernel
theorem dX1_reasonAgainst_43 : decode cX1_reasonAgainst 43 = .ok (.iload_n 2, 1) := by decide +kernel
theorem dX1_reasonAgainst_44 : decode cX1_reasonAgainst 44 = .ok (.invokevirtual 100, 3) := by decide +kernel
theorem dX1_reasonAgainst_47 : decode cX1_reasonAgainst 47 = .ok (.aload_n 0, 1) := by decide +kernel
theorem dX1_reasonAgainst_48 : decode cX1_reasonAgainst 48 = .ok (.getfield 35, 3) := by decide +kernel
theorem dX1_reasonAgainst_51 : decode cX1_reasonAgainst 51 = .ok (.if_icmp .ne 5, 3) := by decide +kernel
theorem dX1_reasonAgainst_54 : decode cX1_reasonAgainst 54 = .ok (.iconst 5, 1) := by decide +kernel
theorem dX1_reasonAgainst_55 : decode cX1_reasonAgainst 55 = .ok (.ireturn, 1) := by decide +kernel
theorem dX1_reasonAgainst_56 : decode cX1_reasonAgainst 56 = .ok (.aload_n 0, 1) := by decide +kernel
theorem dX1_reasonAgainst_57 : decode cX1_reasonAgainst 57 = .ok (.getfield 12, 3) := by decide +kernel
theorem dX1_reasonAgainst_60 : decode cX1_reasonAgainst 60 = .ok (.iload_n 1, 1) := by decide +kernel
theorem dX1_reasonAgainst_61 : decode cX1_reasonAgainst 61 = .ok (.iload_n 2, 1) := by decide +kernel
theorem dX1_reasonAgainst_62 : decode cX1_reasonAgainst 62 = .ok (.invokevirtual 103, 3) := by decide +kernel
theorem dX1_reasonAgainst_65 : decode cX1_reasonAgainst 65 = .ok (.istore_n 3, 1) := by decide +kernel
theorem dX1_reasonAgainst_66 : decode cX1_reasonAgainst 66 = .ok (.iload_n 3, 1) := by decide +kernel
theorem dX1_reasonAgainst_67 : decode cX1_reasonAgainst 67 = .ok (.ifCond .ne 6, 3) := by decide +kernel
theorem dX1_reasonAgainst_70 : decode cX1_reasonAgainst 70 = .ok (.bipush 6, 2) := by decide +kernel
theorem dX1_reasonAgainst_72 : decode cX1_reasonAgainst 72 = .ok (.ireturn, 1) := by decide +kernel
theorem dX1_reasonAgainst_73 : decode cX1_reasonAgainst 73 = .ok (.aload_n 0, 1) := by decide +kernel
theorem dX1_reasonAgainst_74 : decode cX1_reasonAgainst 74 = .ok (.getfield 12, 3) := by decide +kernel
theorem dX1_reasonAgainst_77 : decode cX1_reasonAgainst 77 = .ok (.iload_n 1, 1) := by decide +kernel
theorem dX1_reasonAgainst_78 : decode cX1_reasonAgainst 78 = .ok (.invokevirtual 77, 3) := by decide +kernel
theorem dX1_reasonAgainst_81 : decode cX1_reasonAgainst 81 = .ok (.iload_n 3, 1) := by decide +kernel
theorem dX1_reasonAgainst_82 : decode cX1_reasonAgainst 82 = .ok (.if_icmp .ge 8, 3) := by decide +kernel
theorem dX1_reasonAgainst_85 : decode cX1_reasonAgainst 85 = .ok (.bipush 7, 2) := by decide +kernel
theorem dX1_reasonAgainst_87 : decode cX1_reasonAgainst 87 = .ok (.goto 4, 3) := by decide +kernel
theorem dX1_reasonAgainst_90 : decode cX1_reasonAgainst 90 = .ok (.iconst 0, 1) := by decide +kernel
theorem dX1_reasonAgainst_91 : decode cX1_reasonAgainst 91 = .ok (.ireturn, 1) := by decide +kernel
theorem dX1_reasonAgainstPass_0 : decode cX1_reasonAgainstPass 0 = .ok (.aload_n 0, 1) := by decide +kernel
theorem dX1_reasonAgainstPass_1 : decode cX1_reasonAgainstPass 1 = .ok (.invokevirtual 92, 3) := by decide +kernel
theorem dX1_reasonAgainstPass_4 : decode cX1_reasonAgainstPass 4 = .ok (.ifCond .eq 5, 3) := by decide +kernel
theorem dX1_reasonAgainstPass_7 : decode cX1_reasonAgainstPass 7 = .ok (.iconst 2, 1) := by decide +kernel
theorem dX1_reasonAgainstPass_8 : decode cX1_reasonAgainstPass 8 = .ok (.ireturn, 1) := by decide +kernel
theorem dX1_reasonAgainstPass_9 : decode cX1_reasonAgainstPass 9 = .ok (.aload_n 0, 1) := by decide +kernel
theorem dX1_reasonAgainstPass_10 : decode cX1_reasonAgainstPass 10 = .ok (.getfield 12, 3) := by decide +kernel
theorem dX1_reasonAgainstPass_13 : decode cX1_reasonAgainstPass 13 = .ok (.aload_n 0, 1) := by decide +kernel
theorem dX1_reasonAgainstPass_14 : decode cX1_reasonAgainstPass 14 = .ok (.getfield 35, 3) := by decide +kernel
theorem dX1_reasonAgainstPass_17 : decode cX1_reasonAgainstPass 17 = .ok (.invokevirtual 107, 3) := by decide +kernel
theorem dX1_reasonAgainstPass_20 : decode cX1_reasonAgainstPass 20 = .ok (.ifCond .le 8, 3) := by decide +kernel
theorem dX1_reasonAgainstPass_23 : decode cX1_reasonAgainstPass 23 = .ok (.bipush 8, 2) := by decide +kernel
theorem dX1_reasonAgainstPass_25 : decode cX1_reasonAgainstPass 25 = .ok (.goto 4, 3) := by decide +kernel
theorem dX1_reasonAgainstPass_28 : decode cX1_reasonAgainstPass 28 = .ok (.iconst 0, 1) := by decide +kernel
theorem dX1_reasonAgainstPass_29 : decode cX1_reasonAgainstPass 29 = .ok (.ireturn, 1) := by decide +kernel
theorem dX1_makeMove_0 : decode cX1_makeMove 0 = .ok (.aload_n 0, 1) := by decide +kernel
theorem dX1_makeMove_1 : decode cX1_makeMove 1 = .ok (.iload_n 1, 1) := by decide +kernel
theorem dX1_makeMove_2 : decode cX1_makeMove 2 = .ok (.iload_n 2, 1) := by decide +kernel
theorem dX1_makeMove_3 : decode cX1_makeMove 3 = .ok (.invokevirtual 110, 3) := by decide +kernel
theorem dX1_makeMove_6 : decode cX1_makeMove 6 = .ok (.istore_n 3, 1) := by decide +kernel
theorem dX1_makeMove_7 : decode cX1_makeMove 7 = .ok (.aload_n 0, 1) := by decide +kernel
theorem dX1_makeMove_8 : decode cX1_makeMove 8 = .ok (.invokevirtual 92, 3) := by decide +kernel
theorem dX1_makeMove_11 : decode cX1_makeMove 11 = .ok (.ifCond .ne 13, 3) := by decide +kernel
theorem dX1_makeMove_14 : decode cX1_makeMove 14 = .ok (.aload_n 0, 1) := by decide +kernel
theorem dX1_makeMove_15 : decode cX1_makeMove 15 = .ok (.iconst 1, 1) := by decide +kernel
theorem dX1_makeMove_16 : decode cX1_makeMove 16 = .ok (.aload_n 0, 1) := by decide +kernel
theorem dX1_makeMove_17 : decode cX1_makeMove 17 = .ok (.getfield 35, 3) := by decide +kernel
theorem dX1_makeMove_20 : decode cX1_makeMove 20 = .ok (.isub, 1) := by decide +kernel
theorem dX1_makeMove_21 : decode cX1_makeMove 21 = .ok (.invokevirtual 113, 3) := by decide +kernel
theorem dX1_makeMove_24 : decode cX1_makeMove 24 = .ok (.iload_n 3, 1) := by decide +kernel
theorem dX1_makeMove_25 : decode cX1_makeMove 25 = .ok (.ireturn, 1) := by decide +kernel
theorem dX1_carryOut_0 : decode cX1_carryOut 0 = .ok (.aload_n 0, 1) := by decide +kernel
theorem dX1_carryOut_1 : decode cX1_carryOut 1 = .ok (.getfield 12, 3) := by decide +kernel
theorem dX1_carryOut_4 : decode cX1_carryOut 4 = .ok (.iload_n 1, 1) := by decide +kernel
theorem dX1_carryOut_5 : decode cX1_carryOut 5 = .ok (.iload_n 2, 1) := by decide +kernel
theorem dX1_carryOut_6 : decode cX1_carryOut 6 = .ok (.invokevirtual 103, 3) := by decide +kernel
theorem dX1_carryOut_9 : decode cX1_carryOut 9 = .ok (.istore_n 3, 1) := by decide +kernel
theorem dX1_carryOut_10 : decode cX1_carryOut 10 = .ok (.aload_n 0, 1) := by decide +kernel
theorem dX1_carryOut_11 : decode cX1_carryOut 11 = .ok (.getfield 12, 3) := by decide +kernel
theorem dX1_carryOut_14 : decode cX1_carryOut 14 = .ok (.iload_n 1, 1) := by decide +kernel
theorem dX1_carryOut_15 : decode cX1_carryOut 15 = .ok (.invokevirtual 116, 3) := by decide +kernel
theorem dX1_carryOut_18 : decode cX1_carryOut 18 = .ok (.istore 4, 2) := by decide +kernel
theorem dX1_carryOut_20 : decode cX1_carryOut 20 = .ok (.aload_n 0, 1) := by decide +kernel
theorem dX1_carryOut_21 : decode cX1_carryOut 21 = .ok (.getfield 12, 3) := by decide +kernel
theorem dX1_carryOut_24 : decode cX1_carryOut 24 = .ok (.iload_n 1, 1) := by decide +kernel
theorem dX1_carryOut_25 : decode cX1_carryOut 25 = .ok (.invokevirtual 77, 3) := by decide +kernel
theorem dX1_carryOut_28 : decode cX1_carryOut 28 = .ok (.iload_n 3, 1) := by decide +kernel
theorem dX1_carryOut_29 : decode cX1_carryOut 29 = .ok (.isub, 1) := by decide +kernel
theorem dX1_carryOut_30 : decode cX1_carryOut 30 = .ok (.istore 5, 2) := by decide +kernel
theorem dX1_carryOut_32 : decode cX1_carryOut 32 = .ok (.aload_n 0, 1) := by decide +kernel
theorem dX1_carryOut_33 : decode cX1_carryOut 33 = .ok (.getfield 12, 3) := by decide +kernel
theorem dX1_carryOut_36 : decode cX1_carryOut 36 = .ok (.iload_n 2, 1) := by decide +kernel
theorem dX1_carryOut_37 : decode cX1_carryOut 37 = .ok (.invokevirtual 96, 3) := by decide +kernel
theorem dX1_carryOut_40 : decode cX1_carryOut 40 = .ok (.ifCond .eq 43, 3) := by decide +kernel
theorem dX1_carryOut_43 : decode cX1_carryOut 43 = .ok (.aload_n 0, 1) := by decide +kernel
theorem dX1_carryOut_44 : decode cX1_carryOut 44 = .ok (.iload 5, 2) := by decide +kernel
theorem dX1_carryOut_46 : decode cX1_carryOut 46 = .ok (.aload_n 0, 1) := by decide +kernel
theorem dX1_carryOut_47 : decode cX1_carryOut 47 = .ok (.getfield 12, 3) := by decide +kernel
theorem dX1_carryOut_50 : decode cX1_carryOut 50 = .ok (.iload_n 2, 1) := by decide +kernel
theorem dX1_carryOut_51 : decode cX1_carryOut 51 = .ok (.invokevirtual 77, 3) := by decide +kernel
theorem dX1_carryOut_54 : decode cX1_carryOut 54 = .ok (.invokevirtual 119, 3) := by decide +kernel
theorem dX1_carryOut_57 : decode cX1_carryOut 57 = .ok (.istore 5, 2) := by decide +kernel
theorem dX1_carryOut_59 : decode cX1_carryOut 59 = .ok (.aload_n 0, 1) := by decide +kernel
theorem dX1_carryOut_60 : decode cX1_carryOut 60 = .ok (.getfield 12, 3) := by decide +kernel
theorem dX1_carryOut_63 : decode cX1_carryOut 63 = .ok (.iload_n 2, 1) := by decide +kernel
theorem dX1_carryOut_64 : decode cX1_carryOut 64 = .ok (.invokevirtual 116, 3) := by decide +kernel
theorem dX1_carryOut_67 : decode cX1_carryOut 67 = .ok (.ifCond .ne 16, 3) := by decide +kernel
theorem dX1_carryOut_70 : decode cX1_carryOut 70 = .ok (.aload_n 0, 1) := by decide +kernel
theorem dX1_carryOut_71 : decode cX1_carryOut 71 = .ok (.iconst 1, 1) := by decide +kernel
theorem dX1_carryOut_72 : decode cX1_carryOut 72 = .ok (.putfield 38, 3) := by decide +kernel
theorem dX1_carryOut_75 : decode cX1_carryOut 75 = .ok (.aload_n 0, 1) := by decide +kernel
theorem dX1_carryOut_76 : decode cX1_carryOut 76 = .ok (.aload_n 0, 1) := by decide +kernel
theorem dX1_carryOut_77 : decode cX1_carryOut 77 = .ok (.getfield 35, 3) := by decide +kernel
theorem dX1_carryOut_80 : decode cX1_carryOut 80 = .ok (.putfield 28, 3) := by decide +kernel
theorem dX1_carryOut_83 : decode cX1_carryOut 83 = .ok (.aload_n 0, 1) := by decide +kernel
theorem dX1_carryOut_84 : decode cX1_carryOut 84 = .ok (.getfield 35, 3) := by decide +kernel
theorem dX1_carryOut_87 : decode cX1_carryOut 87 = .ok (.ifCond .ne 7, 3) := by decide +kernel
theorem dX1_carryOut_90 : decode cX1_carryOut 90 = .ok (.iconst 5, 1) := by decide +kernel
theorem dX1_carryOut_91 : decode cX1_carryOut 91 = .ok (.goto 4, 3) := by decide +kernel
theorem dX1_carryOut_94 : decode cX1_carryOut 94 = .ok (.iconst 0, 1) := by decide +kernel
theorem dX1_carryOut_95 : decode cX1_carryOut 95 = .ok (.istore 6, 2) := by decide +kernel
theorem dX1_carryOut_97 : decode cX1_carryOut 97 = .ok (.iload 4, 2) := by decide +kernel
theorem dX1_carryOut_99 : decode cX1_carryOut 99 = .ok (.iconst 4, 1) := by decide +kernel
theorem dX1_carryOut_100 : decode cX1_carryOut 100 = .ok (.if_icmp .ne 16, 3) := by decide +kernel
theorem dX1_carryOut_103 : decode cX1_carryOut 103 = .ok (.iload_n 2, 1) := by decide +kernel
theorem dX1_carryOut_104 : decode cX1_carryOut 104 = .ok (.bipush 6, 2) := by decide +kernel
theorem dX1_carryOut_106 : decode cX1_carryOut 106 = .ok (.idiv, 1) := by decide +kernel
theorem dX1_carryOut_107 : decode cX1_carryOut 107 = .ok (.iload 6, 2) := by decide +kernel
theorem dX1_carryOut_109 : decode cX1_carryOut 109 = .ok (.if_icmp .ne 7, 3) := by decide +kernel
theorem dX1_carryOut_112 : decode cX1_carryOut 112 = .ok (.iconst 1, 1) := by decide +kernel
theorem dX1_carryOut_113 : decode cX1_carryOut 113 = .ok (.goto 4, 3) := by decide +kernel
theorem dX1_carryOut_116 : decode cX1_carryOut 116 = .ok (.iconst 0, 1) := by decide +kernel
theorem dX1_carryOut_117 : decode cX1_carryOut 117 = .ok (.istore 7, 2) := by decide +kernel
theorem dX1_carryOut_119 : decode cX1_carryOut 119 = .ok (.aload_n 0, 1) := by decide +kernel
theorem dX1_carryOut_120 : decode cX1_carryOut 120 = .ok (.getfield 12, 3) := by decide +kernel
theorem dX1_carryOut_123 : decode cX1_carryOut 123 = .ok (.iload_n 2, 1) := by decide +kernel
theorem dX1_carryOut_124 : decode cX1_carryOut 124 = .ok (.aload_n 0, 1) := by decide +kernel
theorem dX1_carryOut_125 : decode cX1_carryOut 125 = .ok (.getfield 35, 3) := by decide +kernel
theorem dX1_carryOut_128 : decode cX1_carryOut 128 = .ok (.iload 7, 2) := by decide +kernel
theorem dX1_carryOut_130 : decode cX1_carryOut 130 = .ok (.ifCond .eq 7, 3) := by decide +kernel
theorem dX1_carryOut_133 : decode cX1_carryOut 133 = .ok (.iconst 1, 1) := by decide +kernel
theorem dX1_carryOut_134 : decode cX1_carryOut 134 = .ok (.goto 5, 3) := by decide +kernel
theorem dX1_carryOut_137 : decode cX1_carryOut 137 = .ok (.iload 4, 2) := by decide +kernel
theorem dX1_carryOut_139 : decode cX1_carryOut 139 = .ok (.iload 5, 2) := by decide +kernel
theorem dX1_carryOut_141 : decode cX1_carryOut 141 = .ok (.invokevirtual 88, 3) := by decide +kernel
theorem dX1_carryOut_144 : decode cX1_carryOut 144 = .ok (.aload_n 0, 1) := by decide +kernel
theorem dX1_carryOut_145 : decode cX1_carryOut 145 = .ok (.getfield 12, 3) := by decide +kernel
theorem dX1_carryOut_148 : decode cX1_carryOut 148 = .ok (.iload_n 1, 1) := by decide +kernel
theorem dX1_carryOut_149 : decode cX1_carryOut 149 = .ok (.invokevirtual 85, 3) := by decide +kernel
theorem dX1_carryOut_152 : decode cX1_carryOut 152 = .ok (.aload_n 0, 1) := by decide +kernel
theorem dX1_carryOut_153 : decode cX1_carryOut 153 = .ok (.dup, 1) := by decide +kernel
theorem dX1_carryOut_154 : decode cX1_carryOut 154 = .ok (.getfield 57, 3) := by decide +kernel
theorem dX1_carryOut_157 : decode cX1_carryOut 157 = .ok (.iload_n 3, 1) := by decide +kernel
theorem dX1_carryOut_158 : decode cX1_carryOut 158 = .ok (.iadd, 1) := by decide +kernel
theorem dX1_carryOut_159 : decode cX1_carryOut 159 = .ok (.putfield 57, 3) := by decide +kernel
theorem dX1_carryOut_162 : decode cX1_carryOut 162 = .ok (.aload_n 0, 1) := by decide +kernel
theorem dX1_carryOut_163 : decode cX1_carryOut 163 = .ok (.dup, 1) := by decide +kernel
theorem dX1_carryOut_164 : decode cX1_carryOut 164 = .ok (.getfield 41, 3) := by decide +kernel
theorem dX1_carryOut_167 : decode cX1_carryOut 167 = .ok (.iconst 1, 1) := by decide +kernel
theorem dX1_carryOut_168 : decode cX1_carryOut 168 = .ok (.iadd, 1) := by decide +kernel
theorem dX1_carryOut_169 : decode cX1_carryOut 169 = .ok (.putfield 41, 3) := by decide +kernel
theorem dX1_carryOut_172 : decode cX1_carryOut 172 = .ok (.aload_n 0, 1) := by decide +kernel
theorem dX1_carryOut_173 : decode cX1_carryOut 173 = .ok (.iconst 0, 1) := by decide +kernel
theorem dX1_carryOut_174 : decode cX1_carryOut 174 = .ok (.putfield 44, 3) := by decide +kernel
theorem dX1_carryOut_177 : decode cX1_carryOut 177 = .ok (.iload_n 3, 1) := by decide +kernel
theorem dX1_carryOut_178 : decode cX1_carryOut 178 = .ok (.ireturn, 1) := by decide +kernel
theorem dX1_springBehindTaking_0 : decode cX1_springBehindTaking 0 = .ok (.iload_n 2, 1) := by decide +kernel
theorem dX1_springBehindTaking_1 : decode cX1_springBehindTaking 1 = .ok (.iconst 2, 1) := by decide +kernel
theorem dX1_springBehindTaking_2 : decode cX1_springBehindTaking 2 = .ok (.idiv, 1) := by decide +kernel
theorem dX1_springBehindTaking_3 : decode cX1_springBehindTaking 3 = .ok (.istore_n 3, 1) := by decide +kernel
theorem dX1_springBehindTaking_4 : decode cX1_springBehindTaking 4 = .ok (.iload_n 1, 1) := by decide +kernel
theorem dX1_springBehindTaking_5 : decode cX1_springBehindTaking 5 = .ok (.iload_n 3, 1) := by decide +kernel
theorem dX1_springBehindTaking_6 : decode cX1_springBehindTaking 6 = .ok (.iadd, 1) := by decide +kernel
theorem dX1_springBehindTaking_7 : decode cX1_springBehindTaking 7 = .ok (.aload_n 0, 1) := by decide +kernel
theorem dX1_springBehindTaking_8 : decode cX1_springBehindTaking 8 = .ok (.getfield 22, 3) := by decide +kernel
theorem dX1_springBehindTaking_11 : decode cX1_springBehindTaking 11 = .ok (.iadd, 1) := by decide +kernel
theorem dX1_springBehindTaking_12 : decode cX1_springBehindTaking 12 = .ok (.istore 4, 2) := by decide +kernel
theorem dX1_springBehindTaking_14 : decode cX1_springBehindTaking 14 = .ok (.iload 4, 2) := by decide +kernel
theorem dX1_springBehindTaking_16 : decode cX1_springBehindTaking 16 = .ok (.aload_n 0, 1) := by decide +kernel
theorem dX1_springBehindTaking_17 : decode cX1_springBehindTaking 17 = .ok (.getfield 18, 3) := by decide +kernel
theorem dX1_springBehindTaking_20 : decode cX1_springBehindTaking 20 = .ok (.invokestatic 122, 3) := by decide +kernel
theorem dX1_springBehindTaking_23 : decode cX1_springBehindTaking 23 = .ok (.istore 5, 2) := by decide +kernel
theorem dX1_springBehindTaking_25 : decode cX1_springBehindTaking 25 = .ok (.aload_n 0, 1) := by decide +kernel
theorem dX1_springBehindTaking_26 : decode cX1_springBehindTaking 26 = .ok (.dup, 1) := by decide +kernel
theorem dX1_springBehindTaking_27 : decode cX1_springBehindTaking 27 = .ok (.getfield 54, 3) := by decide +kernel
theorem dX1_springBehindTaking_30 : decode cX1_springBehindTaking 30 = .ok (.aload_n 0, 1) := by decide +kernel
theorem dX1_springBehindTaking_31 : decode cX1_springBehindTaking 31 = .ok (.getfield 22, 3) := by decide +kernel
theorem dX1_springBehindTaking_34 : decode cX1_springBehindTaking 34 = .ok (.iadd, 1) := by decide +kernel
theorem dX1_springBehindTaking_35 : decode cX1_springBehindTaking 35 = .ok (.putfield 54, 3) := by decide +kernel
theorem dX1_springBehindTaking_38 : decode cX1_springBehindTaking 38 = .ok (.aload_n 0, 1) := by decide +kernel
theorem dX1_springBehindTaking_39 : decode cX1_springBehindTaking 39 = .ok (.dup, 1) := by decide +kernel
theorem dX1_springBehindTaking_40 : decode cX1_springBehindTaking 40 = .ok (.getfield 60, 3) := by decide +kernel
theorem dX1_springBehindTaking_43 : decode cX1_springBehindTaking 43 = .ok (.iload_n 2, 1) := by decide +kernel
theorem dX1_springBehindTaking_44 : decode cX1_springBehindTaking 44 = .ok (.iload_n 3, 1) := by decide +kernel
theorem dX1_springBehindTaking_45 : decode cX1_springBehindTaking 45 = .ok (.isub, 1) := by decide +kernel
theorem dX1_springBehindTaking_46 : decode cX1_springBehindTaking 46 = .ok (.iload 4, 2) := by decide +kernel
theorem dX1_springBehindTaking_48 : decode cX1_springBehindTaking 48 = .ok (.iadd, 1) := by decide +kernel
theorem dX1_springBehindTaking_49 : decode cX1_springBehindTaking 49 = .ok (.iload 5, 2) := by decide +kernel
theorem dX1_springBehindTaking_51 : decode cX1_springBehindTaking 51 = .ok (.isub, 1) := by decide +kernel
theorem dX1_springBehindTaking_52 : decode cX1_springBehindTaking 52 = .ok (.iadd, 1) := by decide +kernel
theorem dX1_springBehindTaking_53 : decode cX1_springBehindTaking 53 = .ok (.putfield 60, 3) := by decide +kernel
theorem dX1_springBehindTaking_56 : decode cX1_springBehindTaking 56 = .ok (.iload 5, 2) := by decide +kernel
theorem dX1_springBehindTaking_58 : decode cX1_springBehindTaking 58 = .ok (.ireturn, 1) := by decide +kernel
theorem dX1_makePass_0 : decode cX1_makePass 0 = .ok (.aload_n 0, 1) := by decide +kernel
theorem dX1_makePass_1 : decode cX1_makePass 1 = .ok (.dup, 1) := by decide +kernel
theorem dX1_makePass_2 : decode cX1_makePass 2 = .ok (.getfield 41, 3) := by decide +kernel
theorem dX1_makePass_5 : decode cX1_makePass 5 = .ok (.iconst 1, 1) := by decide +kernel
theorem dX1_makePass_6 : decode cX1_makePass 6 = .ok (.iadd, 1) := by decide +kernel
theorem dX1_makePass_7 : decode cX1_makePass 7 = .ok (.putfield 41, 3) := by decide +kernel
theorem dX1_makePass_10 : decode cX1_makePass 10 = .ok (.aload_n 0, 1) := by decide +kernel
theorem dX1_makePass_11 : decode cX1_makePass 11 = .ok (.getfield 44, 3) := by decide +kernel
theorem dX1_makePass_14 : decode cX1_makePass 14 = .ok (.ifCond .eq 46, 3) := by decide +kernel
theorem dX1_makePass_17 : decode cX1_makePass 17 = .ok (.aload_n 0, 1) := by decide +kernel
theorem dX1_makePass_18 : decode cX1_makePass 18 = .ok (.iconst 2, 1) := by decide +kernel
theorem dX1_makePass_19 : decode cX1_makePass 19 = .ok (.putfield 38, 3) := by decide +kernel
theorem dX1_makePass_22 : decode cX1_makePass 22 = .ok (.aload_n 0, 1) := by decide +kernel
theorem dX1_makePass_23 : decode cX1_makePass 23 = .ok (.getfield 12, 3) := by decide +kernel
theorem dX1_makePass_26 : decode cX1_makePass 26 = .ok (.iconst 0, 1) := by decide +kernel
theorem dX1_makePass_27 : decode cX1_makePass 27 = .ok (.invokevirtual 127, 3) := by decide +kernel
theorem dX1_makePass_30 : decode cX1_makePass 30 = .ok (.aload_n 0, 1) := by decide +kernel
theorem dX1_makePass_31 : decode cX1_makePass 31 = .ok (.getfield 12, 3) := by decide +kernel
theorem dX1_makePass_34 : decode cX1_makePass 34 = .ok (.iconst 1, 1) := by decide +kernel
theorem dX1_makePass_35 : decode cX1_makePass 35 = .ok (.invokevirtual 127, 3) := by decide +kernel
theorem dX1_makePass_38 : decode cX1_makePass 38 = .ok (.isub, 1) := by decide +kernel
theorem dX1_makePass_39 : decode cX1_makePass 39 = .ok (.istore_n 1, 1) := by decide +kernel
theorem dX1_makePass_40 : decode cX1_makePass 40 = .ok (.iload_n 1, 1) := by decide +kernel
theorem dX1_makePass_41 : decode cX1_makePass 41 = .ok (.ifCond .eq 16, 3) := by decide +kernel
theorem dX1_makePass_44 : decode cX1_makePass 44 = .ok (.aload_n 0, 1) := by decide +kernel
theorem dX1_makePass_45 : decode cX1_makePass 45 = .ok (.iload_n 1, 1) := by decide +kernel
theorem dX1_makePass_46 : decode cX1_makePass 46 = .ok (.ifCond .le 7, 3) := by decide +kernel
theorem dX1_makePass_49 : decode cX1_makePass 49 = .ok (.iconst 0, 1) := by decide +kernel
theorem dX1_makePass_50 : decode cX1_makePass 50 = .ok (.goto 4, 3) := by decide +kernel
theorem dX1_makePass_53 : decode cX1_makePass 53 = .ok (.iconst 1, 1) := by decide +kernel
theorem dX1_makePass_54 : decode cX1_makePass 54 = .ok (.putfield 28, 3) := by decide +kernel
theorem dX1_makePass_57 : decode cX1_makePass 57 = .ok (.goto 18, 3) := by decide +kernel
theorem dX1_makePass_60 : decode cX1_makePass 60 = .ok (.aload_n 0, 1) := by decide +kernel
theorem dX1_makePass_61 : decode cX1_makePass 61 = .ok (.iconst 1, 1) := by decide +kernel
theorem dX1_makePass_62 : decode cX1_makePass 62 = .ok (.putfield 44, 3) := by decide +kernel
theorem dX1_makePass_65 : decode cX1_makePass 65 = .ok (.aload_n 0, 1) := by decide +kernel
theorem dX1_makePass_66 : decode cX1_makePass 66 = .ok (.iconst 1, 1) := by decide +kernel
theorem dX1_makePass_67 : decode cX1_makePass 67 = .ok (.aload_n 0, 1) := by decide +kernel
theorem dX1_makePass_68 : decode cX1_makePass 68 = .ok (.getfield 35, 3) := by decide +kernel
theorem dX1_makePass_71 : decode cX1_makePass 71 = .ok (.isub, 1) := by decide +kernel
theorem dX1_makePass_72 : decode cX1_makePass 72 = .ok (.invokevirtual 113, 3) := by decide +kernel
theorem dX1_makePass_75 : decode cX1_makePass 75 = .ok (.return_, 1) := by decide +kernel
theorem dX1_beginTurn_0 : decode cX1_beginTurn 0 = .ok (.aload_n 0, 1) := by decide +kernel
theorem dX1_beginTurn_1 : decode cX1_beginTurn 1 = .ok (.iload_n 1, 1) := by decide +kernel
theorem dX1_beginTurn_2 : decode cX1_beginTurn 2 = .ok (.putfield 35, 3) := by decide +kernel
theorem dX1_beginTurn_5 : decode cX1_beginTurn 5 = .ok (.iconst 0, 1) := by decide +kernel
theorem dX1_beginTurn_6 : decode cX1_beginTurn 6 = .ok (.istore_n 2, 1) := by decide +kernel
theorem dX1_beginTurn_7 : decode cX1_beginTurn 7 = .ok (.iload_n 2, 1) := by decide +kernel
theorem dX1_beginTurn_8 : decode cX1_beginTurn 8 = .ok (.bipush 36, 2) := by decide +kernel
theorem dX1_beginTurn_10 : decode cX1_beginTurn 10 = .ok (.if_icmp .ge 81, 3) := by decide +kernel
theorem dX1_beginTurn_13 : decode cX1_beginTurn 13 = .ok (.aload_n 0, 1) := by decide +kernel
theorem dX1_beginTurn_14 : decode cX1_beginTurn 14 = .ok (.getfield 12, 3) := by decide +kernel
theorem dX1_beginTurn_17 : decode cX1_beginTurn 17 = .ok (.iload_n 2, 1) := by decide +kernel
theorem dX1_beginTurn_18 : decode cX1_beginTurn 18 = .ok (.invokevirtual 100, 3) := by decide +kernel
theorem dX1_beginTurn_21 : decode cX1_beginTurn 21 = .ok (.iload_n 1, 1) := by decide +kernel
theorem dX1_beginTurn_22 : decode cX1_beginTurn 22 = .ok (.if_icmp .ne 63, 3) := by decide +kernel
theorem dX1_beginTurn_25 : decode cX1_beginTurn 25 = .ok (.aload_n 0, 1) := by decide +kernel
theorem dX1_beginTurn_26 : decode cX1_beginTurn 26 = .ok (.getfield 12, 3) := by decide +kernel
theorem dX1_beginTurn_29 : decode cX1_beginTurn 29 = .ok (.iload_n 2, 1) := by decide +kernel
theorem dX1_beginTurn_30 : decode cX1_beginTurn 30 = .ok (.invokevirtual 130, 3) := by decide +kernel
theorem dX1_beginTurn_33 : decode cX1_beginTurn 33 = .ok (.ifCond .eq 52, 3) := by decide +kernel
theorem dX1_beginTurn_36 : decode cX1_beginTurn 36 = .ok (.aload_n 0, 1) := by decide +kernel
theorem dX1_beginTurn_37 : decode cX1_beginTurn 37 = .ok (.getfield 25, 3) := by decide +kernel
theorem dX1_beginTurn_40 : decode cX1_beginTurn 40 = .ok (.aload_n 0, 1) := by decide +kernel
theorem dX1_beginTurn_41 : decode cX1_beginTurn 41 = .ok (.getfield 18, 3) := by decide +kernel
theorem dX1_beginTurn_44 : decode cX1_beginTurn 44 = .ok (.aload_n 0, 1) := by decide +kernel
theorem dX1_beginTurn_45 : decode cX1_beginTurn 45 = .ok (.getfield 12, 3) := by decide +kernel
theorem dX1_beginTurn_48 : decode cX1_beginTurn 48 = .ok (.iload_n 2, 1) := by decide +kernel
theorem dX1_beginTurn_49 : decode cX1_beginTurn 49 = .ok (.invokevirtual 77, 3) := by decide +kernel
theorem dX1_beginTurn_52 : decode cX1_beginTurn 52 = .ok (.isub, 1) := by decide +kernel
theorem dX1_beginTurn_53 : decode cX1_beginTurn 53 = .ok (.invokestatic 122, 3) := by decide +kernel
theorem dX1_beginTurn_56 : decode cX1_beginTurn 56 = .ok (.istore_n 3, 1) := by decide +kernel
theorem dX1_beginTurn_57 : decode cX1_beginTurn 57 = .ok (.aload_n 0, 1) := by decide +kernel
theorem dX1_beginTurn_58 : decode cX1_beginTurn 58 = .ok (.getfield 12, 3) := by decide +kernel
theorem dX1_beginTurn_61 : decode cX1_beginTurn 61 = .ok (.iload_n 2, 1) := by decide +kernel
theorem dX1_beginTurn_62 : decode cX1_beginTurn 62 = .ok (.aload_n 0, 1) := by decide +kernel
theorem dX1_beginTurn_63 : decode cX1_beginTurn 63 = .ok (.getfield 12, 3) := by decide +kernel
theorem dX1_beginTurn_66 : decode cX1_beginTurn 66 = .ok (.iload_n 2, 1) := by decide +kernel
theorem dX1_beginTurn_67 : decode cX1_beginTurn 67 = .ok (.invokevirtual 77, 3) := by decide +kernel
theorem dX1_beginTurn_70 : decode cX1_beginTurn 70 = .ok (.iload_n 3, 1) := by decide +kernel
theorem dX1_beginTurn_71 : decode cX1_beginTurn 71 = .ok (.iadd, 1) := by decide +kernel
theorem dX1_beginTurn_72 : decode cX1_beginTurn 72 = .ok (.invokevirtual 81, 3) := by decide +kernel
theorem dX1_beginTurn_75 : decode cX1_beginTurn 75 = .ok (.aload_n 0, 1) := by decide +kernel
theorem dX1_beginTurn_76 : decode cX1_beginTurn 76 = .ok (.dup, 1) := by decide +kernel
theorem dX1_beginTurn_77 : decode cX1_beginTurn 77 = .ok (.getfield 51, 3) := by decide +kernel
theorem dX1_beginTurn_80 : decode cX1_beginTurn 80 = .ok (.iload_n 3, 1) := by decide +kernel
theorem dX1_beginTurn_81 : decode cX1_beginTurn 81 = .ok (.iadd, 1) := by decide +kernel
theorem dX1_beginTurn_82 : decode cX1_beginTurn 82 = .ok (.putfield 51, 3) := by decide +kernel
theorem dX1_beginTurn_85 : decode cX1_beginTurn 85 = .ok (.iinc 2 1, 3) := by decide +kernel
theorem dX1_beginTurn_88 : decode cX1_beginTurn 88 = .ok (.goto (-81), 3) := by decide +kernel
theorem dX1_beginTurn_91 : decode cX1_beginTurn 91 = .ok (.return_, 1) := by decide +kernel
theorem dX2_init_0 : decode cX2_init 0 = .ok (.aload_n 0, 1) := by decide +kernel
theorem dX2_init_1 : decode cX2_init 1 = .ok (.invokespecial 1, 3) := by decide +kernel
theorem dX2_init_4 : decode cX2_init 4 = .ok (.aload_n 0, 1) := by decide +kernel
theorem dX2_init_5 : decode cX2_init 5 = .ok (.new 7, 3) := by decide +kernel
theorem dX2_init_8 : decode cX2_init 8 = .ok (.dup, 1) := by decide +kernel
theorem dX2_init_9 : decode cX2_init 9 = .ok (.invokespecial 9, 3) := by decide +kernel
theorem dX2_init_12 : decode cX2_init 12 = .ok (.putfield 10, 3) := by decide +kernel
theorem dX2_init_15 : decode cX2_init 15 = .ok (.aload_n 0, 1) := by decide +kernel
theorem dX2_init_16 : decode cX2_init 16 = .ok (.new 7, 3) := by decide +kernel
theorem dX2_init_19 : decode cX2_init 19 = .ok (.dup, 1) := by decide +kernel
theorem dX2_init_20 : decode cX2_init 20 = .ok (.invokespecial 9, 3) := by decide +kernel
theorem dX2_init_23 : decode cX2_init 23 = .ok (.putfield 16, 3) := by decide +kernel
theorem dX2_init_26 : decode cX2_init 26 = .ok (.aload_n 0, 1) := by decide +kernel
theorem dX2_init_27 : decode cX2_init 27 = .ok (.iconst 5, 1) := by decide +kernel
theorem dX2_init_28 : decode cX2_init 28 = .ok (.anewarray 7, 3) := by decide +kernel
theorem dX2_init_31 : decode cX2_init 31 = .ok (.putfield 19, 3) := by decide +kernel
theorem dX2_init_34 : decode cX2_init 34 = .ok (.aload_n 0, 1) := by decide +kernel
theorem dX2_init_35 : decode cX2_init 35 = .ok (.bipush 80, 2) := by decide +kernel
theorem dX2_init_37 : decode cX2_init 37 = .ok (.newarray .char, 2) := by decide +kernel
theorem dX2_init_39 : decode cX2_init 39 = .ok (.putfield 23, 3) := by decide +kernel
theorem dX2_init_42 : decode cX2_init 42 = .ok (.aload_n 0, 1) := by decide +kernel
theorem dX2_init_43 : decode cX2_init 43 = .ok (.bipush 36, 2) := by decide +kernel
theorem dX2_init_45 : decode cX2_init 45 = .ok (.newarray .int, 2) := by decide +kernel
theorem dX2_init_47 : decode cX2_init 47 = .ok (.putfield 27, 3) := by decide +kernel
theorem dX2_init_50 : decode cX2_init 50 = .ok (.aload_n 0, 1) := by decide +kernel
theorem dX2_init_51 : decode cX2_init 51 = .ok (.bipush 36, 2) := by decide +kernel
theorem dX2_init_53 : decode cX2_init 53 = .ok (.newarray .int, 2) := by decide +kernel
theorem dX2_init_55 : decode cX2_init 55 = .ok (.putfield 31, 3) := by decide +kernel
theorem dX2_init_58 : decode cX2_init 58 = .ok (.iconst 0, 1) := by decide +kernel
theorem dX2_init_59 : decode cX2_init 59 = .ok (.istore_n 1, 1) := by decide +kernel
theorem dX2_init_60 : decode cX2_init 60 = .ok (.iload_n 1, 1) := by decide +kernel
theorem dX2_init_61 : decode cX2_init 61 = .ok (.aload_n 0, 1) := by decide +kernel
theorem dX2_init_62 : decode cX2_init 62 = .ok (.getfield 19, 3) := by decide +kernel
theorem dX2_init_65 : decode cX2_init 65 = .ok (.arraylength, 1) := by decide +kernel
theorem dX2_init_66 : decode cX2_init 66 = .ok (.if_icmp .ge 22, 3) := by decide +kernel
theorem dX2_init_69 : decode cX2_init 69 = .ok (.aload_n 0, 1) := by decide +kernel
theorem dX2_init_70 : decode cX2_init 70 = .ok (.getfield 19, 3) := by decide +kernel
theorem dX2_init_73 : decode cX2_init 73 = .ok (.iload_n 1, 1) := by decide +kernel
theorem dX2_init_74 : decode cX2_init 74 = .ok (.new 7, 3) := by decide +kernel
theorem dX2_init_77 : decode cX2_init 77 = .ok (.dup, 1) := by decide +kernel
theorem dX2_init_78 : decode cX2_init 78 = .ok (.invokespecial 9, 3) := by decide +kernel
theorem dX2_init_81 : decode cX2_init 81 = .ok (.aastore, 1) := by decide +kernel
theorem dX2_init_82 : decode cX2_init 82 = .ok (.iinc 1 1, 3) := by decide +kernel
theorem dX2_init_85 : decode cX2_init 85 = .ok (.goto (-25), 3) := by decide +kernel
theorem dX2_init_88 : decode cX2_init 88 = .ok (.aload_n 0, 1) := by decide +kernel
theorem dX2_init_89 : decode cX2_init 89 = .ok (.getfield 10, 3) := by decide +kernel
theorem dX2_init_92 : decode cX2_init 92 = .ok (.invokevirtual 34, 3) := by decide +kernel
theorem dX2_init_95 : decode cX2_init 95 = .ok (.return_, 1) := by decide +kernel
theorem dX2_setUp_0 : decode cX2_setUp 0 = .ok (.aload_n 0, 1) := by decide +kernel
theorem dX2_setUp_1 : decode cX2_setUp 1 = .ok (.invokevirtual 37, 3) := by decide +kernel
theorem dX2_setUp_4 : decode cX2_setUp 4 = .ok (.aload_n 0, 1) := by decide +kernel
theorem dX2_setUp_5 : decode cX2_setUp 5 = .ok (.getfield 10, 3) := by decide +kernel
theorem dX2_setUp_8 : decode cX2_setUp 8 = .ok (.invokevirtual 34, 3) := by decide +kernel
theorem dX2_setUp_11 : decode cX2_setUp 11 = .ok (.aload_n 0, 1) := by decide +kernel
theorem dX2_setUp_12 : decode cX2_setUp 12 = .ok (.getfield 10, 3) := by decide +kernel
theorem dX2_setUp_15 : decode cX2_setUp 15 = .ok (.getfield 40, 3) := by decide +kernel
theorem dX2_setUp_18 : decode cX2_setUp 18 = .ok (.invokevirtual 44, 3) := by decide +kernel
theorem dX2_setUp_21 : decode cX2_setUp 21 = .ok (.ireturn, 1) := by decide +kernel
theorem dX2_set_0 : decode cX2_set 0 = .ok (.iload_n 1, 1) := by decide +kernel
theorem dX2_set_1 : decode cX2_set 1 = .ok (.iload_n 2, 1) := by decide +kernel
theorem dX2_set_2 : decode cX2_set 2 = .ok (.invokestatic 50, 3) := by decide +kernel
theorem dX2_set_5 : decode cX2_set 5 = .ok (.ifCond .ne 5, 3) := by decide +kernel
theorem dX2_set_8 : decode cX2_set 8 = .ok (.iconst (-1), 1) := by decide +kernel
theorem dX2_set_9 : decode cX2_set 9 = .ok (.ireturn, 1) := by decide +kernel
theorem dX2_set_10 : decode cX2_set 10 = .ok (.aload_n 0, 1) := by decide +kernel
theorem dX2_set_11 : decode cX2_set 11 = .ok (.invokevirtual 37, 3) := by decide +kernel
theorem dX2_set_14 : decode cX2_set 14 = .ok (.aload_n 0, 1) := by decide +kernel
theorem dX2_set_15 : decode cX2_set 15 = .ok (.getfield 10, 3) := by decide +kernel
theorem dX2_set_18 : decode cX2_set 18 = .ok (.iload_n 1, 1) := by decide +kernel
theorem dX2_set_19 : decode cX2_set 19 = .ok (.invokevirtual 54, 3) := by decide +kernel
theorem dX2_set_22 : decode cX2_set 22 = .ok (.istore_n 3, 1) := by decide +kernel
theorem dX2_set_23 : decode cX2_set 23 = .ok (.aload_n 0, 1) := by decide +kernel
theorem dX2_set_24 : decode cX2_set 24 = .ok (.getfield 10, 3) := by decide +kernel
theorem dX2_set_27 : decode cX2_set 27 = .ok (.iload_n 1, 1) := by decide +kernel
theorem dX2_set_28 : decode cX2_set 28 = .ok (.iload_n 2, 1) := by decide +kernel
theorem dX2_set_29 : decode cX2_set 29 = .ok (.invokevirtual 58, 3) := by decide +kernel
theorem dX2_set_32 : decode cX2_set 32 = .ok (.iload_n 3, 1) := by decide +kernel
theorem dX2_set_33 : decode cX2_set 33 = .ok (.ireturn, 1) := by decide +kernel
theorem dX2_put_0 : decode cX2_put 0 = .ok (.iload_n 2, 1) := by decide +kernel
theorem dX2_put_1 : decode cX2_put 1 = .ok (.invokestatic 62, 3) := by decide +kernel
theorem dX2_put_4 : decode cX2_put 4 = .ok (.ifCond .ne 8, 3) := by decide +kernel
theorem dX2_put_7 : decode cX2_put 7 = .ok (.iload_n 2, 1) := by decide +kernel
theorem dX2_put_8 : decode cX2_put 8 = .ok (.iconst (-1), 1) := by decide +kernel
theorem dX2_put_9 : decode cX2_put 9 = .ok (.if_icmp .ne 7, 3) := by decide +kernel
theorem dX2_put_12 : decode cX2_put 12 = .ok (.iconst 1, 1) := by decide +kernel
theorem dX2_put_13 : decode cX2_put 13 = .ok (.goto 4, 3) := by decide +kernel
theorem dX2_put_16 : decode cX2_put 16 = .ok (.iconst 0, 1) := by decide +kernel
theorem dX2_put_17 : decode cX2_put 17 = .ok (.istore 5, 2) := by decide +kernel
theorem dX2_put_19 : decode cX2_put 19 = .ok (.iload_n 3, 1) := by decide +kernel
theorem dX2_put_20 : decode cX2_put 20 = .ok (.ifCond .lt 12, 3) := by decide +kernel
theorem dX2_put_23 : decode cX2_put 23 = .ok (.iload_n 3, 1) := by decide +kernel
theorem dX2_put_24 : decode cX2_put 24 = .ok (.iconst 4, 1) := by decide +kernel
theorem dX2_put_25 : decode cX2_put 25 = .ok (.if_icmp .gt 7, 3) := by decide +kernel
theorem dX2_put_28 : decode cX2_put 28 = .ok (.iconst 1, 1) := by decide +kernel
theorem dX2_put_29 : decode cX2_put 29 = .ok (.goto 4, 3) := by decide +kernel
theorem dX2_put_32 : decode cX2_put 32 = .ok (.iconst 0, 1) := by decide +kernel
theorem dX2_put_33 : decode cX2_put 33 = .ok (.istore 6, 2) := by decide +kernel
theorem dX2_put_35 : decode cX2_put 35 = .ok (.iload 4, 2) := by decide +kernel
theorem dX2_put_37 : decode cX2_put 37 = .ok (.ifCond .lt 19, 3) := by decide +kernel
theorem dX2_put_40 : decode cX2_put 40 = .ok (.iload 4, 2) := by decide +kernel
theorem dX2_put_42 : decode cX2_put 42 = .ok (.aload_n 0, 1) := by decide +kernel
theorem dX2_put_43 : decode cX2_put 43 = .ok (.getfield 10, 3) := by decide +kernel
theorem dX2_put_46 : decode cX2_put 46 = .ok (.getfield 66, 3) := by decide +kernel
theorem dX2_put_49 : decode cX2_put 49 = .ok (.if_icmp .gt 7, 3) := by decide +kernel
theorem dX2_put_52 : decode cX2_put 52 = .ok (.iconst 1, 1) := by decide +kernel
theorem dX2_put_53 : decode cX2_put 53 = .ok (.goto 4, 3) := by decide +kernel
theorem dX2_put_56 : decode cX2_put 56 = .ok (.iconst 0, 1) := by decide +kernel
theorem dX2_put_57 : decode cX2_put 57 = .ok (.istore 7, 2) := by decide +kernel
theorem dX2_put_59 : decode cX2_put 59 = .ok (.iload_n 1, 1) := by decide +kernel
theorem dX2_put_60 : decode cX2_put 60 = .ok (.invokestatic 70, 3) := by decide +kernel
theorem dX2_put_63 : decode cX2_put 63 = .ok (.ifCond .eq 18, 3) := by decide +kernel
theorem dX2_put_66 : decode cX2_put 66 = .ok (.iload 5, 2) := by decide +kernel
theorem dX2_put_68 : decode cX2_put 68 = .ok (.ifCond .eq 13, 3) := by decide +kernel
theorem dX2_put_71 : decode cX2_put 71 = .ok (.iload 6, 2) := by decide +kernel
theorem dX2_put_73 : decode cX2_put 73 = .ok (.ifCond .eq 8, 3) := by decide +kernel
theorem dX2_put_76 : decode cX2_put 76 = .ok (.iload 7, 2) := by decide +kernel
theorem dX2_put_78 : decode cX2_put 78 = .ok (.ifCond .ne 5, 3) := by decide +kernel
theorem dX2_put_81 : decode cX2_put 81 = .ok (.iconst (-1), 1) := by decide +kernel
theorem dX2_put_82 : decode cX2_put 82 = .ok (.ireturn, 1) := by decide +kernel
theorem dX2_put_83 : decode cX2_put 83 = .ok (.aload_n 0, 1) := by decide +kernel
theorem dX2_put_84 : decode cX2_put 84 = .ok (.getfield 10, 3) := by decide +kernel
theorem dX2_put_87 : decode cX2_put 87 = .ok (.invokevirtual 73, 3) := by decide +kernel
theorem dX2_put_90 : decode cX2_put 90 = .ok (.ifCond .eq 6, 3) := by decide +kernel
theorem dX2_put_93 : decode cX2_put 93 = .ok (.bipush (-2), 2) := by decide +kernel
theorem dX2_put_95 : decode cX2_put 95 = .ok (.ireturn, 1) := by decide +kernel
theorem dX2_put_96 : decode cX2_put 96 = .ok (.aload_n 0, 1) := by decide +kernel
theorem dX2_put_97 : decode cX2_put 97 = .ok (.invokevirtual 37, 3) := by decide +kernel
theorem dX2_put_100 : decode cX2_put 100 = .ok (.aload_n 0, 1) := by decide +kernel
theorem dX2_put_101 : decode cX2_put 101 = .ok (.getfield 10, 3) := by decide +kernel
theorem dX2_put_104 : decode cX2_put 104 = .ok (.getfield 40, 3) := by decide +kernel
theorem dX2_put_107 : decode cX2_put 107 = .ok (.iload_n 1, 1) := by decide +kernel
theorem dX2_put_108 : decode cX2_put 108 = .ok (.invokevirtual 77, 3) := by decide +kernel
theorem dX2_put_111 : decode cX2_put 111 = .ok (.istore 8, 2) := by decide +kernel
theorem dX2_put_113 : decode cX2_put 113 = .ok (.aload_n 0, 1) := by decide +kernel
theorem dX2_put_114 : decode cX2_put 114 = .ok (.getfield 10, 3) := by decide +kernel
theorem dX2_put_117 : decode cX2_put 117 = .ok (.iload_n 1, 1) := by decide +kernel
theorem dX2_put_118 : decode cX2_put 118 = .ok (.iload_n 2, 1) := by decide +kernel
theorem dX2_put_119 : decode cX2_put 119 = .ok (.iload_n 3, 1) := by decide +kernel
theorem dX2_put_120 : decode cX2_put 120 = .ok (.iload 4, 2) := by decide +kernel
theorem dX2_put_122 : decode cX2_put 122 = .ok (.invokevirtual 80, 3) := by decide +kernel
theorem dX2_put_125 : decode cX2_put 125 = .ok (.iload 8, 2) := by decide +kernel
theorem dX2_put_127 : decode cX2_put 127 = .ok (.ifCond .eq 7, 3) := by decide +kernel
theorem dX2_put_130 : decode cX2_put 130 = .ok (.iconst 1, 1) := by decide +kernel
theorem dX2_put_131 : decode cX2_put 131 = .ok (.goto 4, 3) := by decide +kernel
theorem dX2_put_134 : decode cX2_put 134 = .ok (.iconst 0, 1) := by decide +kernel
theorem dX2_put_135 : decode cX2_put 135 = .ok (.ireturn, 1) := by decide +kernel
theorem dX2_tower_0 : decode cX2_tower 0 = .ok (.iload_n 1, 1) := by decide +kernel
theorem dX2_tower_1 : decode cX2_tower 1 = .ok (.invokestatic 70, 3) := by decide +kernel
theorem dX2_tower_4 : decode cX2_tower 4 = .ok (.ifCond .ne 5, 3) := by decide +kernel
theorem dX2_tower_7 : decode cX2_tower 7 = .ok (.iconst (-1), 1) := by decide +kernel
theorem dX2_tower_8 : decode cX2_tower 8 = .ok (.ireturn, 1) := by decide +kernel
theorem dX2_tower_9 : decode cX2_tower 9 = .ok (.aload_n 0, 1) := by decide +kernel
theorem dX2_tower_10 : decode cX2_tower 10 = .ok (.getfield 10, 3) := by decide +kernel
theorem dX2_tower_13 : decode cX2_tower 13 = .ok (.getfield 40, 3) := by decide +kernel
theorem dX2_tower_16 : decode cX2_tower 16 = .ok (.iload_n 1, 1) := by decide +kernel
theorem dX2_tower_17 : decode cX2_tower 17 = .ok (.invokevirtual 84, 3) := by decide +kernel
theorem dX2_tower_20 : decode cX2_tower 20 = .ok (.ifCond .ne 21, 3) := by decide +kernel
theorem dX2_tower_23 : decode cX2_tower 23 = .ok (.aload_n 0, 1) := by decide +kernel
theorem dX2_tower_24 : decode cX2_tower 24 = .ok (.getfield 10, 3) := by decide +kernel
theorem dX2_tower_27 : decode cX2_tower 27 = .ok (.getfield 40, 3) := by decide +kernel
theorem dX2_tower_30 : decode cX2_tower 30 = .ok (.invokevirtual 87, 3) := by decide +kernel
theorem dX2_tower_33 : decode cX2_tower 33 = .ok (.bipush 6, 2) := by decide +kernel
theorem dX2_tower_35 : decode cX2_tower 35 = .ok (.if_icmp .lt 6, 3) := by decide +kernel
theorem dX2_tower_38 : decode cX2_tower 38 = .ok (.bipush (-3), 2) := by decide +kernel
theorem dX2_tower_40 : decode cX2_tower 40 = .ok (.ireturn, 1) := by decide +kernel
theorem dX2_tower_41 : decode cX2_tower 41 = .ok (.aload_n 0, 1) := by decide +kernel
theorem dX2_tower_42 : decode cX2_tower 42 = .ok (.invokevirtual 37, 3) := by decide +kernel
theorem dX2_tower_45 : decode cX2_tower 45 = .ok (.aload_n 0, 1) := by decide +kernel
theorem dX2_tower_46 : decode cX2_tower 46 = .ok (.getfield 10, 3) := by decide +kernel
theorem dX2_tower_49 : decode cX2_tower 49 = .ok (.getfield 40, 3) := by decide +kernel
theorem dX2_tower_52 : decode cX2_tower 52 = .ok (.iload_n 1, 1) := by decide +kernel
theorem dX2_tower_53 : decode cX2_tower 53 = .ok (.aload_n 0, 1) := by decide +kernel
theorem dX2_tower_54 : decode cX2_tower 54 = .ok (.getfield 10, 3) := by decide +kernel
theorem dX2_tower_57 : decode cX2_tower 57 = .ok (.getfield 40, 3) := by decide +kernel
theorem dX2_tower_60 : decode cX2_tower 60 = .ok (.iload_n 1, 1) := by decide +kernel
theorem dX2_tower_61 : decode cX2_tower 61 = .ok (.invokevirtual 84, 3) := by decide +kernel
theorem dX2_tower_64 : decode cX2_tower 64 = .ok (.ifCond .ne 7, 3) := by decide +kernel
theorem dX2_tower_67 : decode cX2_tower 67 = .ok (.iconst 1, 1) := by decide +kernel
theorem dX2_tower_68 : decode cX2_tower 68 = .ok (.goto 4, 3) := by decide +kernel
theorem dX2_tower_71 : decode cX2_tower 71 = .ok (.iconst 0, 1) := by decide +kernel
theorem dX2_tower_72 : decode cX2_tower 72 = .ok (.invokevirtual 90, 3) := by decide +kernel
theorem dX2_tower_75 : decode cX2_tower 75 = .ok (.aload_n 0, 1) := by decide +kernel
theorem dX2_tower_76 : decode cX2_tower 76 = .ok (.getfield 10, 3) := by decide +kernel
theorem dX2_tower_79 : decode cX2_tower 79 = .ok (.getfield 40, 3) := by decide +kernel
theorem dX2_tower_82 : decode cX2_tower 82 = .ok (.invokevirtual 87, 3) := by decide +kernel
theorem dX2_tower_85 : decode cX2_tower 85 = .ok (.ireturn, 1) := by decide +kernel
theorem dX2_cell_0 : decode cX2_cell 0 = .ok (.iload_n 1, 1) := by decide +kernel
theorem dX2_cell_1 : decode cX2_cell 1 = .ok (.invokestatic 70, 3) := by decide +kernel
theorem dX2_cell_4 : decode cX2_cell 4 = .ok (.ifCond .eq 12, 3) := by decide +kernel
theorem dX2_cell_7 : decode cX2_cell 7 = .ok (.iload_n 2, 1) := by decide +kernel
theorem dX2_cell_8 : decode cX2_cell 8 = .ok (.ifCond .lt 8, 3) := by decide +kernel
theorem dX2_cell_11 : decode cX2_cell 11 = .ok (.iload_n 2, 1) := by decide +kernel
theorem dX2_cell_12 : decode cX2_cell 12 = .ok (.iconst 4, 1) := by decide +kernel
theorem dX2_cell_13 : decode cX2_cell 13 = .ok (.if_icmp .le 5, 3) := by decide +kernel
theorem dX2_cell_16 : decode cX2_cell 16 = .ok (.iconst (-1), 1) := by decide +kernel
theorem dX2_cell_17 : decode cX2_cell 17 = .ok (.ireturn, 1) := by decide +kernel
theorem dX2_cell_18 : decode cX2_cell 18 = .ok (.aload_n 0, 1) := by decide +kernel
theorem dX2_cell_19 : decode cX2_cell 19 = .ok (.getfield 10, 3) := by decide +kernel
theorem dX2_cell_22 : decode cX2_cell 22 = .ok (.getfield 40, 3) := by decide +kernel
theorem dX2_cell_25 : decode cX2_cell 25 = .ok (.astore_n 3, 1) := by decide +kernel
theorem dX2_cell_26 : decode cX2_cell 26 = .ok (.iload_n 2, 1) := by decide +kernel
theorem dX2_cell_27 : decode cX2_cell 27 = .ok (.iconst 3, 1) := by decide +kernel
theorem dX2_cell_28 : decode cX2_cell 28 = .ok (.if_icmp .ne 17, 3) := by decide +kernel
theorem dX2_cell_31 : decode cX2_cell 31 = .ok (.aload_n 3, 1) := by decide +kernel
theorem dX2_cell_32 : decode cX2_cell 32 = .ok (.iload_n 1, 1) := by decide +kernel
theorem dX2_cell_33 : decode cX2_cell 33 = .ok (.invokevirtual 84, 3) := by decide +kernel
theorem dX2_cell_36 : decode cX2_cell 36 = .ok (.ifCond .eq 7, 3) := by decide +kernel
theorem dX2_cell_39 : decode cX2_cell 39 = .ok (.iconst 1, 1) := by decide +kernel
theorem dX2_cell_40 : decode cX2_cell 40 = .ok (.goto 4, 3) := by decide +kernel
theorem dX2_cell_43 : decode cX2_cell 43 = .ok (.iconst 0, 1) := by decide +kernel
theorem dX2_cell_44 : decode cX2_cell 44 = .ok (.ireturn, 1) := by decide +kernel
theorem dX2_cell_45 : decode cX2_cell 45 = .ok (.aload_n 3, 1) := by decide +kernel
theorem dX2_cell_46 : decode cX2_cell 46 = .ok (.iload_n 1, 1) := by decide +kernel
theorem dX2_cell_47 : decode cX2_cell 47 = .ok (.invokevirtual 77, 3) := by decide +kernel
theorem dX2_cell_50 : decode cX2_cell 50 = .ok (.ifCond .ne 6, 3) := by decide +kernel
theorem dX2_cell_53 : decode cX2_cell 53 = .ok (.bipush (-4), 2) := by decide +kernel
theorem dX2_cell_55 : decode cX2_cell 55 = .ok (.ireturn, 1) := by decide +kernel
theorem dX2_cell_56 : decode cX2_cell 56 = .ok (.iload_n 2, 1) := by decide +kernel
theorem dX2_cell_57 : decode cX2_cell 57 = .ok (.tableswitch 45 0 2 #[27, 33, 39], 27) := by decide +kernel
theorem dX2_cell_84 : decode cX2_cell 84 = .ok (.aload_n 3, 1) := by decide +kernel
theorem dX2_cell_85 : decode cX2_cell 85 = .ok (.iload_n 1, 1) := by decide +kernel
theorem dX2_cell_86 : decode cX2_cell 86 = .ok (.invokevirtual 94, 3) := by decide +kernel
theorem dX2_cell_89 : decode cX2_cell 89 = .ok (.ireturn, 1) := by decide +kernel
theorem dX2_cell_90 : decode cX2_cell 90 = .ok (.aload_n 3, 1) := by decide +kernel
theorem dX2_cell_91 : decode cX2_cell 91 = .ok (.iload_n 1, 1) := by decide +kernel
theorem dX2_cell_92 : decode cX2_cell 92 = .ok (.invokevirtual 97, 3) := by decide +kernel
theorem dX2_cell_95 : decode cX2_cell 95 = .ok (.ireturn, 1) := by decide +kernel
theorem dX2_cell_96 : decode cX2_cell 96 = .ok (.aload_n 3, 1) := by decide +kernel
theorem dX2_cell_97 : decode cX2_cell 97 = .ok (.iload_n 1, 1) := by decide +kernel
theorem dX2_cell_98 : decode cX2_cell 98 = .ok (.invokevirtual 100, 3) := by decide +kernel
theorem dX2_cell_101 : decode cX2_cell 101 = .ok (.ireturn, 1) := by decide +kernel
theorem dX2_cell_102 : decode cX2_cell 102 = .ok (.aload_n 3, 1) := by decide +kernel
theorem dX2_cell_103 : decode cX2_cell 103 = .ok (.iload_n 1, 1) := by decide +kernel
theorem dX2_cell_104 : decode cX2_cell 104 = .ok (.invokevirtual 103, 3) := by decide +kernel
theorem dX2_cell_107 : decode cX2_cell 107 = .ok (.ireturn, 1) := by decide +kernel
theorem dX2_count_0 : decode cX2_count 0 = .ok (.iload_n 1, 1) := by decide +kernel
theorem dX2_count_1 : decode cX2_count 1 = .ok (.tableswitch 183 0 12 #[67, 75, 83, 107, 115, 126, 137, 149, 161, 166, 171, 171, 171], 67) := by decide +kernel
theorem dX2_count_68 : decode cX2_count 68 = .ok (.aload_n 0, 1) := by decide +kernel
theorem dX2_count_69 : decode cX2_count 69 = .ok (.getfield 10, 3) := by decide +kernel
theorem dX2_count_72 : decode cX2_count 72 = .ok (.getfield 106, 3) := by decide +kernel
theorem dX2_count_75 : decode cX2_count 75 = .ok (.ireturn, 1) := by decide +kernel
theorem dX2_count_76 : decode cX2_count 76 = .ok (.aload_n 0, 1) := by decide +kernel
theorem dX2_count_77 : decode cX2_count 77 = .ok (.getfield 10, 3) := by decide +kernel
theorem dX2_count_80 : decode cX2_count 80 = .ok (.getfield 109, 3) := by decide +kernel
theorem dX2_count_83 : decode cX2_count 83 = .ok (.ireturn, 1) := by decide +kernel
theorem dX2_count_84 : decode cX2_count 84 = .ok (.aload_n 0, 1) := by decide +kernel
theorem dX2_count_85 : decode cX2_count 85 = .ok (.getfield 10, 3) := by decide +kernel
theorem dX2_count_88 : decode cX2_count 88 = .ok (.getfield 112, 3) := by decide +kernel
theorem dX2_count_91 : decode cX2_count 91 = .ok (.iconst (-1), 1) := by decide +kernel
theorem dX2_count_92 : decode cX2_count 92 = .ok (.if_icmp .ne 8, 3) := by decide +kernel
theorem dX2_count_95 : decode cX2_count 95 = .ok (.bipush (-4), 2) := by decide +kernel
theorem dX2_count_97 : decode cX2_count 97 = .ok (.goto 10, 3) := by decide +kernel
theorem dX2_count_100 : decode cX2_count 100 = .ok (.aload_n 0, 1) := by decide +kernel
theorem dX2_count_101 : decode cX2_count 101 = .ok (.getfield 10, 3) := by decide +kernel
theorem dX2_count_104 : decode cX2_count 104 = .ok (.getfield 112, 3) := by decide +kernel
theorem dX2_count_107 : decode cX2_count 107 = .ok (.ireturn, 1) := by decide +kernel
theorem dX2_count_108 : decode cX2_count 108 = .ok (.aload_n 0, 1) := by decide +kernel
theorem dX2_count_109 : decode cX2_count 109 = .ok (.getfield 10, 3) := by decide +kernel
theorem dX2_count_112 : decode cX2_count 112 = .ok (.getfield 115, 3) := by decide +kernel
theorem dX2_count_115 : decode cX2_count 115 = .ok (.ireturn, 1) := by decide +kernel
theorem dX2_count_116 : decode cX2_count 116 = .ok (.aload_n 0, 1) := by decide +kernel
theorem dX2_count_117 : decode cX2_count 117 = .ok (.getfield 10, 3) := by decide +kernel
theorem dX2_count_120 : decode cX2_count 120 = .ok (.getfield 40, 3) := by decide +kernel
theorem dX2_count_123 : decode cX2_count 123 = .ok (.invokevirtual 118, 3) := by decide +kernel
theorem dX2_count_126 : decode cX2_count 126 = .ok (.ireturn, 1) := by decide +kernel
theorem dX2_count_127 : decode cX2_count 127 = .ok (.aload_n 0, 1) := by decide +kernel
theorem dX2_count_128 : decode cX2_count 128 = .ok (.getfield 10, 3) := by decide +kernel
theorem dX2_count_131 : decode cX2_count 131 = .ok (.getfield 40, 3) := by decide +kernel
theorem dX2_count_134 : decode cX2_count 134 = .ok (.invokevirtual 87, 3) := by decide +kernel
theorem dX2_count_137 : decode cX2_count 137 = .ok (.ireturn, 1) := by decide +kernel
theorem dX2_count_138 : decode cX2_count 138 = .ok (.aload_n 0, 1) := by decide +kernel
theorem dX2_count_139 : decode cX2_count 139 = .ok (.getfield 10, 3) := by decide +kernel
theorem dX2_count_142 : decode cX2_count 142 = .ok (.getfield 40, 3) := by decide +kernel
theorem dX2_count_145 : decode cX2_count 145 = .ok (.iconst 0, 1) := by decide +kernel
theorem dX2_count_146 : decode cX2_count 146 = .ok (.invokevirtual 121, 3) := by decide +kernel
theorem dX2_count_149 : decode cX2_count 149 = .ok (.ireturn, 1) := by decide +kernel
theorem dX2_count_150 : decode cX2_count 150 = .ok (.aload_n 0, 1) := by decide +kernel
theorem dX2_count_151 : decode cX2_count 151 = .ok (.getfield 10, 3) := by decide +kernel
theorem dX2_count_154 : decode cX2_count 154 = .ok (.getfield 40, 3) := by decide +kernel
theorem dX2_count_157 : decode cX2_count 157 = .ok (.iconst 1, 1) := by decide +kernel
theorem dX2_count_158 : decode cX2_count 158 = .ok (.invokevirtual 121, 3) := by decide +kernel
theorem dX2_count_161 : decode cX2_count 161 = .ok (.ireturn, 1) := by decide +kernel
theorem dX2_count_162 : decode cX2_count 162 = .ok (.aload_n 0, 1) := by decide +kernel
theorem dX2_count_163 : decode cX2_count 163 = .ok (.getfield 124, 3) := by decide +kernel
theorem dX2_count_166 : decode cX2_count 166 = .ok (.ireturn, 1) := by decide +kernel
theorem dX2_count_167 : decode cX2_count 167 = .ok (.aload_n 0, 1) := by decide +kernel
theorem dX2_count_168 : decode cX2_count 168 = .ok (.getfield 127, 3) := by decide +kernel
theorem dX2_count_171 : decode cX2_count 171 = .ok (.ireturn, 1) := by decide +kernel
theorem dX2_count_172 : decode cX2_count 172 = .ok (.aload_n 0, 1) := by decide +kernel
theorem dX2_count_173 : decode cX2_count 173 = .ok (.getfield 10, 3) := by decide +kernel
theorem dX2_count_176 : decode cX2_count 176 = .ok (.iload_n 1, 1) := by decide +kernel
theorem dX2_count_177 : decode cX2_count 177 = .ok (.bipush 10, 2) := by decide +kernel
theorem dX2_count_179 : decode cX2_count 179 = .ok (.isub, 1) := by decide +kernel
theorem dX2_count_180 : decode cX2_count 180 = .ok (.invokevirtual 54, 3) := by decide +kernel
theorem dX2_count_183 : decode cX2_count 183 = .ok (.ireturn, 1) := by decide +kernel
theorem dX2_count_184 : decode cX2_count 184 = .ok (.iload_n 1, 1) := by decide +kernel
theorem dX2_count_185 : decode cX2_count 185 = .ok (.bipush 20, 2) := by decide +kernel
theorem dX2_count_187 : decode cX2_count 187 = .ok (.isub, 1) := by decide +kernel
theorem dX2_count_188 : decode cX2_count 188 = .ok (.invokestatic 130, 3) := by decide +kernel
theorem dX2_count_191 : decode cX2_count 191 = .ok (.ifCond .eq 17, 3) := by decide +kernel
theorem dX2_count_194 : decode cX2_count 194 = .ok (.aload_n 0, 1) := by decide +kernel
theorem dX2_count_195 : decode cX2_count 195 = .ok (.getfield 10, 3) := by decide +kernel
theorem dX2_count_198 : decode cX2_count 198 = .ok (.iload_n 1, 1) := by decide +kernel
theorem dX2_count_199 : decode cX2_count 199 = .ok (.bipush 20, 2) := by decide +kernel
theorem dX2_count_201 : decode cX2_count 201 = .ok (.isub, 1) := by decide +kernel
theorem dX2_count_202 : decode cX2_count 202 = .ok (.invokevirtual 133, 3) := by decide +kernel
theorem dX2_count_205 : decode cX2_count 205 = .ok (.goto 4, 3) := by decide +kernel
theorem dX2_count_208 : decode cX2_count 208 = .ok (.iconst (-1), 1) := by decide +kernel
theorem dX2_count_209 : decode cX2_count 209 = .ok (.ireturn, 1) := by decide +kernel
theorem dX2_undo_0 : decode cX2_undo 0 = .ok (.aload_n 0, 1) := by decide +kernel
theorem dX2_undo_1 : decode cX2_undo 1 = .ok (.getfield 124, 3) := by decide +kernel
theorem dX2_undo_4 : decode cX2_undo 4 = .ok (.ifCond .le 15, 3) := by decide +kernel
theorem dX2_undo_7 : decode cX2_undo 7 = .ok (.aload_n 0, 1) := by decide +kernel
theorem dX2_undo_8 : decode cX2_undo 8 = .ok (.getfield 124, 3) := by decide +kernel
theorem dX2_undo_11 : decode cX2_undo 11 = .ok (.aload_n 0, 1) := by decide +kernel
theorem dX2_undo_12 : decode cX2_undo 12 = .ok (.getfield 19, 3) := by decide +kernel
theorem dX2_undo_15 : decode cX2_undo 15 = .ok (.arraylength, 1) := by decide +kernel
theorem dX2_undo_16 : decode cX2_undo 16 = .ok (.if_icmp .le 6, 3) := by decide +kernel
theorem dX2_undo_19 : decode cX2_undo 19 = .ok (.bipush (-2), 2) := by decide +kernel
theorem dX2_undo_21 : decode cX2_undo 21 = .ok (.ireturn, 1) := by decide +kernel
theorem dX2_undo_22 : decode cX2_undo 22 = .ok (.aload_n 0, 1) := by decide +kernel
theorem dX2_undo_23 : decode cX2_undo 23 = .ok (.dup, 1) := by decide +kernel
theorem dX2_undo_24 : decode cX2_undo 24 = .ok (.getfield 124, 3) := by decide +kernel
theorem dX2_undo_27 : decode cX2_undo 27 = .ok (.iconst 1, 1) := by decide +kernel
theorem dX2_undo_28 : decode cX2_undo 28 = .ok (.isub, 1) := by decide +kernel
theorem dX2_undo_29 : decode cX2_undo 29 = .ok (.putfield 124, 3) := by decide +kernel
theorem dX2_undo_32 : decode cX2_undo 32 = .ok (.aload_n 0, 1) := by decide +kernel
theorem dX2_undo_33 : decode cX2_undo 33 = .ok (.getfield 10, 3) := by decide +kernel
theorem dX2_undo_36 : decode cX2_undo 36 = .ok (.aload_n 0, 1) := by decide +kernel
theorem dX2_undo_37 : decode cX2_undo 37 = .ok (.getfield 19, 3) := by decide +kernel
theorem dX2_undo_40 : decode cX2_undo 40 = .ok (.aload_n 0, 1) := by decide +kernel
theorem dX2_undo_41 : decode cX2_undo 41 = .ok (.getfield 124, 3) := by decide +kernel
theorem dX2_undo_44 : decode cX2_undo 44 = .ok (.aaload, 1) := by decide +kernel
theorem dX2_undo_45 : decode cX2_undo 45 = .ok (.invokevirtual 136, 3) := by decide +kernel
theorem dX2_undo_48 : decode cX2_undo 48 = .ok (.aload_n 0, 1) := by decide +kernel
theorem dX2_undo_49 : decode cX2_undo 49 = .ok (.getfield 124, 3) := by decide +kernel
theorem dX2_undo_52 : decode cX2_undo 52 = .ok (.ireturn, 1) := by decide +kernel
theorem dX2_move_0 : decode cX2_move 0 = .ok (.iload_n 1, 1) := by decide +kernel
theorem dX2_move_1 : decode cX2_move 1 = .ok (.invokestatic 70, 3) := by decide +kernel
theorem dX2_move_4 : decode cX2_move 4 = .ok (.ifCond .eq 10, 3) := by decide +kernel
theorem dX2_move_7 : decode cX2_move 7 = .ok (.iload_n 2, 1) := by decide +kernel
theorem dX2_move_8 : decode cX2_move 8 = .ok (.invokestatic 70, 3) := by decide +kernel
theorem dX2_move_11 : decode cX2_move 11 = .ok (.ifCond .ne 5, 3) := by decide +kernel
theorem dX2_move_14 : decode cX2_move 14 = .ok (.iconst (-1), 1) := by decide +kernel
theorem dX2_move_15 : decode cX2_move 15 = .ok (.ireturn, 1) := by decide +kernel
theorem dX2_move_16 : decode cX2_move 16 = .ok (.aload_n 0, 1) := by decide +kernel
theorem dX2_move_17 : decode cX2_move 17 = .ok (.getfield 10, 3) := by decide +kernel
theorem dX2_move_20 : decode cX2_move 20 = .ok (.iload_n 1, 1) := by decide +kernel
theorem dX2_move_21 : decode cX2_move 21 = .ok (.iload_n 2, 1) := by decide +kernel
theorem dX2_move_22 : decode cX2_move 22 = .ok (.invokevirtual 140, 3) := by decide +kernel
theorem dX2_move_25 : decode cX2_move 25 = .ok (.ifCond .eq 6, 3) := by decide +kernel
theorem dX2_move_28 : decode cX2_move 28 = .ok (.bipush (-2), 2) := by decide +kernel
theorem dX2_move_30 : decode cX2_move 30 = .ok (.ireturn, 1) := by decide +kernel
theorem dX2_move_31 : decode cX2_move 31 = .ok (.aload_n 0, 1) := by decide +kernel
theorem dX2_move_32 : decode cX2_move 32 = .ok (.invokevirtual 37, 3) := by decide +kernel
theorem dX2_move_35 : decode cX2_move 35 = .ok (.aload_n 0, 1) := by decide +kernel
theorem dX2_move_36 : decode cX2_move 36 = .ok (.getfield 10, 3) := by decide +kernel
theorem dX2_move_39 : decode cX2_move 39 = .ok (.iload_n 1, 1) := by decide +kernel
theorem dX2_move_40 : decode cX2_move 40 = .ok (.iload_n 2, 1) := by decide +kernel
theorem dX2_move_41 : decode cX2_move 41 = .ok (.invokevirtual 144, 3) := by decide +kernel
theorem dX2_move_44 : decode cX2_move 44 = .ok (.ireturn, 1) := by decide +kernel
theorem dX2_pass_0 : decode cX2_pass 0 = .ok (.aload_n 0, 1) := by decide +kernel
theorem dX2_pass_1 : decode cX2_pass 1 = .ok (.getfield 10, 3) := by decide +kernel
theorem dX2_pass_4 : decode cX2_pass 4 = .ok (.invokevirtual 147, 3) := by decide +kernel
theorem dX2_pass_7 : decode cX2_pass 7 = .ok (.ifCond .eq 6, 3) := by decide +kernel
theorem dX2_pass_10 : decode cX2_pass 10 = .ok (.bipush (-2), 2) := by decide +kernel
theorem dX2_pass_12 : decode cX2_pass 12 = .ok (.ireturn, 1) := by decide +kernel
theorem dX2_pass_13 : decode cX2_pass 13 = .ok (.aload_n 0, 1) := by decide +kernel
theorem dX2_pass_14 : decode cX2_pass 14 = .ok (.invokevirtual 37, 3) := by decide +kernel
theorem dX2_pass_17 : decode cX2_pass 17 = .ok (.aload_n 0, 1) := by decide +kernel
theorem dX2_pass_18 : decode cX2_pass 18 = .ok (.getfield 10, 3) := by decide +kernel
theorem dX2_pass_21 : decode cX2_pass 21 = .ok (.invokevirtual 150, 3) := by decide +kernel
theorem dX2_pass_24 : decode cX2_pass 24 = .ok (.aload_n 0, 1) := by decide +kernel
theorem dX2_pass_25 : decode cX2_pass 25 = .ok (.getfield 10, 3) := by decide +kernel
theorem dX2_pass_28 : decode cX2_pass 28 = .ok (.invokevirtual 73, 3) := by decide +kernel
theorem dX2_pass_31 : decode cX2_pass 31 = .ok (.ifCond .eq 7, 3) := by decide +kernel
theorem dX2_pass_34 : decode cX2_pass 34 = .ok (.iconst 1, 1) := by decide +kernel
theorem dX2_pass_35 : decode cX2_pass 35 = .ok (.goto 4, 3) := by decide +kernel
theorem dX2_pass_38 : decode cX2_pass 38 = .ok (.iconst 0, 1) := by decide +kernel
theorem dX2_pass_39 : decode cX2_pass 39 = .ok (.ireturn, 1) := by decide +kernel
theorem dX2_refusal_0 : decode cX2_refusal 0 = .ok (.iload_n 1, 1) := by decide +kernel
theorem dX2_refusal_1 : decode cX2_refusal 1 = .ok (.invokestatic 70, 3) := by decide +kernel
theorem dX2_refusal_4 : decode cX2_refusal 4 = .ok (.ifCond .eq 10, 3) := by decide +kernel
theorem dX2_refusal_7 : decode cX2_refusal 7 = .ok (.iload_n 2, 1) := by decide +kernel
theorem dX2_refusal_8 : decode cX2_refusal 8 = .ok (.invokestatic 70, 3) := by decide +kernel
theorem dX2_refusal_11 : decode cX2_refusal 11 = .ok (.ifCond .ne 5, 3) := by decide +kernel
theorem dX2_refusal_14 : decode cX2_refusal 14 = .ok (.iconst (-1), 1) := by decide +kernel
theorem dX2_refusal_15 : decode cX2_refusal 15 = .ok (.ireturn, 1) := by decide +kernel
theorem dX2_refusal_16 : decode cX2_refusal 16 = .ok (.aload_n 0, 1) := by decide +kernel
theorem dX2_refusal_17 : decode cX2_refusal 17 = .ok (.getfield 10, 3) := by decide +kernel
theorem dX2_refusal_20 : decode cX2_refusal 20 = .ok (.iload_n 1, 1) := by decide +kernel
theorem dX2_refusal_21 : decode cX2_refusal 21 = .ok (.iload_n 2, 1) := by decide +kernel
theorem dX2_refusal_22 : decode cX2_refusal 22 = .ok (.invokevirtual 140, 3) := by decide +kernel
theorem dX2_refusal_25 : decode cX2_refusal 25 = .ok (.ireturn, 1) := by decide +kernel
theorem dX2_cost_0 : decode cX2_cost 0 = .ok (.iload_n 1, 1) := by decide +kernel
theorem dX2_cost_1 : decode cX2_cost 1 = .ok (.invokestatic 70, 3) := by decide +kernel
theorem dX2_cost_4 : decode cX2_cost 4 = .ok (.ifCond .eq 10, 3) := by decide +kernel
theorem dX2_cost_7 : decode cX2_cost 7 = .ok (.iload_n 2, 1) := by decide +kernel
theorem dX2_cost_8 : decode cX2_cost 8 = .ok (.invokestatic 70, 3) := by decide +kernel
theorem dX2_cost_11 : decode cX2_cost 11 = .ok (.ifCond .ne 5, 3) := by decide +kernel
theorem dX2_cost_14 : decode cX2_cost 14 = .ok (.iconst (-1), 1) := by decide +kernel
theorem dX2_cost_15 : decode cX2_cost 15 = .ok (.ireturn, 1) := by decide +kernel
theorem dX2_cost_16 : decode cX2_cost 16 = .ok (.aload_n 0, 1) := by decide +kernel
theorem dX2_cost_17 : decode cX2_cost 17 = .ok (.getfield 10, 3) := by decide +kernel
theorem dX2_cost_20 : decode cX2_cost 20 = .ok (.getfield 40, 3) := by decide +kernel
theorem dX2_cost_23 : decode cX2_cost 23 = .ok (.iload_n 1, 1) := by decide +kernel
theorem dX2_cost_24 : decode cX2_cost 24 = .ok (.iload_n 2, 1) := by decide +kernel
theorem dX2_cost_25 : decode cX2_cost 25 = .ok (.invokevirtual 153, 3) := by decide +kernel
theorem dX2_cost_28 : decode cX2_cost 28 = .ok (.istore_n 3, 1) := by decide +kernel
theorem dX2_cost_29 : decode cX2_cost 29 = .ok (.iload_n 3, 1) := by decide +kernel
theorem dX2_cost_30 : decode cX2_cost 30 = .ok (.ifCond .ne 8, 3) := by decide +kernel
theorem dX2_cost_33 : decode cX2_cost 33 = .ok (.bipush (-4), 2) := by decide +kernel
theorem dX2_cost_35 : decode cX2_cost 35 = .ok (.goto 4, 3) := by decide +kernel
theorem dX2_cost_38 : decode cX2_cost 38 = .ok (.iload_n 3, 1) := by decide +kernel
theorem dX2_cost_39 : decode cX2_cost 39 = .ok (.ireturn, 1) := by decide +kernel
theorem dX2_moves_0 : decode cX2_moves 0 = .ok (.iload_n 1, 1) := by decide +kernel
theorem dX2_moves_1 : decode cX2_moves 1 = .ok (.invokestatic 62, 3) := by decide +kernel
theorem dX2_moves_4 : decode cX2_moves 4 = .ok (.ifCond .eq 17, 3) := by decide +kernel
theorem dX2_moves_7 : decode cX2_moves 7 = .ok (.aload_n 0, 1) := by decide +kernel
theorem dX2_moves_8 : decode cX2_moves 8 = .ok (.getfield 10, 3) := by decide +kernel
theorem dX2_moves_11 : decode cX2_moves 11 = .ok (.getfield 40, 3) := by decide +kernel
theorem dX2_moves_14 : decode cX2_moves 14 = .ok (.iload_n 1, 1) := by decide +kernel
theorem dX2_moves_15 : decode cX2_moves 15 = .ok (.invokevirtual 156, 3) := by decide +kernel
theorem dX2_moves_18 : decode cX2_moves 18 = .ok (.goto 4, 3) := by decide +kernel
theorem dX2_moves_21 : decode cX2_moves 21 = .ok (.iconst (-1), 1) := by decide +kernel
theorem dX2_moves_22 : decode cX2_moves 22 = .ok (.ireturn, 1) := by decide +kernel
theorem dX2_listed_0 : decode cX2_listed 0 = .ok (.iload_n 1, 1) := by decide +kernel
theorem dX2_listed_1 : decode cX2_listed 1 = .ok (.invokestatic 62, 3) := by decide +kernel
theorem dX2_listed_4 : decode cX2_listed 4 = .ok (.ifCond .eq 7, 3) := by decide +kernel
theorem dX2_listed_7 : decode cX2_listed 7 = .ok (.iload_n 2, 1) := by decide +kernel
theorem dX2_listed_8 : decode cX2_listed 8 = .ok (.ifCond .ge 5, 3) := by decide +kernel
theorem dX2_listed_11 : decode cX2_listed 11 = .ok (.iconst (-1), 1) := by decide +kernel
theorem dX2_listed_12 : decode cX2_listed 12 = .ok (.ireturn, 1) := by decide +kernel
theorem dX2_listed_13 : decode cX2_listed 13 = .ok (.aload_n 0, 1) := by decide +kernel
theorem dX2_listed_14 : decode cX2_listed 14 = .ok (.getfield 10, 3) := by decide +kernel
theorem dX2_listed_17 : decode cX2_listed 17 = .ok (.getfield 40, 3) := by decide +kernel
theorem dX2_listed_20 : decode cX2_listed 20 = .ok (.astore_n 3, 1) := by decide +kernel
theorem dX2_listed_21 : decode cX2_listed 21 = .ok (.iconst 0, 1) := by decide +kernel
theorem dX2_listed_22 : decode cX2_listed 22 = .ok (.istore 4, 2) := by decide +kernel
theorem dX2_listed_24 : decode cX2_listed 24 = .ok (.iconst 0, 1) := by decide +kernel
theorem dX2_listed_25 : decode cX2_listed 25 = .ok (.istore 5, 2) := by decide +kernel
theorem dX2_listed_27 : decode cX2_listed 27 = .ok (.iload 5, 2) := by decide +kernel
theorem dX2_listed_29 : decode cX2_listed 29 = .ok (.bipush 36, 2) := by decide +kernel
theorem dX2_listed_31 : decode cX2_listed 31 = .ok (.if_icmp .ge 64, 3) := by decide +kernel
theorem dX2_listed_34 : decode cX2_listed 34 = .ok (.iconst 0, 1) := by decide +kernel
theorem dX2_listed_35 : decode cX2_listed 35 = .ok (.istore 6, 2) := by decide +kernel
theorem dX2_listed_37 : decode cX2_listed 37 = .ok (.aload_n 3, 1) := by decide +kernel
theorem dX2_listed_38 : decode cX2_listed 38 = .ok (.iload 5, 2) := by decide +kernel
theorem dX2_listed_40 : decode cX2_listed 40 = .ok (.invokevirtual 94, 3) := by decide +kernel
theorem dX2_listed_43 : decode cX2_listed 43 = .ok (.iload_n 1, 1) := by decide +kernel
theorem dX2_listed_44 : decode cX2_listed 44 = .ok (.if_icmp .ne 45, 3) := by decide +kernel
theorem dX2_listed_47 : decode cX2_listed 47 = .ok (.iload 6, 2) := by decide +kernel
theorem dX2_listed_49 : decode cX2_listed 49 = .ok (.bipush 36, 2) := by decide +kernel
theorem dX2_listed_51 : decode cX2_listed 51 = .ok (.if_icmp .ge 38, 3) := by decide +kernel
theorem dX2_listed_54 : decode cX2_listed 54 = .ok (.aload_n 3, 1) := by decide +kernel
theorem dX2_listed_55 : decode cX2_listed 55 = .ok (.iload 5, 2) := by decide +kernel
theorem dX2_listed_57 : decode cX2_listed 57 = .ok (.iload 6, 2) := by decide +kernel
theorem dX2_listed_59 : decode cX2_listed 59 = .ok (.invokevirtual 159, 3) := by decide +kernel
theorem dX2_listed_62 : decode cX2_listed 62 = .ok (.ifCond .eq 21, 3) := by decide +kernel
theorem dX2_listed_65 : decode cX2_listed 65 = .ok (.iload 4, 2) := by decide +kernel
theorem dX2_listed_67 : decode cX2_listed 67 = .ok (.iload_n 2, 1) := by decide +kernel
theorem dX2_listed_68 : decode cX2_listed 68 = .ok (.if_icmp .ne 12, 3) := by decide +kernel
theorem dX2_listed_71 : decode cX2_listed 71 = .ok (.bipush 36, 2) := by decide +kernel
theorem dX2_listed_73 : decode cX2_listed 73 = .ok (.iload 5, 2) := by decide +kernel
theorem dX2_listed_75 : decode cX2_listed 75 = .ok (.imul, 1) := by decide +kernel
theorem dX2_listed_76 : decode cX2_listed 76 = .ok (.iload 6, 2) := by decide +kernel
theorem dX2_listed_78 : decode cX2_listed 78 = .ok (.iadd, 1) := by decide +kernel
theorem dX2_listed_79 : decode cX2_listed 79 = .ok (.ireturn, 1) := by decide +kernel
theorem dX2_listed_80 : decode cX2_listed 80 = .ok (.iinc 4 1, 3) := by decide +kernel
theorem dX2_listed_83 : decode cX2_listed 83 = .ok (.iinc 6 1, 3) := by decide +kernel
theorem dX2_listed_86 : decode cX2_listed 86 = .ok (.goto (-49), 3) := by decide +kernel
theorem dX2_listed_89 : decode cX2_listed 89 = .ok (.iinc 5 1, 3) := by decide +kernel
theorem dX2_listed_92 : decode cX2_listed 92 = .ok (.goto (-65), 3) := by decide +kernel
theorem dX2_listed_95 : decode cX2_listed 95 = .ok (.bipush (-4), 2) := by decide +kernel
theorem dX2_listed_97 : decode cX2_listed 97 = .ok (.ireturn, 1) := by decide +kernel
theorem dX2_struck_0 : decode cX2_struck 0 = .ok (.iload_n 1, 1) := by decide +kernel
theorem dX2_struck_1 : decode cX2_struck 1 = .ok (.invokestatic 70, 3) := by decide +kernel
theorem dX2_struck_4 : decode cX2_struck 4 = .ok (.ifCond .eq 10, 3) := by decide +kernel
theorem dX2_struck_7 : decode cX2_struck 7 = .ok (.iload_n 2, 1) := by decide +kernel
theorem dX2_struck_8 : decode cX2_struck 8 = .ok (.invokestatic 62, 3) := by decide +kernel
theorem dX2_struck_11 : decode cX2_struck 11 = .ok (.ifCond .ne 5, 3) := by decide +kernel
theorem dX2_struck_14 : decode cX2_struck 14 = .ok (.iconst (-1), 1) := by decide +kernel
theorem dX2_struck_15 : decode cX2_struck 15 = .ok (.ireturn, 1) := by decide +kernel
theorem dX2_struck_16 : decode cX2_struck 16 = .ok (.aload_n 0, 1) := by decide +kernel
theorem dX2_struck_17 : decode cX2_struck 17 = .ok (.getfield 16, 3) := by decide +kernel
theorem dX2_struck_20 : decode cX2_struck 20 = .ok (.getfield 40, 3) := by decide +kernel
theorem dX2_struck_23 : decode cX2_struck 23 = .ok (.astore_n 3, 1) := by decide +kernel
theorem dX2_struck_24 : decode cX2_struck 24 = .ok (.aload_n 3, 1) := by decide +kernel
theorem dX2_struck_25 : decode cX2_struck 25 = .ok (.aload_n 0, 1) := by decide +kernel
theorem dX2_struck_26 : decode cX2_struck 26 = .ok (.getfield 10, 3) := by decide +kernel
theorem dX2_struck_29 : decode cX2_struck 29 = .ok (.getfield 40, 3) := by decide +kernel
theorem dX2_struck_32 : decode cX2_struck 32 = .ok (.invokevirtual 162, 3) := by decide +kernel
theorem dX2_struck_35 : decode cX2_struck 35 = .ok (.aload_n 3, 1) := by decide +kernel
theorem dX2_struck_36 : decode cX2_struck 36 = .ok (.iload_n 1, 1) := by decide +kernel
theorem dX2_struck_37 : decode cX2_struck 37 = .ok (.iconst 1, 1) := by decide +kernel
theorem dX2_struck_38 : decode cX2_struck 38 = .ok (.iload_n 2, 1) := by decide +kernel
theorem dX2_struck_39 : decode cX2_struck 39 = .ok (.isub, 1) := by decide +kernel
theorem dX2_struck_40 : decode cX2_struck 40 = .ok (.iconst 4, 1) := by decide +kernel
theorem dX2_struck_41 : decode cX2_struck 41 = .ok (.iconst 0, 1) := by decide +kernel
theorem dX2_struck_42 : decode cX2_struck 42 = .ok (.invokevirtual 165, 3) := by decide +kernel
theorem dX2_struck_45 : decode cX2_struck 45 = .ok (.iconst 0, 1) := by decide +kernel
theorem dX2_struck_46 : decode cX2_struck 46 = .ok (.istore 4, 2) := by decide +kernel
theorem dX2_struck_48 : decode cX2_struck 48 = .ok (.iconst 0, 1) := by decide +kernel
theorem dX2_struck_49 : decode cX2_struck 49 = .ok (.istore 5, 2) := by decide +kernel
theorem dX2_struck_51 : decode cX2_struck 51 = .ok (.iload 5, 2) := by decide +kernel
theorem dX2_struck_53 : decode cX2_struck 53 = .ok (.bipush 36, 2) := by decide +kernel
theorem dX2_struck_55 : decode cX2_struck 55 = .ok (.if_icmp .ge 32, 3) := by decide +kernel
theorem dX2_struck_58 : decode cX2_struck 58 = .ok (.aload_n 3, 1) := by decide +kernel
theorem dX2_struck_59 : decode cX2_struck 59 = .ok (.iload 5, 2) := by decide +kernel
theorem dX2_struck_61 : decode cX2_struck 61 = .ok (.invokevirtual 94, 3) := by decide +kernel
theorem dX2_struck_64 : decode cX2_struck 64 = .ok (.iload_n 2, 1) := by decide +kernel
theorem dX2_struck_65 : decode cX2_struck 65 = .ok (.if_icmp .ne 16, 3) := by decide +kernel
theorem dX2_struck_68 : decode cX2_struck 68 = .ok (.aload_n 3, 1) := by decide +kernel
theorem dX2_struck_69 : decode cX2_struck 69 = .ok (.iload 5, 2) := by decide +kernel
theorem dX2_struck_71 : decode cX2_struck 71 = .ok (.iload_n 1, 1) := by decide +kernel
theorem dX2_struck_72 : decode cX2_struck 72 = .ok (.invokevirtual 159, 3) := by decide +kernel
theorem dX2_struck_75 : decode cX2_struck 75 = .ok (.ifCond .eq 6, 3) := by decide +kernel
theorem dX2_struck_78 : decode cX2_struck 78 = .ok (.iinc 4 1, 3) := by decide +kernel
theorem dX2_struck_81 : decode cX2_struck 81 = .ok (.iinc 5 1, 3) := by decide +kernel
theorem dX2_struck_84 : decode cX2_struck 84 = .ok (.goto (-33), 3) := by decide +kernel
theorem dX2_struck_87 : decode cX2_struck 87 = .ok (.iload 4, 2) := by decide +kernel
theorem dX2_struck_89 : decode cX2_struck 89 = .ok (.ireturn, 1) := by decide +kernel
theorem dX2_reach_0 : decode cX2_reach 0 = .ok (.iload_n 1, 1) := by decide +kernel
theorem dX2_reach_1 : decode cX2_reach 1 = .ok (.invokestatic 70, 3) := by decide +kernel
theorem dX2_reach_4 : decode cX2_reach 4 = .ok (.ifCond .eq 13, 3) := by decide +kernel
theorem dX2_reach_7 : decode cX2_reach 7 = .ok (.iload_n 2, 1) := by decide +kernel
theorem dX2_reach_8 : decode cX2_reach 8 = .ok (.ifCond .lt 9, 3) := by decide +kernel
theorem dX2_reach_11 : decode cX2_reach 11 = .ok (.iload_n 2, 1) := by decide +kernel
theorem dX2_reach_12 : decode cX2_reach 12 = .ok (.bipush 12, 2) := by decide +kernel
theorem dX2_reach_14 : decode cX2_reach 14 = .ok (.if_icmp .le 5, 3) := by decide +kernel
theorem dX2_reach_17 : decode cX2_reach 17 = .ok (.iconst (-1), 1) := by decide +kernel
theorem dX2_reach_18 : decode cX2_reach 18 = .ok (.ireturn, 1) := by decide +kernel
theorem dX2_reach_19 : decode cX2_reach 19 = .ok (.aload_n 0, 1) := by decide +kernel
theorem dX2_reach_20 : decode cX2_reach 20 = .ok (.getfield 10, 3) := by decide +kernel
theorem dX2_reach_23 : decode cX2_reach 23 = .ok (.getfield 40, 3) := by decide +kernel
theorem dX2_reach_26 : decode cX2_reach 26 = .ok (.iload_n 1, 1) := by decide +kernel
theorem dX2_reach_27 : decode cX2_reach 27 = .ok (.invokevirtual 77, 3) := by decide +kernel
theorem dX2_reach_30 : decode cX2_reach 30 = .ok (.ifCond .ne 6, 3) := by decide +kernel
theorem dX2_reach_33 : decode cX2_reach 33 = .ok (.bipush (-4), 2) := by decide +kernel
theorem dX2_reach_35 : decode cX2_reach 35 = .ok (.ireturn, 1) := by decide +kernel
theorem dX2_reach_36 : decode cX2_reach 36 = .ok (.aload_n 0, 1) := by decide +kernel
theorem dX2_reach_37 : decode cX2_reach 37 = .ok (.getfield 10, 3) := by decide +kernel
theorem dX2_reach_40 : decode cX2_reach 40 = .ok (.getfield 40, 3) := by decide +kernel
theorem dX2_reach_43 : decode cX2_reach 43 = .ok (.iload_n 1, 1) := by decide +kernel
theorem dX2_reach_44 : decode cX2_reach 44 = .ok (.invokevirtual 94, 3) := by decide +kernel
theorem dX2_reach_47 : decode cX2_reach 47 = .ok (.istore_n 3, 1) := by decide +kernel
theorem dX2_reach_48 : decode cX2_reach 48 = .ok (.aload_n 0, 1) := by decide +kernel
theorem dX2_reach_49 : decode cX2_reach 49 = .ok (.getfield 10, 3) := by decide +kernel
theorem dX2_reach_52 : decode cX2_reach 52 = .ok (.getfield 40, 3) := by decide +kernel
theorem dX2_reach_55 : decode cX2_reach 55 = .ok (.iload_n 1, 1) := by decide +kernel
theorem dX2_reach_56 : decode cX2_reach 56 = .ok (.invokevirtual 97, 3) := by decide +kernel
theorem dX2_reach_59 : decode cX2_reach 59 = .ok (.istore 4, 2) := by decide +kernel
theorem dX2_reach_61 : decode cX2_reach 61 = .ok (.aload_n 0, 1) := by decide +kernel
theorem dX2_reach_62 : decode cX2_reach 62 = .ok (.getfield 16, 3) := by decide +kernel
theorem dX2_reach_65 : decode cX2_reach 65 = .ok (.getfield 40, 3) := by decide +kernel
theorem dX2_reach_68 : decode cX2_reach 68 = .ok (.aload_n 0, 1) := by decide +kernel
theorem dX2_reach_69 : decode cX2_reach 69 = .ok (.getfield 10, 3) := by decide +kernel
theorem dX2_reach_72 : decode cX2_reach 72 = .ok (.getfield 40, 3) := by decide +kernel
theorem dX2_reach_75 : decode cX2_reach 75 = .ok (.invokevirtual 162, 3) := by decide +kernel
theorem dX2_reach_78 : decode cX2_reach 78 = .ok (.aload_n 0, 1) := by decide +kernel
theorem dX2_reach_79 : decode cX2_reach 79 = .ok (.getfield 16, 3) := by decide +kernel
theorem dX2_reach_82 : decode cX2_reach 82 = .ok (.getfield 40, 3) := by decide +kernel
theorem dX2_reach_85 : decode cX2_reach 85 = .ok (.iload_n 1, 1) := by decide +kernel
theorem dX2_reach_86 : decode cX2_reach 86 = .ok (.invokevirtual 168, 3) := by decide +kernel
theorem dX2_reach_89 : decode cX2_reach 89 = .ok (.iconst 0, 1) := by decide +kernel
theorem dX2_reach_90 : decode cX2_reach 90 = .ok (.istore 5, 2) := by decide +kernel
theorem dX2_reach_92 : decode cX2_reach 92 = .ok (.iload 5, 2) := by decide +kernel
theorem dX2_reach_94 : decode cX2_reach 94 = .ok (.bipush 36, 2) := by decide +kernel
theorem dX2_reach_96 : decode cX2_reach 96 = .ok (.if_icmp .ge 37, 3) := by decide +kernel
theorem dX2_reach_99 : decode cX2_reach 99 = .ok (.aload_n 0, 1) := by decide +kernel
theorem dX2_reach_100 : decode cX2_reach 100 = .ok (.getfield 27, 3) := by decide +kernel
theorem dX2_reach_103 : decode cX2_reach 103 = .ok (.iload 5, 2) := by decide +kernel
theorem dX2_reach_105 : decode cX2_reach 105 = .ok (.iload 5, 2) := by decide +kernel
theorem dX2_reach_107 : decode cX2_reach 107 = .ok (.iload_n 1, 1) := by decide +kernel
theorem dX2_reach_108 : decode cX2_reach 108 = .ok (.if_icmp .ne 17, 3) := by decide +kernel
theorem dX2_reach_111 : decode cX2_reach 111 = .ok (.aload_n 0, 1) := by decide +kernel
theorem dX2_reach_112 : decode cX2_reach 112 = .ok (.getfield 10, 3) := by decide +kernel
theorem dX2_reach_115 : decode cX2_reach 115 = .ok (.getfield 40, 3) := by decide +kernel
theorem dX2_reach_118 : decode cX2_reach 118 = .ok (.iload_n 1, 1) := by decide +kernel
theorem dX2_reach_119 : decode cX2_reach 119 = .ok (.invokevirtual 100, 3) := by decide +kernel
theorem dX2_reach_122 : decode cX2_reach 122 = .ok (.goto 4, 3) := by decide +kernel
theorem dX2_reach_125 : decode cX2_reach 125 = .ok (.iconst (-1), 1) := by decide +kernel
theorem dX2_reach_126 : decode cX2_reach 126 = .ok (.iastore, 1) := by decide +kernel
theorem dX2_reach_127 : decode cX2_reach 127 = .ok (.iinc 5 1, 3) := by decide +kernel
theorem dX2_reach_130 : decode cX2_reach 130 = .ok (.goto (-38), 3) := by decide +kernel
theorem dX2_reach_133 : decode cX2_reach 133 = .ok (.iconst 0, 1) := by decide +kernel
theorem dX2_reach_134 : decode cX2_reach 134 = .ok (.istore 5, 2) := by decide +kernel
theorem dX2_reach_136 : decode cX2_reach 136 = .ok (.iload 5, 2) := by decide +kernel
theorem dX2_reach_138 : decode cX2_reach 138 = .ok (.iload_n 2, 1) := by decide +kernel
theorem dX2_reach_139 : decode cX2_reach 139 = .ok (.if_icmp .ge 16, 3) := by decide +kernel
theorem dX2_reach_142 : decode cX2_reach 142 = .ok (.aload_n 0, 1) := by decide +kernel
theorem dX2_reach_143 : decode cX2_reach 143 = .ok (.iload_n 3, 1) := by decide +kernel
theorem dX2_reach_144 : decode cX2_reach 144 = .ok (.iload 4, 2) := by decide +kernel
theorem dX2_reach_146 : decode cX2_reach 146 = .ok (.invokevirtual 172, 3) := by decide +kernel
theorem dX2_reach_149 : decode cX2_reach 149 = .ok (.iinc 5 1, 3) := by decide +kernel
theorem dX2_reach_152 : decode cX2_reach 152 = .ok (.goto (-16), 3) := by decide +kernel
theorem dX2_reach_155 : decode cX2_reach 155 = .ok (.aload_n 0, 1) := by decide +kernel
theorem dX2_reach_156 : decode cX2_reach 156 = .ok (.invokevirtual 175, 3) := by decide +kernel
theorem dX2_reach_159 : decode cX2_reach 159 = .ok (.ireturn, 1) := by decide +kernel
theorem dX2_replies_0 : decode cX2_replies 0 = .ok (.iconst 0, 1) := by decide +kernel
theorem dX2_replies_1 : decode cX2_replies 1 = .ok (.istore_n 1, 1) := by decide +kernel
theorem dX2_replies_2 : decode cX2_replies 2 = .ok (.iconst 0, 1) := by decide +kernel
theorem dX2_replies_3 : decode cX2_replies 3 = .ok (.istore_n 2, 1) := by decide +kernel
theorem dX2_replies_4 : decode cX2_replies 4 = .ok (.iload_n 2, 1) := by decide +kernel
theorem dX2_replies_5 : decode cX2_replies 5 = .ok (.bipush 36, 2) := by decide +kernel
theorem dX2_replies_7 : decode cX2_replies 7 = .ok (.if_icmp .ge 44, 3) := by decide +kernel
theorem dX2_replies_10 : decode cX2_replies 10 = .ok (.iconst 0, 1) := by decide +kernel
theorem dX2_replies_11 : decode cX2_replies 11 = .ok (.istore_n 3, 1) := by decide +kernel
theorem dX2_replies_12 : decode cX2_replies 12 = .ok (.iload_n 3, 1) := by decide +kernel
theorem dX2_replies_13 : decode cX2_replies 13 = .ok (.bipush 36, 2) := by decide +kernel
theorem dX2_replies_15 : decode cX2_replies 15 = .ok (.if_icmp .ge 30, 3) := by decide +kernel
theorem dX2_replies_18 : decode cX2_replies 18 = .ok (.aload_n 0, 1) := by decide +kernel
theorem dX2_replies_19 : decode cX2_replies 19 = .ok (.getfield 10, 3) := by decide +kernel
theorem dX2_replies_22 : decode cX2_replies 22 = .ok (.iload_n 2, 1) := by decide +kernel
theorem dX2_replies_23 : decode cX2_replies 23 = .ok (.iload_n 3, 1) := by decide +kernel
theorem dX2_replies_24 : decode cX2_replies 24 = .ok (.invokevirtual 140, 3) := by decide +kernel
theorem dX2_replies_27 : decode cX2_replies 27 = .ok (.ifCond .ne 12, 3) := by decide +kernel
theorem dX2_replies_30 : decode cX2_replies 30 = .ok (.iload_n 1, 1) := by decide +kernel
theorem dX2_replies_31 : decode cX2_replies 31 = .ok (.aload_n 0, 1) := by decide +kernel
theorem dX2_replies_32 : decode cX2_replies 32 = .ok (.iload_n 2, 1) := by decide +kernel
theorem dX2_replies_33 : decode cX2_replies 33 = .ok (.iload_n 3, 1) := by decide +kernel
theorem dX2_replies_34 : decode cX2_replies 34 = .ok (.invokevirtual 178, 3) := by decide +kernel
theorem dX2_replies_37 : decode cX2_replies 37 = .ok (.iadd, 1) := by decide +kernel
theorem dX2_replies_38 : decode cX2_replies 38 = .ok (.istore_n 1, 1) := by decide +kernel
theorem dX2_replies_39 : decode cX2_replies 39 = .ok (.iinc 3 1, 3) := by decide +kernel
theorem dX2_replies_42 : decode cX2_replies 42 = .ok (.goto (-30), 3) := by decide +kernel
theorem dX2_replies_45 : decode cX2_replies 45 = .ok (.iinc 2 1, 3) := by decide +kernel
theorem dX2_replies_48 : decode cX2_replies 48 = .ok (.goto (-44), 3) := by decide +kernel
theorem dX2_replies_51 : decode cX2_replies 51 = .ok (.iload_n 1, 1) := by decide +kernel
theorem dX2_replies_52 : decode cX2_replies 52 = .ok (.ireturn, 1) := by decide +kernel
theorem dX2_best_0 : decode cX2_best 0 = .ok (.bipush (-4), 2) := by decide +kernel
theorem dX2_best_2 : decode cX2_best 2 = .ok (.istore_n 1, 1) := by decide +kernel
theorem dX2_best_3 : decode cX2_best 3 = .ok (.iconst 0, 1) := by decide +kernel
theorem dX2_best_4 : decode cX2_best 4 = .ok (.istore_n 2, 1) := by decide +kernel
theorem dX2_best_5 : decode cX2_best 5 = .ok (.iconst 0, 1) := by decide +kernel
theorem dX2_best_6 : decode cX2_best 6 = .ok (.istore_n 3, 1) := by decide +kernel
theorem dX2_best_7 : decode cX2_best 7 = .ok (.iload_n 3, 1) := by decide +kernel
theorem dX2_best_8 : decode cX2_best 8 = .ok (.bipush 36, 2) := by decide +kernel
theorem dX2_best_10 : decode cX2_best 10 = .ok (.if_icmp .ge 70, 3) := by decide +kernel
theorem dX2_best_13 : decode cX2_best 13 = .ok (.iconst 0, 1) := by decide +kernel
theorem dX2_best_14 : decode cX2_best 14 = .ok (.istore 4, 2) := by decide +kernel
theorem dX2_best_16 : decode cX2_best 16 = .ok (.iload 4, 2) := by decide +kernel
theorem dX2_best_18 : decode cX2_best 18 = .ok (.bipush 36, 2) := by decide +kernel
theorem dX2_best_20 : decode cX2_best 20 = .ok (.if_icmp .ge 54, 3) := by decide +kernel
theorem dX2_best_23 : decode cX2_best 23 = .ok (.aload_n 0, 1) := by decide +kernel
theorem dX2_best_24 : decode cX2_best 24 = .ok (.getfield 10, 3) := by decide +kernel
theorem dX2_best_27 : decode cX2_best 27 = .ok (.iload_n 3, 1) := by decide +kernel
theorem dX2_best_28 : decode cX2_best 28 = .ok (.iload 4, 2) := by decide +kernel
theorem dX2_best_30 : decode cX2_best 30 = .ok (.invokevirtual 140, 3) := by decide +kernel
theorem dX2_best_33 : decode cX2_best 33 = .ok (.ifCond .ne 35, 3) := by decide +kernel
theorem dX2_best_36 : decode cX2_best 36 = .ok (.aload_n 0, 1) := by decide +kernel
theorem dX2_best_37 : decode cX2_best 37 = .ok (.iload_n 3, 1) := by decide +kernel
theorem dX2_best_38 : decode cX2_best 38 = .ok (.iload 4, 2) := by decide +kernel
theorem dX2_best_40 : decode cX2_best 40 = .ok (.invokevirtual 181, 3) := by decide +kernel
theorem dX2_best_43 : decode cX2_best 43 = .ok (.istore 5, 2) := by decide +kernel
theorem dX2_best_45 : decode cX2_best 45 = .ok (.iload_n 1, 1) := by decide +kernel
theorem dX2_best_46 : decode cX2_best 46 = .ok (.bipush (-4), 2) := by decide +kernel
theorem dX2_best_48 : decode cX2_best 48 = .ok (.if_icmp .eq 9, 3) := by decide +kernel
theorem dX2_best_51 : decode cX2_best 51 = .ok (.iload 5, 2) := by decide +kernel
theorem dX2_best_53 : decode cX2_best 53 = .ok (.iload_n 2, 1) := by decide +kernel
theorem dX2_best_54 : decode cX2_best 54 = .ok (.if_icmp .le 14, 3) := by decide +kernel
theorem dX2_best_57 : decode cX2_best 57 = .ok (.bipush 36, 2) := by decide +kernel
theorem dX2_best_59 : decode cX2_best 59 = .ok (.iload_n 3, 1) := by decide +kernel
theorem dX2_best_60 : decode cX2_best 60 = .ok (.imul, 1) := by decide +kernel
theorem dX2_best_61 : decode cX2_best 61 = .ok (.iload 4, 2) := by decide +kernel
theorem dX2_best_63 : decode cX2_best 63 = .ok (.iadd, 1) := by decide +kernel
theorem dX2_best_64 : decode cX2_best 64 = .ok (.istore_n 1, 1) := by decide +kernel
theorem dX2_best_65 : decode cX2_best 65 = .ok (.iload 5, 2) := by decide +kernel
theorem dX2_best_67 : decode cX2_best 67 = .ok (.istore_n 2, 1) := by decide +kernel
theorem dX2_best_68 : decode cX2_best 68 = .ok (.iinc 4 1, 3) := by decide +kernel
theorem dX2_best_71 : decode cX2_best 71 = .ok (.goto (-55), 3) := by decide +kernel
theorem dX2_best_74 : decode cX2_best 74 = .ok (.iinc 3 1, 3) := by decide +kernel
theorem dX2_best_77 : decode cX2_best 77 = .ok (.goto (-70), 3) := by decide +kernel
theorem dX2_best_80 : decode cX2_best 80 = .ok (.iload_n 1, 1) := by decide +kernel
theorem dX2_best_81 : decode cX2_best 81 = .ok (.ireturn, 1) := by decide +kernel
theorem dX2_type_0 : decode cX2_type 0 = .ok (.iload_n 1, 1) := by decide +kernel
theorem dX2_type_1 : decode cX2_type 1 = .ok (.bipush 32, 2) := by decide +kernel
theorem dX2_type_3 : decode cX2_type 3 = .ok (.if_icmp .lt 9, 3) := by decide +kernel
theorem dX2_type_6 : decode cX2_type 6 = .ok (.iload_n 1, 1) := by decide +kernel
theorem dX2_type_7 : decode cX2_type 7 = .ok (.bipush 126, 2) := by decide +kernel
theorem dX2_type_9 : decode cX2_type 9 = .ok (.if_icmp .le 5, 3) := by decide +kernel
theorem dX2_type_12 : decode cX2_type 12 = .ok (.iconst (-1), 1) := by decide +kernel
theorem dX2_type_13 : decode cX2_type 13 = .ok (.ireturn, 1) := by decide +kernel
theorem dX2_type_14 : decode cX2_type 14 = .ok (.aload_n 0, 1) := by decide +kernel
theorem dX2_type_15 : decode cX2_type 15 = .ok (.getfield 127, 3) := by decide +kernel
theorem dX2_type_18 : decode cX2_type 18 = .ok (.ifCond .lt 15, 3) := by decide +kernel
theorem dX2_type_21 : decode cX2_type 21 = .ok (.aload_n 0, 1) := by decide +kernel
theorem dX2_type_22 : decode cX2_type 22 = .ok (.getfield 127, 3) := by decide +kernel
theorem dX2_type_25 : decode cX2_type 25 = .ok (.aload_n 0, 1) := by decide +kernel
theorem dX2_type_26 : decode cX2_type 26 = .ok (.getfield 23, 3) := by decide +kernel
theorem dX2_type_29 : decode cX2_type 29 = .ok (.arraylength, 1) := by decide +kernel
theorem dX2_type_30 : decode cX2_type 30 = .ok (.if_icmp .lt 6, 3) := by decide +kernel
theorem dX2_type_33 : decode cX2_type 33 = .ok (.bipush (-3), 2) := by decide +kernel
theorem dX2_type_35 : decode cX2_type 35 = .ok (.ireturn, 1) := by decide +kernel
theorem dX2_type_36 : decode cX2_type 36 = .ok (.aload_n 0, 1) := by decide +kernel
theorem dX2_type_37 : decode cX2_type 37 = .ok (.getfield 23, 3) := by decide +kernel
theorem dX2_type_40 : decode cX2_type 40 = .ok (.aload_n 0, 1) := by decide +kernel
theorem dX2_type_41 : decode cX2_type 41 = .ok (.getfield 127, 3) := by decide +kernel
theorem dX2_type_44 : decode cX2_type 44 = .ok (.iload_n 1, 1) := by decide +kernel
theorem dX2_type_45 : decode cX2_type 45 = .ok (.i2c, 1) := by decide +kernel
theorem dX2_type_46 : decode cX2_type 46 = .ok (.castore, 1) := by decide +kernel
theorem dX2_type_47 : decode cX2_type 47 = .ok (.aload_n 0, 1) := by decide +kernel
theorem dX2_type_48 : decode cX2_type 48 = .ok (.dup, 1) := by decide +kernel
theorem dX2_type_49 : decode cX2_type 49 = .ok (.getfield 127, 3) := by decide +kernel
theorem dX2_type_52 : decode cX2_type 52 = .ok (.iconst 1, 1) := by decide +kernel
theorem dX2_type_53 : decode cX2_type 53 = .ok (.iadd, 1) := by decide +kernel
theorem dX2_type_54 : decode cX2_type 54 = .ok (.putfield 127, 3) := by decide +kernel
theorem dX2_type_57 : decode cX2_type 57 = .ok (.aload_n 0, 1) := by decide +kernel
theorem dX2_type_58 : decode cX2_type 58 = .ok (.getfield 127, 3) := by decide +kernel
theorem dX2_type_61 : decode cX2_type 61 = .ok (.ireturn, 1) := by decide +kernel
theorem dX2_clearText_0 : decode cX2_clearText 0 = .ok (.aload_n 0, 1) := by decide +kernel
theorem dX2_clearText_1 : decode cX2_clearText 1 = .ok (.getfield 127, 3) := by decide +kernel
theorem dX2_clearText_4 : decode cX2_clearText 4 = .ok (.istore_n 1, 1) := by decide +kernel
theorem dX2_clearText_5 : decode cX2_clearText 5 = .ok (.aload_n 0, 1) := by decide +kernel
theorem dX2_clearText_6 : decode cX2_clearText 6 = .ok (.iconst 0, 1) := by decide +kernel
theorem dX2_clearText_7 : decode cX2_clearText 7 = .ok (.putfield 127, 3) := by decide +kernel
theorem dX2_clearText_10 : decode cX2_clearText 10 = .ok (.iload_n 1, 1) := by decide +kernel
theorem dX2_clearText_11 : decode cX2_clearText 11 = .ok (.ireturn, 1) := by decide +kernel
theorem dX2_fault_0 : decode cX2_fault 0 = .ok (.iload_n 1, 1) := by decide +kernel
theorem dX2_fault_1 : decode cX2_fault 1 = .ok (.ifCond .eq 10, 3) := by decide +kernel
theorem dX2_fault_4 : decode cX2_fault 4 = .ok (.iload_n 1, 1) := by decide +kernel
theorem dX2_fault_5 : decode cX2_fault 5 = .ok (.iconst 1, 1) := by decide +kernel
theorem dX2_fault_6 : decode cX2_fault 6 = .ok (.if_icmp .eq 5, 3) := by decide +kernel
theorem dX2_fault_9 : decode cX2_fault 9 = .ok (.iconst (-1), 1) := by decide +kernel
theorem dX2_fault_10 : decode cX2_fault 10 = .ok (.ireturn, 1) := by decide +kernel
theorem dX2_fault_11 : decode cX2_fault 11 = .ok (.aload_n 0, 1) := by decide +kernel
theorem dX2_fault_12 : decode cX2_fault 12 = .ok (.invokevirtual 184, 3) := by decide +kernel
theorem dX2_fault_15 : decode cX2_fault 15 = .ok (.istore_n 2, 1) := by decide +kernel
theorem dX2_fault_16 : decode cX2_fault 16 = .ok (.iload_n 2, 1) := by decide +kernel
theorem dX2_fault_17 : decode cX2_fault 17 = .ok (.iconst (-1), 1) := by decide +kernel
theorem dX2_fault_18 : decode cX2_fault 18 = .ok (.if_icmp .ne 6, 3) := by decide +kernel
theorem dX2_fault_21 : decode cX2_fault 21 = .ok (.bipush (-4), 2) := by decide +kernel
theorem dX2_fault_23 : decode cX2_fault 23 = .ok (.ireturn, 1) := by decide +kernel
theorem dX2_fault_24 : decode cX2_fault 24 = .ok (.iload_n 1, 1) := by decide +kernel
theorem dX2_fault_25 : decode cX2_fault 25 = .ok (.ifCond .ne 10, 3) := by decide +kernel
theorem dX2_fault_28 : decode cX2_fault 28 = .ok (.iload_n 2, 1) := by decide +kernel
theorem dX2_fault_29 : decode cX2_fault 29 = .ok (.bipush 16, 2) := by decide +kernel
theorem dX2_fault_31 : decode cX2_fault 31 = .ok (.idiv, 1) := by decide +kernel
theorem dX2_fault_32 : decode cX2_fault 32 = .ok (.goto 7, 3) := by decide +kernel
theorem dX2_fault_35 : decode cX2_fault 35 = .ok (.iload_n 2, 1) := by decide +kernel
theorem dX2_fault_36 : decode cX2_fault 36 = .ok (.bipush 16, 2) := by decide +kernel
theorem dX2_fault_38 : decode cX2_fault 38 = .ok (.irem, 1) := by decide +kernel
theorem dX2_fault_39 : decode cX2_fault 39 = .ok (.ireturn, 1) := by decide +kernel
theorem dX2_play_0 : decode cX2_play 0 = .ok (.aload_n 0, 1) := by decide +kernel
theorem dX2_play_1 : decode cX2_play 1 = .ok (.invokevirtual 184, 3) := by decide +kernel
theorem dX2_play_4 : decode cX2_play 4 = .ok (.iconst (-1), 1) := by decide +kernel
theorem dX2_play_5 : decode cX2_play 5 = .ok (.if_icmp .eq 6, 3) := by decide +kernel
theorem dX2_play_8 : decode cX2_play 8 = .ok (.bipush (-2), 2) := by decide +kernel
theorem dX2_play_10 : decode cX2_play 10 = .ok (.ireturn, 1) := by decide +kernel
theorem dX2_play_11 : decode cX2_play 11 = .ok (.aload_n 0, 1) := by decide +kernel
theorem dX2_play_12 : decode cX2_play 12 = .ok (.invokevirtual 37, 3) := by decide +kernel
theorem dX2_play_15 : decode cX2_play 15 = .ok (.aload_n 0, 1) := by decide +kernel
theorem dX2_play_16 : decode cX2_play 16 = .ok (.getfield 10, 3) := by decide +kernel
theorem dX2_play_19 : decode cX2_play 19 = .ok (.aload_n 0, 1) := by decide +kernel
theorem dX2_play_20 : decode cX2_play 20 = .ok (.getfield 16, 3) := by decide +kernel
theorem dX2_play_23 : decode cX2_play 23 = .ok (.invokevirtual 136, 3) := by decide +kernel
theorem dX2_play_26 : decode cX2_play 26 = .ok (.aload_n 0, 1) := by decide +kernel
theorem dX2_play_27 : decode cX2_play 27 = .ok (.invokevirtual 187, 3) := by decide +kernel
theorem dX2_play_30 : decode cX2_play 30 = .ok (.ireturn, 1) := by decide +kernel
theorem dX2_isCell_0 : decode cX2_isCell 0 = .ok (.iload_n 0, 1) := by decide +kernel
theorem dX2_isCell_1 : decode cX2_isCell 1 = .ok (.ifCond .lt 13, 3) := by decide +kernel
theorem dX2_isCell_4 : decode cX2_isCell 4 = .ok (.iload_n 0, 1) := by decide +kernel
theorem dX2_isCell_5 : decode cX2_isCell 5 = .ok (.bipush 36, 2) := by decide +kernel
theorem dX2_isCell_7 : decode cX2_isCell 7 = .ok (.if_icmp .ge 7, 3) := by decide +kernel
theorem dX2_isCell_10 : decode cX2_isCell 10 = .ok (.iconst 1, 1) := by decide +kernel
theorem dX2_isCell_11 : decode cX2_isCell 11 = .ok (.goto 4, 3) := by decide +kernel
theorem dX2_isCell_14 : decode cX2_isCell 14 = .ok (.iconst 0, 1) := by decide +kernel
theorem dX2_isCell_15 : decode cX2_isCell 15 = .ok (.ireturn, 1) := by decide +kernel
theorem dX2_isSide_0 : decode cX2_isSide 0 = .ok (.iload_n 0, 1) := by decide +kernel
theorem dX2_isSide_1 : decode cX2_isSide 1 = .ok (.ifCond .eq 8, 3) := by decide +kernel
theorem dX2_isSide_4 : decode cX2_isSide 4 = .ok (.iload_n 0, 1) := by decide +kernel
theorem dX2_isSide_5 : decode cX2_isSide 5 = .ok (.iconst 1, 1) := by decide +kernel
theorem dX2_isSide_6 : decode cX2_isSide 6 = .ok (.if_icmp .ne 7, 3) := by decide +kernel
theorem dX2_isSide_9 : decode cX2_isSide 9 = .ok (.iconst 1, 1) := by decide +kernel
theorem dX2_isSide_10 : decode cX2_isSide 10 = .ok (.goto 4, 3) := by decide +kernel
theorem dX2_isSide_13 : decode cX2_isSide 13 = .ok (.iconst 0, 1) := by decide +kernel
theorem dX2_isSide_14 : decode cX2_isSide 14 = .ok (.ireturn, 1) := by decide +kernel
theorem dX2_isAccount_0 : decode cX2_isAccount 0 = .ok (.iload_n 0, 1) := by decide +kernel
theorem dX2_isAccount_1 : decode cX2_isAccount 1 = .ok (.ifCond .lt 13, 3) := by decide +kernel
theorem dX2_isAccount_4 : decode cX2_isAccount 4 = .ok (.iload_n 0, 1) := by decide +kernel
theorem dX2_isAccount_5 : decode cX2_isAccount 5 = .ok (.bipush 6, 2) := by decide +kernel
theorem dX2_isAccount_7 : decode cX2_isAccount 7 = .ok (.if_icmp .gt 7, 3) := by decide +kernel
theorem dX2_isAccount_10 : decode cX2_isAccount 10 = .ok (.iconst 1, 1) := by decide +kernel
theorem dX2_isAccount_11 : decode cX2_isAccount 11 = .ok (.goto 4, 3) := by decide +kernel
theorem dX2_isAccount_14 : decode cX2_isAccount 14 = .ok (.iconst 0, 1) := by decide +kernel
theorem dX2_isAccount_15 : decode cX2_isAccount 15 = .ok (.ireturn, 1) := by decide +kernel
theorem dX2_isSetting_0 : decode cX2_isSetting 0 = .ok (.iload_n 0, 1) := by decide +kernel
theorem dX2_isSetting_1 : decode cX2_isSetting 1 = .ok (.ifCond .ne 20, 3) := by decide +kernel
theorem dX2_isSetting_4 : decode cX2_isSetting 4 = .ok (.iload_n 1, 1) := by decide +kernel
theorem dX2_isSetting_5 : decode cX2_isSetting 5 = .ok (.iconst 1, 1) := by decide +kernel
theorem dX2_isSetting_6 : decode cX2_isSetting 6 = .ok (.if_icmp .lt 13, 3) := by decide +kernel
theorem dX2_isSetting_9 : decode cX2_isSetting 9 = .ok (.iload_n 1, 1) := by decide +kernel
theorem dX2_isSetting_10 : decode cX2_isSetting 10 = .ok (.bipush 12, 2) := by decide +kernel
theorem dX2_isSetting_12 : decode cX2_isSetting 12 = .ok (.if_icmp .gt 7, 3) := by decide +kernel
theorem dX2_isSetting_15 : decode cX2_isSetting 15 = .ok (.iconst 1, 1) := by decide +kernel
theorem dX2_isSetting_16 : decode cX2_isSetting 16 = .ok (.goto 4, 3) := by decide +kernel
theorem dX2_isSetting_19 : decode cX2_isSetting 19 = .ok (.iconst 0, 1) := by decide +kernel
theorem dX2_isSetting_20 : decode cX2_isSetting 20 = .ok (.ireturn, 1) := by decide +kernel
theorem dX2_isSetting_21 : decode cX2_isSetting 21 = .ok (.iload_n 0, 1) := by decide +kernel
theorem dX2_isSetting_22 : decode cX2_isSetting 22 = .ok (.iconst 1, 1) := by decide +kernel
theorem dX2_isSetting_23 : decode cX2_isSetting 23 = .ok (.if_icmp .eq 8, 3) := by decide +kernel
theorem dX2_isSetting_26 : decode cX2_isSetting 26 = .ok (.iload_n 0, 1) := by decide +kernel
theorem dX2_isSetting_27 : decode cX2_isSetting 27 = .ok (.iconst 2, 1) := by decide +kernel
theorem dX2_isSetting_28 : decode cX2_isSetting 28 = .ok (.if_icmp .ne 16, 3) := by decide +kernel
theorem dX2_isSetting_31 : decode cX2_isSetting 31 = .ok (.iload_n 1, 1) := by decide +kernel
theorem dX2_isSetting_32 : decode cX2_isSetting 32 = .ok (.ifCond .lt 12, 3) := by decide +kernel
theorem dX2_isSetting_35 : decode cX2_isSetting 35 = .ok (.iload_n 1, 1) := by decide +kernel
theorem dX2_isSetting_36 : decode cX2_isSetting 36 = .ok (.iconst 5, 1) := by decide +kernel
theorem dX2_isSetting_37 : decode cX2_isSetting 37 = .ok (.if_icmp .gt 7, 3) := by decide +kernel
theorem dX2_isSetting_40 : decode cX2_isSetting 40 = .ok (.iconst 1, 1) := by decide +kernel
theorem dX2_isSetting_41 : decode cX2_isSetting 41 = .ok (.goto 4, 3) := by decide +kernel
theorem dX2_isSetting_44 : decode cX2_isSetting 44 = .ok (.iconst 0, 1) := by decide +kernel
theorem dX2_isSetting_45 : decode cX2_isSetting 45 = .ok (.ireturn, 1) := by decide +kernel
theorem dX2_record_0 : decode cX2_record 0 = .ok (.aload_n 0, 1) := by decide +kernel
theorem dX2_record_1 : decode cX2_record 1 = .ok (.getfield 124, 3) := by decide +kernel
theorem dX2_record_4 : decode cX2_record 4 = .ok (.aload_n 0, 1) := by decide +kernel
theorem dX2_record_5 : decode cX2_record 5 = .ok (.getfield 19, 3) := by decide +kernel
theorem dX2_record_8 : decode cX2_record 8 = .ok (.arraylength, 1) := by decide +kernel
theorem dX2_record_9 : decode cX2_record 9 = .ok (.if_icmp .lt 65, 3) := by decide +kernel
theorem dX2_record_12 : decode cX2_record 12 = .ok (.aload_n 0, 1) := by decide +kernel
theorem dX2_record_13 : decode cX2_record 13 = .ok (.getfield 19, 3) := by decide +kernel
theorem dX2_record_16 : decode cX2_record 16 = .ok (.iconst 0, 1) := by decide +kernel
theorem dX2_record_17 : decode cX2_record 17 = .ok (.aaload, 1) := by decide +kernel
theorem dX2_record_18 : decode cX2_record 18 = .ok (.astore_n 1, 1) := by decide +kernel
theorem dX2_record_19 : decode cX2_record 19 = .ok (.iconst 1, 1) := by decide +kernel
theorem dX2_record_20 : decode cX2_record 20 = .ok (.istore_n 2, 1) := by decide +kernel
theorem dX2_record_21 : decode cX2_record 21 = .ok (.iload_n 2, 1) := by decide +kernel
theorem dX2_record_22 : decode cX2_record 22 = .ok (.aload_n 0, 1) := by decide +kernel
theorem dX2_record_23 : decode cX2_record 23 = .ok (.getfield 19, 3) := by decide +kernel
theorem dX2_record_26 : decode cX2_record 26 = .ok (.arraylength, 1) := by decide +kernel
theorem dX2_record_27 : decode cX2_record 27 = .ok (.if_icmp .ge 23, 3) := by decide +kernel
theorem dX2_record_30 : decode cX2_record 30 = .ok (.aload_n 0, 1) := by decide +kernel
theorem dX2_record_31 : decode cX2_record 31 = .ok (.getfield 19, 3) := by decide +kernel
theorem dX2_record_34 : decode cX2_record 34 = .ok (.iload_n 2, 1) := by decide +kernel
theorem dX2_record_35 : decode cX2_record 35 = .ok (.iconst 1, 1) := by decide +kernel
theorem dX2_record_36 : decode cX2_record 36 = .ok (.isub, 1) := by decide +kernel
theorem dX2_record_37 : decode cX2_record 37 = .ok (.aload_n 0, 1) := by decide +kernel
theorem dX2_record_38 : decode cX2_record 38 = .ok (.getfield 19, 3) := by decide +kernel
theorem dX2_record_41 : decode cX2_record 41 = .ok (.iload_n 2, 1) := by decide +kernel
theorem dX2_record_42 : decode cX2_record 42 = .ok (.aaload, 1) := by decide +kernel
theorem dX2_record_43 : decode cX2_record 43 = .ok (.aastore, 1) := by decide +kernel
theorem dX2_record_44 : decode cX2_record 44 = .ok (.iinc 2 1, 3) := by decide +kernel
theorem dX2_record_47 : decode cX2_record 47 = .ok (.goto (-26), 3) := by decide +kernel
theorem dX2_record_50 : decode cX2_record 50 = .ok (.aload_n 0, 1) := by decide +kernel
theorem dX2_record_51 : decode cX2_record 51 = .ok (.getfield 19, 3) := by decide +kernel
theorem dX2_record_54 : decode cX2_record 54 = .ok (.aload_n 0, 1) := by decide +kernel
theorem dX2_record_55 : decode cX2_record 55 = .ok (.getfield 19, 3) := by decide +kernel
theorem dX2_record_58 : decode cX2_record 58 = .ok (.arraylength, 1) := by decide +kernel
theorem dX2_record_59 : decode cX2_record 59 = .ok (.iconst 1, 1) := by decide +kernel
theorem dX2_record_60 : decode cX2_record 60 = .ok (.isub, 1) := by decide +kernel
theorem dX2_record_61 : decode cX2_record 61 = .ok (.aload_n 1, 1) := by decide +kernel
theorem dX2_record_62 : decode cX2_record 62 = .ok (.aastore, 1) := by decide +kernel
theorem dX2_record_63 : decode cX2_record 63 = .ok (.aload_n 0, 1) := by decide +kernel
theorem dX2_record_64 : decode cX2_record 64 = .ok (.aload_n 0, 1) := by decide +kernel
theorem dX2_record_65 : decode cX2_record 65 = .ok (.getfield 19, 3) := by decide +kernel
theorem dX2_record_68 : decode cX2_record 68 = .ok (.arraylength, 1) := by decide +kernel
theorem dX2_record_69 : decode cX2_record 69 = .ok (.iconst 1, 1) := by decide +kernel
theorem dX2_record_70 : decode cX2_record 70 = .ok (.isub, 1) := by decide +kernel
theorem dX2_record_71 : decode cX2_record 71 = .ok (.putfield 124, 3) := by decide +kernel
theorem dX2_record_74 : decode cX2_record 74 = .ok (.aload_n 0, 1) := by decide +kernel
theorem dX2_record_75 : decode cX2_record 75 = .ok (.getfield 124, 3) := by decide +kernel
theorem dX2_record_78 : decode cX2_record 78 = .ok (.ifCond .lt 41, 3) := by decide +kernel
theorem dX2_record_81 : decode cX2_record 81 = .ok (.aload_n 0, 1) := by decide +kernel
theorem dX2_record_82 : decode cX2_record 82 = .ok (.getfield 124, 3) := by decide +kernel
theorem dX2_record_85 : decode cX2_record 85 = .ok (.aload_n 0, 1) := by decide +kernel
theorem dX2_record_86 : decode cX2_record 86 = .ok (.getfield 19, 3) := by decide +kernel
theorem dX2_record_89 : decode cX2_record 89 = .ok (.arraylength, 1) := by decide +kernel
theorem dX2_record_90 : decode cX2_record 90 = .ok (.if_icmp .ge 29, 3) := by decide +kernel
theorem dX2_record_93 : decode cX2_record 93 = .ok (.aload_n 0, 1) := by decide +kernel
theorem dX2_record_94 : decode cX2_record 94 = .ok (.getfield 19, 3) := by decide +kernel
theorem dX2_record_97 : decode cX2_record 97 = .ok (.aload_n 0, 1) := by decide +kernel
theorem dX2_record_98 : decode cX2_record 98 = .ok (.getfield 124, 3) := by decide +kernel
theorem dX2_record_101 : decode cX2_record 101 = .ok (.aaload, 1) := by decide +kernel
theorem dX2_record_102 : decode cX2_record 102 = .ok (.aload_n 0, 1) := by decide +kernel
theorem dX2_record_103 : decode cX2_record 103 = .ok (.getfield 10, 3) := by decide +kernel
theorem dX2_record_106 : decode cX2_record 106 = .ok (.invokevirtual 136, 3) := by decide +kernel
theorem dX2_record_109 : decode cX2_record 109 = .ok (.aload_n 0, 1) := by decide +kernel
theorem dX2_record_110 : decode cX2_record 110 = .ok (.dup, 1) := by decide +kernel
theorem dX2_record_111 : decode cX2_record 111 = .ok (.getfield 124, 3) := by decide +kernel
theorem dX2_record_114 : decode cX2_record 114 = .ok (.iconst 1, 1) := by decide +kernel
theorem dX2_record_115 : decode cX2_record 115 = .ok (.iadd, 1) := by decide +kernel
theorem dX2_record_116 : decode cX2_record 116 = .ok (.putfield 124, 3) := by decide +kernel
theorem dX2_record_119 : decode cX2_record 119 = .ok (.return_, 1) := by decide +kernel
theorem dX2_makeReachWider_0 : decode cX2_makeReachWider 0 = .ok (.aload_n 0, 1) := by decide +kernel
theorem dX2_makeReachWider_1 : decode cX2_makeReachWider 1 = .ok (.getfield 16, 3) := by decide +kernel
theorem dX2_makeReachWider_4 : decode cX2_makeReachWider 4 = .ok (.getfield 40, 3) := by decide +kernel
theorem dX2_makeReachWider_7 : decode cX2_makeReachWider 7 = .ok (.astore_n 3, 1) := by decide +kernel
theorem dX2_makeReachWider_8 : decode cX2_makeReachWider 8 = .ok (.aload_n 0, 1) := by decide +kernel
theorem dX2_makeReachWider_9 : decode cX2_makeReachWider 9 = .ok (.getfield 27, 3) := by decide +kernel
theorem dX2_makeReachWider_12 : decode cX2_makeReachWider 12 = .ok (.iconst 0, 1) := by decide +kernel
theorem dX2_makeReachWider_13 : decode cX2_makeReachWider 13 = .ok (.aload_n 0, 1) := by decide +kernel
theorem dX2_makeReachWider_14 : decode cX2_makeReachWider 14 = .ok (.getfield 31, 3) := by decide +kernel
theorem dX2_makeReachWider_17 : decode cX2_makeReachWider 17 = .ok (.iconst 0, 1) := by decide +kernel
theorem dX2_makeReachWider_18 : decode cX2_makeReachWider 18 = .ok (.bipush 36, 2) := by decide +kernel
theorem dX2_makeReachWider_20 : decode cX2_makeReachWider 20 = .ok (.invokestatic 190, 3) := by decide +kernel
theorem dX2_makeReachWider_23 : decode cX2_makeReachWider 23 = .ok (.iconst 0, 1) := by decide +kernel
theorem dX2_makeReachWider_24 : decode cX2_makeReachWider 24 = .ok (.istore 4, 2) := by decide +kernel
theorem dX2_makeReachWider_26 : decode cX2_makeReachWider 26 = .ok (.iload 4, 2) := by decide +kernel
theorem dX2_makeReachWider_28 : decode cX2_makeReachWider 28 = .ok (.bipush 36, 2) := by decide +kernel
theorem dX2_makeReachWider_30 : decode cX2_makeReachWider 30 = .ok (.if_icmp .ge 46, 3) := by decide +kernel
theorem dX2_makeReachWider_33 : decode cX2_makeReachWider 33 = .ok (.aload_n 0, 1) := by decide +kernel
theorem dX2_makeReachWider_34 : decode cX2_makeReachWider 34 = .ok (.getfield 27, 3) := by decide +kernel
theorem dX2_makeReachWider_37 : decode cX2_makeReachWider 37 = .ok (.iload 4, 2) := by decide +kernel
theorem dX2_makeReachWider_39 : decode cX2_makeReachWider 39 = .ok (.iaload, 1) := by decide +kernel
theorem dX2_makeReachWider_40 : decode cX2_makeReachWider 40 = .ok (.ifCond .le 30, 3) := by decide +kernel
theorem dX2_makeReachWider_43 : decode cX2_makeReachWider 43 = .ok (.aload_n 3, 1) := by decide +kernel
theorem dX2_makeReachWider_44 : decode cX2_makeReachWider 44 = .ok (.iload 4, 2) := by decide +kernel
theorem dX2_makeReachWider_46 : decode cX2_makeReachWider 46 = .ok (.iload_n 1, 1) := by decide +kernel
theorem dX2_makeReachWider_47 : decode cX2_makeReachWider 47 = .ok (.iload_n 2, 1) := by decide +kernel
theorem dX2_makeReachWider_48 : decode cX2_makeReachWider 48 = .ok (.aload_n 0, 1) := by decide +kernel
theorem dX2_makeReachWider_49 : decode cX2_makeReachWider 49 = .ok (.getfield 27, 3) := by decide +kernel
theorem dX2_makeReachWider_52 : decode cX2_makeReachWider 52 = .ok (.iload 4, 2) := by decide +kernel
theorem dX2_makeReachWider_54 : decode cX2_makeReachWider 54 = .ok (.iaload, 1) := by decide +kernel
theorem dX2_makeReachWider_55 : decode cX2_makeReachWider 55 = .ok (.invokevirtual 165, 3) := by decide +kernel
theorem dX2_makeReachWider_58 : decode cX2_makeReachWider 58 = .ok (.aload_n 0, 1) := by decide +kernel
theorem dX2_makeReachWider_59 : decode cX2_makeReachWider 59 = .ok (.iload 4, 2) := by decide +kernel
theorem dX2_makeReachWider_61 : decode cX2_makeReachWider 61 = .ok (.invokevirtual 196, 3) := by decide +kernel
theorem dX2_makeReachWider_64 : decode cX2_makeReachWider 64 = .ok (.aload_n 3, 1) := by decide +kernel
theorem dX2_makeReachWider_65 : decode cX2_makeReachWider 65 = .ok (.iload 4, 2) := by decide +kernel
theorem dX2_makeReachWider_67 : decode cX2_makeReachWider 67 = .ok (.invokevirtual 168, 3) := by decide +kernel
theorem dX2_makeReachWider_70 : decode cX2_makeReachWider 70 = .ok (.iinc 4 1, 3) := by decide +kernel
theorem dX2_makeReachWider_73 : decode cX2_makeReachWider 73 = .ok (.goto (-47), 3) := by decide +kernel
theorem dX2_makeReachWider_76 : decode cX2_makeReachWider 76 = .ok (.aload_n 0, 1) := by decide +kernel
theorem dX2_makeReachWider_77 : decode cX2_makeReachWider 77 = .ok (.getfield 27, 3) := by decide +kernel
theorem dX2_makeReachWider_80 : decode cX2_makeReachWider 80 = .ok (.astore 4, 2) := by decide +kernel
theorem dX2_makeReachWider_82 : decode cX2_makeReachWider 82 = .ok (.aload_n 0, 1) := by decide +kernel
theorem dX2_makeReachWider_83 : decode cX2_makeReachWider 83 = .ok (.aload_n 0, 1) := by decide +kernel
theorem dX2_makeReachWider_84 : decode cX2_makeReachWider 84 = .ok (.getfield 31, 3) := by decide +kernel
theorem dX2_makeReachWider_87 : decode cX2_makeReachWider 87 = .ok (.putfield 27, 3) := by decide +kernel
theorem dX2_makeReachWider_90 : decode cX2_makeReachWider 90 = .ok (.aload_n 0, 1) := by decide +kernel
theorem dX2_makeReachWider_91 : decode cX2_makeReachWider 91 = .ok (.aload 4, 2) := by decide +kernel
theorem dX2_makeReachWider_93 : decode cX2_makeReachWider 93 = .ok (.putfield 31, 3) := by decide +kernel
theorem dX2_makeReachWider_96 : decode cX2_makeReachWider 96 = .ok (.return_, 1) := by decide +kernel
theorem dX2_leaveFrom_0 : decode cX2_leaveFrom 0 = .ok (.aload_n 0, 1) := by decide +kernel
theorem dX2_leaveFrom_1 : decode cX2_leaveFrom 1 = .ok (.getfield 16, 3) := by decide +kernel
theorem dX2_leaveFrom_4 : decode cX2_leaveFrom 4 = .ok (.getfield 40, 3) := by decide +kernel
theorem dX2_leaveFrom_7 : decode cX2_leaveFrom 7 = .ok (.astore_n 2, 1) := by decide +kernel
theorem dX2_leaveFrom_8 : decode cX2_leaveFrom 8 = .ok (.iconst 0, 1) := by decide +kernel
theorem dX2_leaveFrom_9 : decode cX2_leaveFrom 9 = .ok (.istore_n 3, 1) := by decide +kernel
theorem dX2_leaveFrom_10 : decode cX2_leaveFrom 10 = .ok (.iload_n 3, 1) := by decide +kernel
theorem dX2_leaveFrom_11 : decode cX2_leaveFrom 11 = .ok (.bipush 36, 2) := by decide +kernel
theorem dX2_leaveFrom_13 : decode cX2_leaveFrom 13 = .ok (.if_icmp .ge 57, 3) := by decide +kernel
theorem dX2_leaveFrom_16 : decode cX2_leaveFrom 16 = .ok (.aload_n 2, 1) := by decide +kernel
theorem dX2_leaveFrom_17 : decode cX2_leaveFrom 17 = .ok (.iload_n 3, 1) := by decide +kernel
theorem dX2_leaveFrom_18 : decode cX2_leaveFrom 18 = .ok (.invokevirtual 77, 3) := by decide +kernel
theorem dX2_leaveFrom_21 : decode cX2_leaveFrom 21 = .ok (.ifCond .ne 43, 3) := by decide +kernel
theorem dX2_leaveFrom_24 : decode cX2_leaveFrom 24 = .ok (.aload_n 2, 1) := by decide +kernel
theorem dX2_leaveFrom_25 : decode cX2_leaveFrom 25 = .ok (.iload_n 1, 1) := by decide +kernel
theorem dX2_leaveFrom_26 : decode cX2_leaveFrom 26 = .ok (.iload_n 3, 1) := by decide +kernel
theorem dX2_leaveFrom_27 : decode cX2_leaveFrom 27 = .ok (.invokevirtual 159, 3) := by decide +kernel
theorem dX2_leaveFrom_30 : decode cX2_leaveFrom 30 = .ok (.ifCond .eq 34, 3) := by decide +kernel
theorem dX2_leaveFrom_33 : decode cX2_leaveFrom 33 = .ok (.aload_n 2, 1) := by decide +kernel
theorem dX2_leaveFrom_34 : decode cX2_leaveFrom 34 = .ok (.iload_n 1, 1) := by decide +kernel
theorem dX2_leaveFrom_35 : decode cX2_leaveFrom 35 = .ok (.invokevirtual 100, 3) := by decide +kernel
theorem dX2_leaveFrom_38 : decode cX2_leaveFrom 38 = .ok (.aload_n 2, 1) := by decide +kernel
theorem dX2_leaveFrom_39 : decode cX2_leaveFrom 39 = .ok (.iload_n 1, 1) := by decide +kernel
theorem dX2_leaveFrom_40 : decode cX2_leaveFrom 40 = .ok (.iload_n 3, 1) := by decide +kernel
theorem dX2_leaveFrom_41 : decode cX2_leaveFrom 41 = .ok (.invokevirtual 153, 3) := by decide +kernel
theorem dX2_leaveFrom_44 : decode cX2_leaveFrom 44 = .ok (.isub, 1) := by decide +kernel
theorem dX2_leaveFrom_45 : decode cX2_leaveFrom 45 = .ok (.istore 4, 2) := by decide +kernel
theorem dX2_leaveFrom_47 : decode cX2_leaveFrom 47 = .ok (.aload_n 0, 1) := by decide +kernel
theorem dX2_leaveFrom_48 : decode cX2_leaveFrom 48 = .ok (.getfield 31, 3) := by decide +kernel
theorem dX2_leaveFrom_51 : decode cX2_leaveFrom 51 = .ok (.iload_n 3, 1) := by decide +kernel
theorem dX2_leaveFrom_52 : decode cX2_leaveFrom 52 = .ok (.aload_n 0, 1) := by decide +kernel
theorem dX2_leaveFrom_53 : decode cX2_leaveFrom 53 = .ok (.getfield 31, 3) := by decide +kernel
theorem dX2_leaveFrom_56 : decode cX2_leaveFrom 56 = .ok (.iload_n 3, 1) := by decide +kernel
theorem dX2_leaveFrom_57 : decode cX2_leaveFrom 57 = .ok (.iaload, 1) := by decide +kernel
theorem dX2_leaveFrom_58 : decode cX2_leaveFrom 58 = .ok (.iload 4, 2) := by decide +kernel
theorem dX2_leaveFrom_60 : decode cX2_leaveFrom 60 = .ok (.invokestatic 199, 3) := by decide +kernel
theorem dX2_leaveFrom_63 : decode cX2_leaveFrom 63 = .ok (.iastore, 1) := by decide +kernel
theorem dX2_leaveFrom_64 : decode cX2_leaveFrom 64 = .ok (.iinc 3 1, 3) := by decide +kernel
theorem dX2_leaveFrom_67 : decode cX2_leaveFrom 67 = .ok (.goto (-57), 3) := by decide +kernel
theorem dX2_leaveFrom_70 : decode cX2_leaveFrom 70 = .ok (.return_, 1) := by decide +kernel
theorem dX2_cellsReached_0 : decode cX2_cellsReached 0 = .ok (.iconst 0, 1) := by decide +kernel
theorem dX2_cellsReached_1 : decode cX2_cellsReached 1 = .ok (.istore_n 1, 1) := by decide +kernel
theorem dX2_cellsReached_2 : decode cX2_cellsReached 2 = .ok (.iconst 0, 1) := by decide +kernel
theorem dX2_cellsReached_3 : decode cX2_cellsReached 3 = .ok (.istore_n 2, 1) := by decide +kernel
theorem dX2_cellsReached_4 : decode cX2_cellsReached 4 = .ok (.iload_n 2, 1) := by decide +kernel
theorem dX2_cellsReached_5 : decode cX2_cellsReached 5 = .ok (.bipush 36, 2) := by decide +kernel
theorem dX2_cellsReached_7 : decode cX2_cellsReached 7 = .ok (.if_icmp .ge 22, 3) := by decide +kernel
theorem dX2_cellsReached_10 : decode cX2_cellsReached 10 = .ok (.aload_n 0, 1) := by decide +kernel
theorem dX2_cellsReached_11 : decode cX2_cellsReached 11 = .ok (.getfield 27, 3) := by decide +kernel
theorem dX2_cellsReached_14 : decode cX2_cellsReached 14 = .ok (.iload_n 2, 1) := by decide +kernel
theorem dX2_cellsReached_15 : decode cX2_cellsReached 15 = .ok (.iaload, 1) := by decide +kernel
theorem dX2_cellsReached_16 : decode cX2_cellsReached 16 = .ok (.iconst (-1), 1) := by decide +kernel
theorem dX2_cellsReached_17 : decode cX2_cellsReached 17 = .ok (.if_icmp .eq 6, 3) := by decide +kernel
theorem dX2_cellsReached_20 : decode cX2_cellsReached 20 = .ok (.iinc 1 1, 3) := by decide +kernel
theorem dX2_cellsReached_23 : decode cX2_cellsReached 23 = .ok (.iinc 2 1, 3) := by decide +kernel
theorem dX2_cellsReached_26 : decode cX2_cellsReached 26 = .ok (.goto (-22), 3) := by decide +kernel
theorem dX2_cellsReached_29 : decode cX2_cellsReached 29 = .ok (.iload_n 1, 1) := by decide +kernel
theorem dX2_cellsReached_30 : decode cX2_cellsReached 30 = .ok (.ireturn, 1) := by decide +kernel
theorem dX2_gamesBehind_0 : decode cX2_gamesBehind 0 = .ok (.aload_n 0, 1) := by decide +kernel
theorem dX2_gamesBehind_1 : decode cX2_gamesBehind 1 = .ok (.getfield 16, 3) := by decide +kernel
theorem dX2_gamesBehind_4 : decode cX2_gamesBehind 4 = .ok (.aload_n 0, 1) := by decide +kernel
theorem dX2_gamesBehind_5 : decode cX2_gamesBehind 5 = .ok (.getfield 10, 3) := by decide +kernel
theorem dX2_gamesBehind_8 : decode cX2_gamesBehind 8 = .ok (.invokevirtual 136, 3) := by decide +kernel
theorem dX2_gamesBehind_11 : decode cX2_gamesBehind 11 = .ok (.aload_n 0, 1) := by decide +kernel
theorem dX2_gamesBehind_12 : decode cX2_gamesBehind 12 = .ok (.getfield 16, 3) := by decide +kernel
theorem dX2_gamesBehind_15 : decode cX2_gamesBehind 15 = .ok (.iload_n 1, 1) := by decide +kernel
theorem dX2_gamesBehind_16 : decode cX2_gamesBehind 16 = .ok (.iload_n 2, 1) := by decide +kernel
theorem dX2_gamesBehind_17 : decode cX2_gamesBehind 17 = .ok (.invokevirtual 144, 3) := by decide +kernel
theorem dX2_gamesBehind_20 : decode cX2_gamesBehind 20 = .ok (.pop, 1) := by decide +kernel
theorem dX2_gamesBehind_21 : decode cX2_gamesBehind 21 = .ok (.aload_n 0, 1) := by decide +kernel
theorem dX2_gamesBehind_22 : decode cX2_gamesBehind 22 = .ok (.getfield 16, 3) := by decide +kernel
theorem dX2_gamesBehind_25 : decode cX2_gamesBehind 25 = .ok (.invokevirtual 73, 3) := by decide +kernel
theorem dX2_gamesBehind_28 : decode cX2_gamesBehind 28 = .ok (.ifCond .eq 7, 3) := by decide +kernel
theorem dX2_gamesBehind_31 : decode cX2_gamesBehind 31 = .ok (.iconst 1, 1) := by decide +kernel
theorem dX2_gamesBehind_32 : decode cX2_gamesBehind 32 = .ok (.goto 24, 3) := by decide +kernel
theorem dX2_gamesBehind_35 : decode cX2_gamesBehind 35 = .ok (.iconst 1, 1) := by decide +kernel
theorem dX2_gamesBehind_36 : decode cX2_gamesBehind 36 = .ok (.aload_n 0, 1) := by decide +kernel
theorem dX2_gamesBehind_37 : decode cX2_gamesBehind 37 = .ok (.getfield 16, 3) := by decide +kernel
theorem dX2_gamesBehind_40 : decode cX2_gamesBehind 40 = .ok (.getfield 40, 3) := by decide +kernel
theorem dX2_gamesBehind_43 : decode cX2_gamesBehind 43 = .ok (.aload_n 0, 1) := by decide +kernel
theorem dX2_gamesBehind_44 : decode cX2_gamesBehind 44 = .ok (.getfield 16, 3) := by decide +kernel
theorem dX2_gamesBehind_47 : decode cX2_gamesBehind 47 = .ok (.getfield 106, 3) := by decide +kernel
theorem dX2_gamesBehind_50 : decode cX2_gamesBehind 50 = .ok (.invokevirtual 156, 3) := by decide +kernel
theorem dX2_gamesBehind_53 : decode cX2_gamesBehind 53 = .ok (.invokestatic 199, 3) := by decide +kernel
theorem dX2_gamesBehind_56 : decode cX2_gamesBehind 56 = .ok (.ireturn, 1) := by decide +kernel
theorem dX2_worthOf_0 : decode cX2_worthOf 0 = .ok (.aload_n 0, 1) := by decide +kernel
theorem dX2_worthOf_1 : decode cX2_worthOf 1 = .ok (.getfield 16, 3) := by decide +kernel
theorem dX2_worthOf_4 : decode cX2_worthOf 4 = .ok (.aload_n 0, 1) := by decide +kernel
theorem dX2_worthOf_5 : decode cX2_worthOf 5 = .ok (.getfield 10, 3) := by decide +kernel
theorem dX2_worthOf_8 : decode cX2_worthOf 8 = .ok (.invokevirtual 136, 3) := by decide +kernel
theorem dX2_worthOf_11 : decode cX2_worthOf 11 = .ok (.aload_n 0, 1) := by decide +kernel
theorem dX2_worthOf_12 : decode cX2_worthOf 12 = .ok (.getfield 16, 3) := by decide +kernel
theorem dX2_worthOf_15 : decode cX2_worthOf 15 = .ok (.iload_n 1, 1) := by decide +kernel
theorem dX2_worthOf_16 : decode cX2_worthOf 16 = .ok (.iload_n 2, 1) := by decide +kernel
theorem dX2_worthOf_17 : decode cX2_worthOf 17 = .ok (.invokevirtual 204, 3) := by decide +kernel
theorem dX2_worthOf_20 : decode cX2_worthOf 20 = .ok (.pop, 1) := by decide +kernel
theorem dX2_worthOf_21 : decode cX2_worthOf 21 = .ok (.aload_n 0, 1) := by decide +kernel
theorem dX2_worthOf_22 : decode cX2_worthOf 22 = .ok (.getfield 10, 3) := by decide +kernel
theorem dX2_worthOf_25 : decode cX2_worthOf 25 = .ok (.getfield 106, 3) := by decide +kernel
theorem dX2_worthOf_28 : decode cX2_worthOf 28 = .ok (.istore_n 3, 1) := by decide +kernel
theorem dX2_worthOf_29 : decode cX2_worthOf 29 = .ok (.aload_n 0, 1) := by decide +kernel
theorem dX2_worthOf_30 : decode cX2_worthOf 30 = .ok (.getfield 16, 3) := by decide +kernel
theorem dX2_worthOf_33 : decode cX2_worthOf 33 = .ok (.getfield 40, 3) := by decide +kernel
theorem dX2_worthOf_36 : decode cX2_worthOf 36 = .ok (.iload_n 3, 1) := by decide +kernel
theorem dX2_worthOf_37 : decode cX2_worthOf 37 = .ok (.invokevirtual 121, 3) := by decide +kernel
theorem dX2_worthOf_40 : decode cX2_worthOf 40 = .ok (.aload_n 0, 1) := by decide +kernel
theorem dX2_worthOf_41 : decode cX2_worthOf 41 = .ok (.getfield 16, 3) := by decide +kernel
theorem dX2_worthOf_44 : decode cX2_worthOf 44 = .ok (.getfield 40, 3) := by decide +kernel
theorem dX2_worthOf_47 : decode cX2_worthOf 47 = .ok (.iconst 1, 1) := by decide +kernel
theorem dX2_worthOf_48 : decode cX2_worthOf 48 = .ok (.iload_n 3, 1) := by decide +kernel
theorem dX2_worthOf_49 : decode cX2_worthOf 49 = .ok (.isub, 1) := by decide +kernel
theorem dX2_worthOf_50 : decode cX2_worthOf 50 = .ok (.invokevirtual 121, 3) := by decide +kernel
theorem dX2_worthOf_53 : decode cX2_worthOf 53 = .ok (.isub, 1) := by decide +kernel
theorem dX2_worthOf_54 : decode cX2_worthOf 54 = .ok (.istore 4, 2) := by decide +kernel
theorem dX2_worthOf_56 : decode cX2_worthOf 56 = .ok (.aload_n 0, 1) := by decide +kernel
theorem dX2_worthOf_57 : decode cX2_worthOf 57 = .ok (.getfield 16, 3) := by decide +kernel
theorem dX2_worthOf_60 : decode cX2_worthOf 60 = .ok (.invokevirtual 73, 3) := by decide +kernel
theorem dX2_worthOf_63 : decode cX2_worthOf 63 = .ok (.ifCond .eq 12, 3) := by decide +kernel
theorem dX2_worthOf_66 : decode cX2_worthOf 66 = .ok (.iload 4, 2) := by decide +kernel
theorem dX2_worthOf_68 : decode cX2_worthOf 68 = .ok (.sipush 10000, 3) := by decide +kernel
theorem dX2_worthOf_71 : decode cX2_worthOf 71 = .ok (.iadd, 1) := by decide +kernel
theorem dX2_worthOf_72 : decode cX2_worthOf 72 = .ok (.goto 5, 3) := by decide +kernel
theorem dX2_worthOf_75 : decode cX2_worthOf 75 = .ok (.iload 4, 2) := by decide +kernel
theorem dX2_worthOf_77 : decode cX2_worthOf 77 = .ok (.ireturn, 1) := by decide +kernel
theorem dX2_tryText_0 : decode cX2_tryText 0 = .ok (.aload_n 0, 1) := by decide +kernel
theorem dX2_tryText_1 : decode cX2_tryText 1 = .ok (.getfield 16, 3) := by decide +kernel
theorem dX2_tryText_4 : decode cX2_tryText 4 = .ok (.aload_n 0, 1) := by decide +kernel
theorem dX2_tryText_5 : decode cX2_tryText 5 = .ok (.getfield 10, 3) := by decide +kernel
theorem dX2_tryText_8 : decode cX2_tryText 8 = .ok (.invokevirtual 136, 3) := by decide +kernel
theorem dX2_tryText_11 : decode cX2_tryText 11 = .ok (.iconst 0, 1) := by decide +kernel
theorem dX2_tryText_12 : decode cX2_tryText 12 = .ok (.istore_n 1, 1) := by decide +kernel
theorem dX2_tryText_13 : decode cX2_tryText 13 = .ok (.iconst 0, 1) := by decide +kernel
theorem dX2_tryText_14 : decode cX2_tryText 14 = .ok (.istore_n 2, 1) := by decide +kernel
theorem dX2_tryText_15 : decode cX2_tryText 15 = .ok (.iload_n 2, 1) := by decide +kernel
theorem dX2_tryText_16 : decode cX2_tryText 16 = .ok (.bipush 80, 2) := by decide +kernel
theorem dX2_tryText_18 : decode cX2_tryText 18 = .ok (.if_icmp .ge 121, 3) := by decide +kernel
theorem dX2_tryText_21 : decode cX2_tryText 21 = .ok (.iload_n 1, 1) := by decide +kernel
theorem dX2_tryText_22 : decode cX2_tryText 22 = .ok (.aload_n 0, 1) := by decide +kernel
theorem dX2_tryText_23 : decode cX2_tryText 23 = .ok (.getfield 127, 3) := by decide +kernel
theorem dX2_tryText_26 : decode cX2_tryText 26 = .ok (.if_icmp .ge 113, 3) := by decide +kernel
theorem dX2_tryText_29 : decode cX2_tryText 29 = .ok (.aload_n 0, 1) := by decide +kernel
theorem dX2_tryText_30 : decode cX2_tryText 30 = .ok (.iload_n 1, 1) := by decide +kernel
theorem dX2_tryText_31 : decode cX2_tryText 31 = .ok (.invokevirtual 207, 3) := by decide +kernel
theorem dX2_tryText_34 : decode cX2_tryText 34 = .ok (.istore_n 3, 1) := by decide +kernel
theorem dX2_tryText_35 : decode cX2_tryText 35 = .ok (.aload_n 0, 1) := by decide +kernel
theorem dX2_tryText_36 : decode cX2_tryText 36 = .ok (.iload_n 1, 1) := by decide +kernel
theorem dX2_tryText_37 : decode cX2_tryText 37 = .ok (.invokevirtual 210, 3) := by decide +kernel
theorem dX2_tryText_40 : decode cX2_tryText 40 = .ok (.istore 4, 2) := by decide +kernel
theorem dX2_tryText_42 : decode cX2_tryText 42 = .ok (.aload_n 0, 1) := by decide +kernel
theorem dX2_tryText_43 : decode cX2_tryText 43 = .ok (.iload_n 1, 1) := by decide +kernel
theorem dX2_tryText_44 : decode cX2_tryText 44 = .ok (.iconst 2, 1) := by decide +kernel
theorem dX2_tryText_45 : decode cX2_tryText 45 = .ok (.iadd, 1) := by decide +kernel
theorem dX2_tryText_46 : decode cX2_tryText 46 = .ok (.invokevirtual 210, 3) := by decide +kernel
theorem dX2_tryText_49 : decode cX2_tryText 49 = .ok (.istore 5, 2) := by decide +kernel
theorem dX2_tryText_51 : decode cX2_tryText 51 = .ok (.iconst 1, 1) := by decide +kernel
theorem dX2_tryText_52 : decode cX2_tryText 52 = .ok (.istore 6, 2) := by decide +kernel
theorem dX2_tryText_54 : decode cX2_tryText 54 = .ok (.iload_n 3, 1) := by decide +kernel
theorem dX2_tryText_55 : decode cX2_tryText 55 = .ok (.iconst 5, 1) := by decide +kernel
theorem dX2_tryText_56 : decode cX2_tryText 56 = .ok (.if_icmp .ne 19, 3) := by decide +kernel
theorem dX2_tryText_59 : decode cX2_tryText 59 = .ok (.aload_n 0, 1) := by decide +kernel
theorem dX2_tryText_60 : decode cX2_tryText 60 = .ok (.getfield 16, 3) := by decide +kernel
theorem dX2_tryText_63 : decode cX2_tryText 63 = .ok (.iload 4, 2) := by decide +kernel
theorem dX2_tryText_65 : decode cX2_tryText 65 = .ok (.iload 5, 2) := by decide +kernel
theorem dX2_tryText_67 : decode cX2_tryText 67 = .ok (.invokevirtual 140, 3) := by decide +kernel
theorem dX2_tryText_70 : decode cX2_tryText 70 = .ok (.istore 6, 2) := by decide +kernel
theorem dX2_tryText_72 : decode cX2_tryText 72 = .ok (.goto 17, 3) := by decide +kernel
theorem dX2_tryText_75 : decode cX2_tryText 75 = .ok (.iload_n 3, 1) := by decide +kernel
theorem dX2_tryText_76 : decode cX2_tryText 76 = .ok (.iconst 2, 1) := by decide +kernel
theorem dX2_tryText_77 : decode cX2_tryText 77 = .ok (.if_icmp .ne 12, 3) := by decide +kernel
theorem dX2_tryText_80 : decode cX2_tryText 80 = .ok (.aload_n 0, 1) := by decide +kernel
theorem dX2_tryText_81 : decode cX2_tryText 81 = .ok (.getfield 16, 3) := by decide +kernel
theorem dX2_tryText_84 : decode cX2_tryText 84 = .ok (.invokevirtual 147, 3) := by decide +kernel
theorem dX2_tryText_87 : decode cX2_tryText 87 = .ok (.istore 6, 2) := by decide +kernel
theorem dX2_tryText_89 : decode cX2_tryText 89 = .ok (.iload 6, 2) := by decide +kernel
theorem dX2_tryText_91 : decode cX2_tryText 91 = .ok (.ifCond .eq 11, 3) := by decide +kernel
theorem dX2_tryText_94 : decode cX2_tryText 94 = .ok (.bipush 16, 2) := by decide +kernel
theorem dX2_tryText_96 : decode cX2_tryText 96 = .ok (.iload_n 1, 1) := by decide +kernel
theorem dX2_tryText_97 : decode cX2_tryText 97 = .ok (.imul, 1) := by decide +kernel
theorem dX2_tryText_98 : decode cX2_tryText 98 = .ok (.iload 6, 2) := by decide +kernel
theorem dX2_tryText_100 : decode cX2_tryText 100 = .ok (.iadd, 1) := by decide +kernel
theorem dX2_tryText_101 : decode cX2_tryText 101 = .ok (.ireturn, 1) := by decide +kernel
theorem dX2_tryText_102 : decode cX2_tryText 102 = .ok (.iload_n 3, 1) := by decide +kernel
theorem dX2_tryText_103 : decode cX2_tryText 103 = .ok (.iconst 5, 1) := by decide +kernel
theorem dX2_tryText_104 : decode cX2_tryText 104 = .ok (.if_icmp .ne 18, 3) := by decide +kernel
theorem dX2_tryText_107 : decode cX2_tryText 107 = .ok (.aload_n 0, 1) := by decide +kernel
theorem dX2_tryText_108 : decode cX2_tryText 108 = .ok (.getfield 16, 3) := by decide +kernel
theorem dX2_tryText_111 : decode cX2_tryText 111 = .ok (.iload 4, 2) := by decide +kernel
theorem dX2_tryText_113 : decode cX2_tryText 113 = .ok (.iload 5, 2) := by decide +kernel
theorem dX2_tryText_115 : decode cX2_tryText 115 = .ok (.invokevirtual 144, 3) := by decide +kernel
theorem dX2_tryText_118 : decode cX2_tryText 118 = .ok (.pop, 1) := by decide +kernel
theorem dX2_tryText_119 : decode cX2_tryText 119 = .ok (.goto 10, 3) := by decide +kernel
theorem dX2_tryText_122 : decode cX2_tryText 122 = .ok (.aload_n 0, 1) := by decide +kernel
theorem dX2_tryText_123 : decode cX2_tryText 123 = .ok (.getfield 16, 3) := by decide +kernel
theorem dX2_tryText_126 : decode cX2_tryText 126 = .ok (.invokevirtual 150, 3) := by decide +kernel
theorem dX2_tryText_129 : decode cX2_tryText 129 = .ok (.iload_n 1, 1) := by decide +kernel
theorem dX2_tryText_130 : decode cX2_tryText 130 = .ok (.iload_n 3, 1) := by decide +kernel
theorem dX2_tryText_131 : decode cX2_tryText 131 = .ok (.iadd, 1) := by decide +kernel
theorem dX2_tryText_132 : decode cX2_tryText 132 = .ok (.istore_n 1, 1) := by decide +kernel
theorem dX2_tryText_133 : decode cX2_tryText 133 = .ok (.iinc 2 1, 3) := by decide +kernel
theorem dX2_tryText_136 : decode cX2_tryText 136 = .ok (.goto (-121), 3) := by decide +kernel
theorem dX2_tryText_139 : decode cX2_tryText 139 = .ok (.iconst (-1), 1) := by decide +kernel
theorem dX2_tryText_140 : decode cX2_tryText 140 = .ok (.ireturn, 1) := by decide +kernel
theorem dX2_signsOfForm_0 : decode cX2_signsOfForm 0 = .ok (.aload_n 0, 1) := by decide +kernel
theorem dX2_signsOfForm_1 : decode cX2_signsOfForm 1 = .ok (.iload_n 1, 1) := by decide +kernel
theorem dX2_signsOfForm_2 : decode cX2_signsOfForm 2 = .ok (.invokevirtual 213, 3) := by decide +kernel
theorem dX2_signsOfForm_5 : decode cX2_signsOfForm 5 = .ok (.bipush 45, 2) := by decide +kernel
theorem dX2_signsOfForm_7 : decode cX2_signsOfForm 7 = .ok (.if_icmp .ne 17, 3) := by decide +kernel
theorem dX2_signsOfForm_10 : decode cX2_signsOfForm 10 = .ok (.aload_n 0, 1) := by decide +kernel
theorem dX2_signsOfForm_11 : decode cX2_signsOfForm 11 = .ok (.iload_n 1, 1) := by decide +kernel
theorem dX2_signsOfForm_12 : decode cX2_signsOfForm 12 = .ok (.iconst 1, 1) := by decide +kernel
theorem dX2_signsOfForm_13 : decode cX2_signsOfForm 13 = .ok (.iadd, 1) := by decide +kernel
theorem dX2_signsOfForm_14 : decode cX2_signsOfForm 14 = .ok (.invokevirtual 213, 3) := by decide +kernel
theorem dX2_signsOfForm_17 : decode cX2_signsOfForm 17 = .ok (.bipush 59, 2) := by decide +kernel
theorem dX2_signsOfForm_19 : decode cX2_signsOfForm 19 = .ok (.if_icmp .ne 5, 3) := by decide +kernel
theorem dX2_signsOfForm_22 : decode cX2_signsOfForm 22 = .ok (.iconst 2, 1) := by decide +kernel
theorem dX2_signsOfForm_23 : decode cX2_signsOfForm 23 = .ok (.ireturn, 1) := by decide +kernel
theorem dX2_signsOfForm_24 : decode cX2_signsOfForm 24 = .ok (.aload_n 0, 1) := by decide +kernel
theorem dX2_signsOfForm_25 : decode cX2_signsOfForm 25 = .ok (.iload_n 1, 1) := by decide +kernel
theorem dX2_signsOfForm_26 : decode cX2_signsOfForm 26 = .ok (.invokevirtual 210, 3) := by decide +kernel
theorem dX2_signsOfForm_29 : decode cX2_signsOfForm 29 = .ok (.iconst (-1), 1) := by decide +kernel
theorem dX2_signsOfForm_30 : decode cX2_signsOfForm 30 = .ok (.if_icmp .eq 30, 3) := by decide +kernel
theorem dX2_signsOfForm_33 : decode cX2_signsOfForm 33 = .ok (.aload_n 0, 1) := by decide +kernel
theorem dX2_signsOfForm_34 : decode cX2_signsOfForm 34 = .ok (.iload_n 1, 1) := by decide +kernel
theorem dX2_signsOfForm_35 : decode cX2_signsOfForm 35 = .ok (.iconst 2, 1) := by decide +kernel
theorem dX2_signsOfForm_36 : decode cX2_signsOfForm 36 = .ok (.iadd, 1) := by decide +kernel
theorem dX2_signsOfForm_37 : decode cX2_signsOfForm 37 = .ok (.invokevirtual 210, 3) := by decide +kernel
theorem dX2_signsOfForm_40 : decode cX2_signsOfForm 40 = .ok (.iconst (-1), 1) := by decide +kernel
theorem dX2_signsOfForm_41 : decode cX2_signsOfForm 41 = .ok (.if_icmp .eq 19, 3) := by decide +kernel
theorem dX2_signsOfForm_44 : decode cX2_signsOfForm 44 = .ok (.aload_n 0, 1) := by decide +kernel
theorem dX2_signsOfForm_45 : decode cX2_signsOfForm 45 = .ok (.iload_n 1, 1) := by decide +kernel
theorem dX2_signsOfForm_46 : decode cX2_signsOfForm 46 = .ok (.iconst 4, 1) := by decide +kernel
theorem dX2_signsOfForm_47 : decode cX2_signsOfForm 47 = .ok (.iadd, 1) := by decide +kernel
theorem dX2_signsOfForm_48 : decode cX2_signsOfForm 48 = .ok (.invokevirtual 213, 3) := by decide +kernel
theorem dX2_signsOfForm_51 : decode cX2_signsOfForm 51 = .ok (.bipush 59, 2) := by decide +kernel
theorem dX2_signsOfForm_53 : decode cX2_signsOfForm 53 = .ok (.if_icmp .ne 7, 3) := by decide +kernel
theorem dX2_signsOfForm_56 : decode cX2_signsOfForm 56 = .ok (.iconst 1, 1) := by decide +kernel
theorem dX2_signsOfForm_57 : decode cX2_signsOfForm 57 = .ok (.goto 4, 3) := by decide +kernel
theorem dX2_signsOfForm_60 : decode cX2_signsOfForm 60 = .ok (.iconst 0, 1) := by decide +kernel
theorem dX2_signsOfForm_61 : decode cX2_signsOfForm 61 = .ok (.istore_n 2, 1) := by decide +kernel
theorem dX2_signsOfForm_62 : decode cX2_signsOfForm 62 = .ok (.iload_n 2, 1) := by decide +kernel
theorem dX2_signsOfForm_63 : decode cX2_signsOfForm 63 = .ok (.ifCond .eq 7, 3) := by decide +kernel
theorem dX2_signsOfForm_66 : decode cX2_signsOfForm 66 = .ok (.iconst 5, 1) := by decide +kernel
theorem dX2_signsOfForm_67 : decode cX2_signsOfForm 67 = .ok (.goto 4, 3) := by decide +kernel
theorem dX2_signsOfForm_70 : decode cX2_signsOfForm 70 = .ok (.iconst 0, 1) := by decide +kernel
theorem dX2_signsOfForm_71 : decode cX2_signsOfForm 71 = .ok (.ireturn, 1) := by decide +kernel
theorem dX2_cellAt_0 : decode cX2_cellAt 0 = .ok (.aload_n 0, 1) := by decide +kernel
theorem dX2_cellAt_1 : decode cX2_cellAt 1 = .ok (.iload_n 1, 1) := by decide +kernel
theorem dX2_cellAt_2 : decode cX2_cellAt 2 = .ok (.invokevirtual 213, 3) := by decide +kernel
theorem dX2_cellAt_5 : decode cX2_cellAt 5 = .ok (.bipush 97, 2) := by decide +kernel
theorem dX2_cellAt_7 : decode cX2_cellAt 7 = .ok (.isub, 1) := by decide +kernel
theorem dX2_cellAt_8 : decode cX2_cellAt 8 = .ok (.istore_n 2, 1) := by decide +kernel
theorem dX2_cellAt_9 : decode cX2_cellAt 9 = .ok (.aload_n 0, 1) := by decide +kernel
theorem dX2_cellAt_10 : decode cX2_cellAt 10 = .ok (.iload_n 1, 1) := by decide +kernel
theorem dX2_cellAt_11 : decode cX2_cellAt 11 = .ok (.iconst 1, 1) := by decide +kernel
theorem dX2_cellAt_12 : decode cX2_cellAt 12 = .ok (.iadd, 1) := by decide +kernel
theorem dX2_cellAt_13 : decode cX2_cellAt 13 = .ok (.invokevirtual 213, 3) := by decide +kernel
theorem dX2_cellAt_16 : decode cX2_cellAt 16 = .ok (.bipush 49, 2) := by decide +kernel
theorem dX2_cellAt_18 : decode cX2_cellAt 18 = .ok (.isub, 1) := by decide +kernel
theorem dX2_cellAt_19 : decode cX2_cellAt 19 = .ok (.istore_n 3, 1) := by decide +kernel
theorem dX2_cellAt_20 : decode cX2_cellAt 20 = .ok (.iload_n 2, 1) := by decide +kernel
theorem dX2_cellAt_21 : decode cX2_cellAt 21 = .ok (.ifCond .lt 23, 3) := by decide +kernel
theorem dX2_cellAt_24 : decode cX2_cellAt 24 = .ok (.iload_n 2, 1) := by decide +kernel
theorem dX2_cellAt_25 : decode cX2_cellAt 25 = .ok (.bipush 6, 2) := by decide +kernel
theorem dX2_cellAt_27 : decode cX2_cellAt 27 = .ok (.if_icmp .ge 17, 3) := by decide +kernel
theorem dX2_cellAt_30 : decode cX2_cellAt 30 = .ok (.iload_n 3, 1) := by decide +kernel
theorem dX2_cellAt_31 : decode cX2_cellAt 31 = .ok (.ifCond .lt 13, 3) := by decide +kernel
theorem dX2_cellAt_34 : decode cX2_cellAt 34 = .ok (.iload_n 3, 1) := by decide +kernel
theorem dX2_cellAt_35 : decode cX2_cellAt 35 = .ok (.bipush 6, 2) := by decide +kernel
theorem dX2_cellAt_37 : decode cX2_cellAt 37 = .ok (.if_icmp .ge 7, 3) := by decide +kernel
theorem dX2_cellAt_40 : decode cX2_cellAt 40 = .ok (.iconst 1, 1) := by decide +kernel
theorem dX2_cellAt_41 : decode cX2_cellAt 41 = .ok (.goto 4, 3) := by decide +kernel
theorem dX2_cellAt_44 : decode cX2_cellAt 44 = .ok (.iconst 0, 1) := by decide +kernel
theorem dX2_cellAt_45 : decode cX2_cellAt 45 = .ok (.istore 4, 2) := by decide +kernel
theorem dX2_cellAt_47 : decode cX2_cellAt 47 = .ok (.iload 4, 2) := by decide +kernel
theorem dX2_cellAt_49 : decode cX2_cellAt 49 = .ok (.ifCond .eq 12, 3) := by decide +kernel
theorem dX2_cellAt_52 : decode cX2_cellAt 52 = .ok (.bipush 6, 2) := by decide +kernel
theorem dX2_cellAt_54 : decode cX2_cellAt 54 = .ok (.iload_n 3, 1) := by decide +kernel
theorem dX2_cellAt_55 : decode cX2_cellAt 55 = .ok (.imul, 1) := by decide +kernel
theorem dX2_cellAt_56 : decode cX2_cellAt 56 = .ok (.iload_n 2, 1) := by decide +kernel
theorem dX2_cellAt_57 : decode cX2_cellAt 57 = .ok (.iadd, 1) := by decide +kernel
theorem dX2_cellAt_58 : decode cX2_cellAt 58 = .ok (.goto 4, 3) := by decide +kernel
theorem dX2_cellAt_61 : decode cX2_cellAt 61 = .ok (.iconst (-1), 1) := by decide +kernel
theorem dX2_cellAt_62 : decode cX2_cellAt 62 = .ok (.ireturn, 1) := by decide +kernel
theorem dX2_signAt_0 : decode cX2_signAt 0 = .ok (.iload_n 1, 1) := by decide +kernel
theorem dX2_signAt_1 : decode cX2_signAt 1 = .ok (.ifCond .lt 29, 3) := by decide +kernel
theorem dX2_signAt_4 : decode cX2_signAt 4 = .ok (.iload_n 1, 1) := by decide +kernel
theorem dX2_signAt_5 : decode cX2_signAt 5 = .ok (.aload_n 0, 1) := by decide +kernel
theorem dX2_signAt_6 : decode cX2_signAt 6 = .ok (.getfield 127, 3) := by decide +kernel
theorem dX2_signAt_9 : decode cX2_signAt 9 = .ok (.if_icmp .ge 21, 3) := by decide +kernel
theorem dX2_signAt_12 : decode cX2_signAt 12 = .ok (.iload_n 1, 1) := by decide +kernel
theorem dX2_signAt_13 : decode cX2_signAt 13 = .ok (.aload_n 0, 1) := by decide +kernel
theorem dX2_signAt_14 : decode cX2_signAt 14 = .ok (.getfield 23, 3) := by decide +kernel
theorem dX2_signAt_17 : decode cX2_signAt 17 = .ok (.arraylength, 1) := by decide +kernel
theorem dX2_signAt_18 : decode cX2_signAt 18 = .ok (.if_icmp .ge 12, 3) := by decide +kernel
theorem dX2_signAt_21 : decode cX2_signAt 21 = .ok (.aload_n 0, 1) := by decide +kernel
theorem dX2_signAt_22 : decode cX2_signAt 22 = .ok (.getfield 23, 3) := by decide +kernel
theorem dX2_signAt_25 : decode cX2_signAt 25 = .ok (.iload_n 1, 1) := by decide +kernel
theorem dX2_signAt_26 : decode cX2_signAt 26 = .ok (.caload, 1) := by decide +kernel
theorem dX2_signAt_27 : decode cX2_signAt 27 = .ok (.goto 4, 3) := by decide +kernel
theorem dX2_signAt_30 : decode cX2_signAt 30 = .ok (.iconst 0, 1) := by decide +kernel
theorem dX2_signAt_31 : decode cX2_signAt 31 = .ok (.ireturn, 1) := by decide +kernel
theorem dX2_movesInText_0 : decode cX2_movesInText 0 = .ok (.iconst 0, 1) := by decide +kernel
theorem dX2_movesInText_1 : decode cX2_movesInText 1 = .ok (.istore_n 1, 1) := by decide +kernel
theorem dX2_movesInText_2 : decode cX2_movesInText 2 = .ok (.iconst 0, 1) := by decide +kernel
theorem dX2_movesInText_3 : decode cX2_movesInText 3 = .ok (.istore_n 2, 1) := by decide +kernel
theorem dX2_movesInText_4 : decode cX2_movesInText 4 = .ok (.iload_n 2, 1) := by decide +kernel
theorem dX2_movesInText_5 : decode cX2_movesInText 5 = .ok (.aload_n 0, 1) := by decide +kernel
theorem dX2_movesInText_6 : decode cX2_movesInText 6 = .ok (.getfield 127, 3) := by decide +kernel
theorem dX2_movesInText_9 : decode cX2_movesInText 9 = .ok (.if_icmp .ge 22, 3) := by decide +kernel
theorem dX2_movesInText_12 : decode cX2_movesInText 12 = .ok (.aload_n 0, 1) := by decide +kernel
theorem dX2_movesInText_13 : decode cX2_movesInText 13 = .ok (.iload_n 2, 1) := by decide +kernel
theorem dX2_movesInText_14 : decode cX2_movesInText 14 = .ok (.invokevirtual 213, 3) := by decide +kernel
theorem dX2_movesInText_17 : decode cX2_movesInText 17 = .ok (.bipush 59, 2) := by decide +kernel
theorem dX2_movesInText_19 : decode cX2_movesInText 19 = .ok (.if_icmp .ne 6, 3) := by decide +kernel
theorem dX2_movesInText_22 : decode cX2_movesInText 22 = .ok (.iinc 1 1, 3) := by decide +kernel
theorem dX2_movesInText_25 : decode cX2_movesInText 25 = .ok (.iinc 2 1, 3) := by decide +kernel
theorem dX2_movesInText_28 : decode cX2_movesInText 28 = .ok (.goto (-24), 3) := by decide +kernel
theorem dX2_movesInText_31 : decode cX2_movesInText 31 = .ok (.iload_n 1, 1) := by decide +kernel
theorem dX2_movesInText_32 : decode cX2_movesInText 32 = .ok (.ireturn, 1) := by decide +kernel
theorem dX3_init_0 : decode cX3_init 0 = .ok (.aload_n 0, 1) := by decide +kernel
theorem dX3_init_1 : decode cX3_init 1 = .ok (.invokespecial 1, 3) := by decide +kernel
theorem dX3_init_4 : decode cX3_init 4 = .ok (.aload_n 0, 1) := by decide +kernel
theorem dX3_init_5 : decode cX3_init 5 = .ok (.sipush 159, 3) := by decide +kernel
theorem dX3_init_8 : decode cX3_init 8 = .ok (.newarray .int, 2) := by decide +kernel
theorem dX3_init_10 : decode cX3_init 10 = .ok (.putfield 7, 3) := by decide +kernel
theorem dX3_init_13 : decode cX3_init 13 = .ok (.aload_n 0, 1) := by decide +kernel
theorem dX3_init_14 : decode cX3_init 14 = .ok (.sipush 795, 3) := by decide +kernel
theorem dX3_init_17 : decode cX3_init 17 = .ok (.newarray .int, 2) := by decide +kernel
theorem dX3_init_19 : decode cX3_init 19 = .ok (.putfield 13, 3) := by decide +kernel
theorem dX3_init_22 : decode cX3_init 22 = .ok (.aload_n 0, 1) := by decide +kernel
theorem dX3_init_23 : decode cX3_init 23 = .ok (.sipush 159, 3) := by decide +kernel
theorem dX3_init_26 : decode cX3_init 26 = .ok (.newarray .int, 2) := by decide +kernel
theorem dX3_init_28 : decode cX3_init 28 = .ok (.putfield 16, 3) := by decide +kernel
theorem dX3_init_31 : decode cX3_init 31 = .ok (.aload_n 0, 1) := by decide +kernel
theorem dX3_init_32 : decode cX3_init 32 = .ok (.bipush 80, 2) := by decide +kernel
theorem dX3_init_34 : decode cX3_init 34 = .ok (.newarray .int, 2) := by decide +kernel
theorem dX3_init_36 : decode cX3_init 36 = .ok (.putfield 19, 3) := by decide +kernel
theorem dX3_init_39 : decode cX3_init 39 = .ok (.aload_n 0, 1) := by decide +kernel
theorem dX3_init_40 : decode cX3_init 40 = .ok (.bipush 36, 2) := by decide +kernel
theorem dX3_init_42 : decode cX3_init 42 = .ok (.newarray .int, 2) := by decide +kernel
theorem dX3_init_44 : decode cX3_init 44 = .ok (.putfield 22, 3) := by decide +kernel
theorem dX3_init_47 : decode cX3_init 47 = .ok (.aload_n 0, 1) := by decide +kernel
theorem dX3_init_48 : decode cX3_init 48 = .ok (.bipush 36, 2) := by decide +kernel
theorem dX3_init_50 : decode cX3_init 50 = .ok (.newarray .int, 2) := by decide +kernel
theorem dX3_init_52 : decode cX3_init 52 = .ok (.putfield 25, 3) := by decide +kernel
theorem dX3_init_55 : decode cX3_init 55 = .ok (.aload_n 0, 1) := by decide +kernel
theorem dX3_init_56 : decode cX3_init 56 = .ok (.getfield 7, 3) := by decide +kernel
theorem dX3_init_59 : decode cX3_init 59 = .ok (.sipush 149, 3) := by decide +kernel
theorem dX3_init_62 : decode cX3_init 62 = .ok (.bipush 9, 2) := by decide +kernel
theorem dX3_init_64 : decode cX3_init 64 = .ok (.iastore, 1) := by decide +kernel
theorem dX3_init_65 : decode cX3_init 65 = .ok (.aload_n 0, 1) := by decide +kernel
theorem dX3_init_66 : decode cX3_init 66 = .ok (.getfield 7, 3) := by decide +kernel
theorem dX3_init_69 : decode cX3_init 69 = .ok (.sipush 150, 3) := by decide +kernel
theorem dX3_init_72 : decode cX3_init 72 = .ok (.iconst 1, 1) := by decide +kernel
theorem dX3_init_73 : decode cX3_init 73 = .ok (.iastore, 1) := by decide +kernel
theorem dX3_init_74 : decode cX3_init 74 = .ok (.aload_n 0, 1) := by decide +kernel
theorem dX3_init_75 : decode cX3_init 75 = .ok (.getfield 7, 3) := by decide +kernel
theorem dX3_init_78 : decode cX3_init 78 = .ok (.sipush 151, 3) := by decide +kernel
theorem dX3_init_81 : decode cX3_init 81 = .ok (.iconst 2, 1) := by decide +kernel
theorem dX3_init_82 : decode cX3_init 82 = .ok (.iastore, 1) := by decide +kernel
theorem dX3_init_83 : decode cX3_init 83 = .ok (.aload_n 0, 1) := by decide +kernel
theorem dX3_init_84 : decode cX3_init 84 = .ok (.invokevirtual 28, 3) := by decide +kernel
theorem dX3_init_87 : decode cX3_init 87 = .ok (.return_, 1) := by decide +kernel
theorem dX3_in_0 : decode cX3_in 0 = .ok (.iload_n 0, 1) := by decide +kernel
theorem dX3_in_1 : decode cX3_in 1 = .ok (.iload_n 1, 1) := by decide +kernel
theorem dX3_in_2 : decode cX3_in 2 = .ok (.if_icmp .lt 12, 3) := by decide +kernel
theorem dX3_in_5 : decode cX3_in 5 = .ok (.iload_n 0, 1) := by decide +kernel
theorem dX3_in_6 : decode cX3_in 6 = .ok (.iload_n 2, 1) := by decide +kernel
theorem dX3_in_7 : decode cX3_in 7 = .ok (.if_icmp .gt 7, 3) := by decide +kernel
theorem dX3_in_10 : decode cX3_in 10 = .ok (.iconst 1, 1) := by decide +kernel
theorem dX3_in_11 : decode cX3_in 11 = .ok (.goto 4, 3) := by decide +kernel
theorem dX3_in_14 : decode cX3_in 14 = .ok (.iconst 0, 1) := by decide +kernel
theorem dX3_in_15 : decode cX3_in 15 = .ok (.ireturn, 1) := by decide +kernel
theorem dX3_size_0 : decode cX3_size 0 = .ok (.iload_n 0, 1) := by decide +kernel
theorem dX3_size_1 : decode cX3_size 1 = .ok (.ifCond .ge 8, 3) := by decide +kernel
theorem dX3_size_4 : decode cX3_size 4 = .ok (.iload_n 0, 1) := by decide +kernel
theorem dX3_size_5 : decode cX3_size 5 = .ok (.ineg, 1) := by decide +kernel
theorem dX3_size_6 : decode cX3_size 6 = .ok (.goto 4, 3) := by decide +kernel
theorem dX3_size_9 : decode cX3_size 9 = .ok (.iload_n 0, 1) := by decide +kernel
theorem dX3_size_10 : decode cX3_size 10 = .ok (.ireturn, 1) := by decide +kernel
theorem dX3_lesser_0 : decode cX3_lesser 0 = .ok (.iload_n 0, 1) := by decide +kernel
theorem dX3_lesser_1 : decode cX3_lesser 1 = .ok (.iload_n 1, 1) := by decide +kernel
theorem dX3_lesser_2 : decode cX3_lesser 2 = .ok (.if_icmp .ge 7, 3) := by decide +kernel
theorem dX3_lesser_5 : decode cX3_lesser 5 = .ok (.iload_n 0, 1) := by decide +kernel
theorem dX3_lesser_6 : decode cX3_lesser 6 = .ok (.goto 4, 3) := by decide +kernel
theorem dX3_lesser_9 : decode cX3_lesser 9 = .ok (.iload_n 1, 1) := by decide +kernel
theorem dX3_lesser_10 : decode cX3_lesser 10 = .ok (.ireturn, 1) := by decide +kernel
theorem dX3_isCell_0 : decode cX3_isCell 0 = .ok (.iload_n 0, 1) := by decide +kernel
theorem dX3_isCell_1 : decode cX3_isCell 1 = .ok (.iconst 0, 1) := by decide +kernel
theorem dX3_isCell_2 : decode cX3_isCell 2 = .ok (.bipush 35, 2) := by decide +kernel
theorem dX3_isCell_4 : decode cX3_isCell 4 = .ok (.invokestatic 31, 3) := by decide +kernel
theorem dX3_isCell_7 : decode cX3_isCell 7 = .ok (.ireturn, 1) := by decide +kernel
theorem dX3_isSide_0 : decode cX3_isSide 0 = .ok (.iload_n 0, 1) := by decide +kernel
theorem dX3_isSide_1 : decode cX3_isSide 1 = .ok (.iconst 0, 1) := by decide +kernel
theorem dX3_isSide_2 : decode cX3_isSide 2 = .ok (.iconst 1, 1) := by decide +kernel
theorem dX3_isSide_3 : decode cX3_isSide 3 = .ok (.invokestatic 31, 3) := by decide +kernel
theorem dX3_isSide_6 : decode cX3_isSide 6 = .ok (.ireturn, 1) := by decide +kernel
theorem dX3_records_0 : decode cX3_records 0 = .ok (.aload_n 0, 1) := by decide +kernel
theorem dX3_records_1 : decode cX3_records 1 = .ok (.getfield 35, 3) := by decide +kernel
theorem dX3_records_4 : decode cX3_records 4 = .ok (.iconst 5, 1) := by decide +kernel
theorem dX3_records_5 : decode cX3_records 5 = .ok (.if_icmp .ne 44, 3) := by decide +kernel
theorem dX3_records_8 : decode cX3_records 8 = .ok (.iconst 0, 1) := by decide +kernel
theorem dX3_records_9 : decode cX3_records 9 = .ok (.istore_n 1, 1) := by decide +kernel
theorem dX3_records_10 : decode cX3_records 10 = .ok (.iload_n 1, 1) := by decide +kernel
theorem dX3_records_11 : decode cX3_records 11 = .ok (.sipush 636, 3) := by decide +kernel
theorem dX3_records_14 : decode cX3_records 14 = .ok (.if_icmp .ge 25, 3) := by decide +kernel
theorem dX3_records_17 : decode cX3_records 17 = .ok (.aload_n 0, 1) := by decide +kernel
theorem dX3_records_18 : decode cX3_records 18 = .ok (.getfield 13, 3) := by decide +kernel
theorem dX3_records_21 : decode cX3_records 21 = .ok (.iload_n 1, 1) := by decide +kernel
theorem dX3_records_22 : decode cX3_records 22 = .ok (.aload_n 0, 1) := by decide +kernel
theorem dX3_records_23 : decode cX3_records 23 = .ok (.getfield 13, 3) := by decide +kernel
theorem dX3_records_26 : decode cX3_records 26 = .ok (.iload_n 1, 1) := by decide +kernel
theorem dX3_records_27 : decode cX3_records 27 = .ok (.sipush 159, 3) := by decide +kernel
theorem dX3_records_30 : decode cX3_records 30 = .ok (.iadd, 1) := by decide +kernel
theorem dX3_records_31 : decode cX3_records 31 = .ok (.iaload, 1) := by decide +kernel
theorem dX3_records_32 : decode cX3_records 32 = .ok (.iastore, 1) := by decide +kernel
theorem dX3_records_33 : decode cX3_records 33 = .ok (.iinc 1 1, 3) := by decide +kernel
theorem dX3_records_36 : decode cX3_records 36 = .ok (.goto (-26), 3) := by decide +kernel
theorem dX3_records_39 : decode cX3_records 39 = .ok (.aload_n 0, 1) := by decide +kernel
theorem dX3_records_40 : decode cX3_records 40 = .ok (.dup, 1) := by decide +kernel
theorem dX3_records_41 : decode cX3_records 41 = .ok (.getfield 35, 3) := by decide +kernel
theorem dX3_records_44 : decode cX3_records 44 = .ok (.iconst 1, 1) := by decide +kernel
theorem dX3_records_45 : decode cX3_records 45 = .ok (.isub, 1) := by decide +kernel
theorem dX3_records_46 : decode cX3_records 46 = .ok (.putfield 35, 3) := by decide +kernel
theorem dX3_records_49 : decode cX3_records 49 = .ok (.iconst 0, 1) := by decide +kernel
theorem dX3_records_50 : decode cX3_records 50 = .ok (.istore_n 1, 1) := by decide +kernel
theorem dX3_records_51 : decode cX3_records 51 = .ok (.iload_n 1, 1) := by decide +kernel
theorem dX3_records_52 : decode cX3_records 52 = .ok (.sipush 159, 3) := by decide +kernel
theorem dX3_records_55 : decode cX3_records 55 = .ok (.if_icmp .ge 30, 3) := by decide +kernel
theorem dX3_records_58 : decode cX3_records 58 = .ok (.aload_n 0, 1) := by decide +kernel
theorem dX3_records_59 : decode cX3_records 59 = .ok (.getfield 13, 3) := by decide +kernel
theorem dX3_records_62 : decode cX3_records 62 = .ok (.sipush 159, 3) := by decide +kernel
theorem dX3_records_65 : decode cX3_records 65 = .ok (.aload_n 0, 1) := by decide +kernel
theorem dX3_records_66 : decode cX3_records 66 = .ok (.getfield 35, 3) := by decide +kernel
theorem dX3_records_69 : decode cX3_records 69 = .ok (.imul, 1) := by decide +kernel
theorem dX3_records_70 : decode cX3_records 70 = .ok (.iload_n 1, 1) := by decide +kernel
theorem dX3_records_71 : decode cX3_records 71 = .ok (.iadd, 1) := by decide +kernel
theorem dX3_records_72 : decode cX3_records 72 = .ok (.aload_n 0, 1) := by decide +kernel
theorem dX3_records_73 : decode cX3_records 73 = .ok (.getfield 7, 3) := by decide +kernel
theorem dX3_records_76 : decode cX3_records 76 = .ok (.iload_n 1, 1) := by decide +kernel
theorem dX3_records_77 : decode cX3_records 77 = .ok (.iaload, 1) := by decide +kernel
theorem dX3_records_78 : decode cX3_records 78 = .ok (.iastore, 1) := by decide +kernel
theorem dX3_records_79 : decode cX3_records 79 = .ok (.iinc 1 1, 3) := by decide +kernel
theorem dX3_records_82 : decode cX3_records 82 = .ok (.goto (-31), 3) := by decide +kernel
theorem dX3_records_85 : decode cX3_records 85 = .ok (.aload_n 0, 1) := by decide +kernel
theorem dX3_records_86 : decode cX3_records 86 = .ok (.dup, 1) := by decide +kernel
theorem dX3_records_87 : decode cX3_records 87 = .ok (.getfield 35, 3) := by decide +kernel
theorem dX3_records_90 : decode cX3_records 90 = .ok (.iconst 1, 1) := by decide +kernel
theorem dX3_records_91 : decode cX3_records 91 = .ok (.iadd, 1) := by decide +kernel
theorem dX3_records_92 : decode cX3_records 92 = .ok (.putfield 35, 3) := by decide +kernel
theorem dX3_records_95 : decode cX3_records 95 = .ok (.return_, 1) := by decide +kernel
theorem dX3_undo_0 : decode cX3_undo 0 = .ok (.aload_n 0, 1) := by decide +kernel
theorem dX3_undo_1 : decode cX3_undo 1 = .ok (.getfield 35, 3) := by decide +kernel
theorem dX3_undo_4 : decode cX3_undo 4 = .ok (.ifCond .ne 6, 3) := by decide +kernel
theorem dX3_undo_7 : decode cX3_undo 7 = .ok (.bipush (-2), 2) := by decide +kernel
theorem dX3_undo_9 : decode cX3_undo 9 = .ok (.ireturn, 1) := by decide +kernel
theorem dX3_undo_10 : decode cX3_undo 10 = .ok (.aload_n 0, 1) := by decide +kernel
theorem dX3_undo_11 : decode cX3_undo 11 = .ok (.dup, 1) := by decide +kernel
theorem dX3_undo_12 : decode cX3_undo 12 = .ok (.getfield 35, 3) := by decide +kernel
theorem dX3_undo_15 : decode cX3_undo 15 = .ok (.iconst 1, 1) := by decide +kernel
theorem dX3_undo_16 : decode cX3_undo 16 = .ok (.isub, 1) := by decide +kernel
theorem dX3_undo_17 : decode cX3_undo 17 = .ok (.putfield 35, 3) := by decide +kernel
theorem dX3_undo_20 : decode cX3_undo 20 = .ok (.iconst 0, 1) := by decide +kernel
theorem dX3_undo_21 : decode cX3_undo 21 = .ok (.istore_n 1, 1) := by decide +kernel
theorem dX3_undo_22 : decode cX3_undo 22 = .ok (.iload_n 1, 1) := by decide +kernel
theorem dX3_undo_23 : decode cX3_undo 23 = .ok (.sipush 159, 3) := by decide +kernel
theorem dX3_undo_26 : decode cX3_undo 26 = .ok (.if_icmp .ge 30, 3) := by decide +kernel
theorem dX3_undo_29 : decode cX3_undo 29 = .ok (.aload_n 0, 1) := by decide +kernel
theorem dX3_undo_30 : decode cX3_undo 30 = .ok (.getfield 7, 3) := by decide +kernel
theorem dX3_undo_33 : decode cX3_undo 33 = .ok (.iload_n 1, 1) := by decide +kernel
theorem dX3_undo_34 : decode cX3_undo 34 = .ok (.aload_n 0, 1) := by decide +kernel
theorem dX3_undo_35 : decode cX3_undo 35 = .ok (.getfield 13, 3) := by decide +kernel
theorem dX3_undo_38 : decode cX3_undo 38 = .ok (.sipush 159, 3) := by decide +kernel
theorem dX3_undo_41 : decode cX3_undo 41 = .ok (.aload_n 0, 1) := by decide +kernel
theorem dX3_undo_42 : decode cX3_undo 42 = .ok (.getfield 35, 3) := by decide +kernel
theorem dX3_undo_45 : decode cX3_undo 45 = .ok (.imul, 1) := by decide +kernel
theorem dX3_undo_46 : decode cX3_undo 46 = .ok (.iload_n 1, 1) := by decide +kernel
theorem dX3_undo_47 : decode cX3_undo 47 = .ok (.iadd, 1) := by decide +kernel
theorem dX3_undo_48 : decode cX3_undo 48 = .ok (.iaload, 1) := by decide +kernel
theorem dX3_undo_49 : decode cX3_undo 49 = .ok (.iastore, 1) := by decide +kernel
theorem dX3_undo_50 : decode cX3_undo 50 = .ok (.iinc 1 1, 3) := by decide +kernel
theorem dX3_undo_53 : decode cX3_undo 53 = .ok (.goto (-31), 3) := by decide +kernel
theorem dX3_undo_56 : decode cX3_undo 56 = .ok (.aload_n 0, 1) := by decide +kernel
theorem dX3_undo_57 : decode cX3_undo 57 = .ok (.getfield 35, 3) := by decide +kernel
theorem dX3_undo_60 : decode cX3_undo 60 = .ok (.ireturn, 1) := by decide +kernel
theorem dX3_laysAside_0 : decode cX3_laysAside 0 = .ok (.iconst 0, 1) := by decide +kernel
theorem dX3_laysAside_1 : decode cX3_laysAside 1 = .ok (.istore_n 1, 1) := by decide +kernel
theorem dX3_laysAside_2 : decode cX3_laysAside 2 = .ok (.iload_n 1, 1) := by decide +kernel
theorem dX3_laysAside_3 : decode cX3_laysAside 3 = .ok (.sipush 159, 3) := by decide +kernel
theorem dX3_laysAside_6 : decode cX3_laysAside 6 = .ok (.if_icmp .ge 21, 3) := by decide +kernel
theorem dX3_laysAside_9 : decode cX3_laysAside 9 = .ok (.aload_n 0, 1) := by decide +kernel
theorem dX3_laysAside_10 : decode cX3_laysAside 10 = .ok (.getfield 16, 3) := by decide +kernel
theorem dX3_laysAside_13 : decode cX3_laysAside 13 = .ok (.iload_n 1, 1) := by decide +kernel
theorem dX3_laysAside_14 : decode cX3_laysAside 14 = .ok (.aload_n 0, 1) := by decide +kernel
theorem dX3_laysAside_15 : decode cX3_laysAside 15 = .ok (.getfield 7, 3) := by decide +kernel
theorem dX3_laysAside_18 : decode cX3_laysAside 18 = .ok (.iload_n 1, 1) := by decide +kernel
theorem dX3_laysAside_19 : decode cX3_laysAside 19 = .ok (.iaload, 1) := by decide +kernel
theorem dX3_laysAside_20 : decode cX3_laysAside 20 = .ok (.iastore, 1) := by decide +kernel
theorem dX3_laysAside_21 : decode cX3_laysAside 21 = .ok (.iinc 1 1, 3) := by decide +kernel
theorem dX3_laysAside_24 : decode cX3_laysAside 24 = .ok (.goto (-22), 3) := by decide +kernel
theorem dX3_laysAside_27 : decode cX3_laysAside 27 = .ok (.return_, 1) := by decide +kernel
theorem dX3_bringsBack_0 : decode cX3_bringsBack 0 = .ok (.iconst 0, 1) := by decide +kernel
theorem dX3_bringsBack_1 : decode cX3_bringsBack 1 = .ok (.istore_n 1, 1) := by decide +kernel
theorem dX3_bringsBack_2 : decode cX3_bringsBack 2 = .ok (.iload_n 1, 1) := by decide +kernel
theorem dX3_bringsBack_3 : decode cX3_bringsBack 3 = .ok (.sipush 159, 3) := by decide +kernel
theorem dX3_bringsBack_6 : decode cX3_bringsBack 6 = .ok (.if_icmp .ge 21, 3) := by decide +kernel
theorem dX3_bringsBack_9 : decode cX3_bringsBack 9 = .ok (.aload_n 0, 1) := by decide +kernel
theorem dX3_bringsBack_10 : decode cX3_bringsBack 10 = .ok (.getfield 7, 3) := by decide +kernel
theorem dX3_bringsBack_13 : decode cX3_bringsBack 13 = .ok (.iload_n 1, 1) := by decide +kernel
theorem dX3_bringsBack_14 : decode cX3_bringsBack 14 = .ok (.aload_n 0, 1) := by decide +kernel
theorem dX3_bringsBack_15 : decode cX3_bringsBack 15 = .ok (.getfield 16, 3) := by decide +kernel
theorem dX3_bringsBack_18 : decode cX3_bringsBack 18 = .ok (.iload_n 1, 1) := by decide +kernel
theorem dX3_bringsBack_19 : decode cX3_bringsBack 19 = .ok (.iaload, 1) := by decide +kernel
theorem dX3_bringsBack_20 : decode cX3_bringsBack 20 = .ok (.iastore, 1) := by decide +kernel
theorem dX3_bringsBack_21 : decode cX3_bringsBack 21 = .ok (.iinc 1 1, 3) := by decide +kernel
theorem dX3_bringsBack_24 : decode cX3_bringsBack 24 = .ok (.goto (-22), 3) := by decide +kernel
theorem dX3_bringsBack_27 : decode cX3_bringsBack 27 = .ok (.return_, 1) := by decide +kernel
theorem dX3_lays_0 : decode cX3_lays 0 = .ok (.aload_n 0, 1) := by decide +kernel
theorem dX3_lays_1 : decode cX3_lays 1 = .ok (.getfield 7, 3) := by decide +kernel
theorem dX3_lays_4 : decode cX3_lays 4 = .ok (.iconst 0, 1) := by decide +kernel
theorem dX3_lays_5 : decode cX3_lays 5 = .ok (.iload_n 1, 1) := by decide +kernel
theorem dX3_lays_6 : decode cX3_lays 6 = .ok (.iadd, 1) := by decide +kernel
theorem dX3_lays_7 : decode cX3_lays 7 = .ok (.iload_n 2, 1) := by decide +kernel
theorem dX3_lays_8 : decode cX3_lays 8 = .ok (.iastore, 1) := by decide +kernel
theorem dX3_lays_9 : decode cX3_lays 9 = .ok (.aload_n 0, 1) := by decide +kernel
theorem dX3_lays_10 : decode cX3_lays 10 = .ok (.getfield 7, 3) := by decide +kernel
theorem dX3_lays_13 : decode cX3_lays 13 = .ok (.bipush 36, 2) := by decide +kernel
theorem dX3_lays_15 : decode cX3_lays 15 = .ok (.iload_n 1, 1) := by decide +kernel
theorem dX3_lays_16 : decode cX3_lays 16 = .ok (.iadd, 1) := by decide +kernel
theorem dX3_lays_17 : decode cX3_lays 17 = .ok (.iload_n 3, 1) := by decide +kernel
theorem dX3_lays_18 : decode cX3_lays 18 = .ok (.iastore, 1) := by decide +kernel
theorem dX3_lays_19 : decode cX3_lays 19 = .ok (.aload_n 0, 1) := by decide +kernel
theorem dX3_lays_20 : decode cX3_lays 20 = .ok (.getfield 7, 3) := by decide +kernel
theorem dX3_lays_23 : decode cX3_lays 23 = .ok (.bipush 72, 2) := by decide +kernel
theorem dX3_lays_25 : decode cX3_lays 25 = .ok (.iload_n 1, 1) := by decide +kernel
theorem dX3_lays_26 : decode cX3_lays 26 = .ok (.iadd, 1) := by decide +kernel
theorem dX3_lays_27 : decode cX3_lays 27 = .ok (.iload 4, 2) := by decide +kernel
theorem dX3_lays_29 : decode cX3_lays 29 = .ok (.iastore, 1) := by decide +kernel
theorem dX3_lays_30 : decode cX3_lays 30 = .ok (.return_, 1) := by decide +kernel
theorem dX3_springs_0 : decode cX3_springs 0 = .ok (.iconst 0, 1) := by decide +kernel
theorem dX3_springs_1 : decode cX3_springs 1 = .ok (.istore_n 2, 1) := by decide +kernel
theorem dX3_springs_2 : decode cX3_springs 2 = .ok (.iconst 0, 1) := by decide +kernel
theorem dX3_springs_3 : decode cX3_springs 3 = .ok (.istore_n 3, 1) := by decide +kernel
theorem dX3_springs_4 : decode cX3_springs 4 = .ok (.iload_n 3, 1) := by decide +kernel
theorem dX3_springs_5 : decode cX3_springs 5 = .ok (.bipush 36, 2) := by decide +kernel
theorem dX3_springs_7 : decode cX3_springs 7 = .ok (.if_icmp .ge 37, 3) := by decide +kernel
theorem dX3_springs_10 : decode cX3_springs 10 = .ok (.iload_n 2, 1) := by decide +kernel
theorem dX3_springs_11 : decode cX3_springs 11 = .ok (.aload_n 0, 1) := by decide +kernel
theorem dX3_springs_12 : decode cX3_springs 12 = .ok (.getfield 7, 3) := by decide +kernel
theorem dX3_springs_15 : decode cX3_springs 15 = .ok (.iconst 0, 1) := by decide +kernel
theorem dX3_springs_16 : decode cX3_springs 16 = .ok (.iload_n 3, 1) := by decide +kernel
theorem dX3_springs_17 : decode cX3_springs 17 = .ok (.iadd, 1) := by decide +kernel
theorem dX3_springs_18 : decode cX3_springs 18 = .ok (.iaload, 1) := by decide +kernel
theorem dX3_springs_19 : decode cX3_springs 19 = .ok (.iload_n 1, 1) := by decide +kernel
theorem dX3_springs_20 : decode cX3_springs 20 = .ok (.if_icmp .ne 15, 3) := by decide +kernel
theorem dX3_springs_23 : decode cX3_springs 23 = .ok (.aload_n 0, 1) := by decide +kernel
theorem dX3_springs_24 : decode cX3_springs 24 = .ok (.getfield 7, 3) := by decide +kernel
theorem dX3_springs_27 : decode cX3_springs 27 = .ok (.bipush 72, 2) := by decide +kernel
theorem dX3_springs_29 : decode cX3_springs 29 = .ok (.iload_n 3, 1) := by decide +kernel
theorem dX3_springs_30 : decode cX3_springs 30 = .ok (.iadd, 1) := by decide +kernel
theorem dX3_springs_31 : decode cX3_springs 31 = .ok (.iaload, 1) := by decide +kernel
theorem dX3_springs_32 : decode cX3_springs 32 = .ok (.goto 4, 3) := by decide +kernel
theorem dX3_springs_35 : decode cX3_springs 35 = .ok (.iconst 0, 1) := by decide +kernel
theorem dX3_springs_36 : decode cX3_springs 36 = .ok (.iadd, 1) := by decide +kernel
theorem dX3_springs_37 : decode cX3_springs 37 = .ok (.istore_n 2, 1) := by decide +kernel
theorem dX3_springs_38 : decode cX3_springs 38 = .ok (.iinc 3 1, 3) := by decide +kernel
theorem dX3_springs_41 : decode cX3_springs 41 = .ok (.goto (-37), 3) := by decide +kernel
theorem dX3_springs_44 : decode cX3_springs 44 = .ok (.iload_n 2, 1) := by decide +kernel
theorem dX3_springs_45 : decode cX3_springs 45 = .ok (.ireturn, 1) := by decide +kernel
theorem dX3_allSprings_0 : decode cX3_allSprings 0 = .ok (.aload_n 0, 1) := by decide +kernel
theorem dX3_allSprings_1 : decode cX3_allSprings 1 = .ok (.iconst 0, 1) := by decide +kernel
theorem dX3_allSprings_2 : decode cX3_allSprings 2 = .ok (.invokevirtual 39, 3) := by decide +kernel
theorem dX3_allSprings_5 : decode cX3_allSprings 5 = .ok (.aload_n 0, 1) := by decide +kernel
theorem dX3_allSprings_6 : decode cX3_allSprings 6 = .ok (.iconst 1, 1) := by decide +kernel
theorem dX3_allSprings_7 : decode cX3_allSprings 7 = .ok (.invokevirtual 39, 3) := by decide +kernel
theorem dX3_allSprings_10 : decode cX3_allSprings 10 = .ok (.iadd, 1) := by decide +kernel
theorem dX3_allSprings_11 : decode cX3_allSprings 11 = .ok (.ireturn, 1) := by decide +kernel
theorem dX3_begins_0 : decode cX3_begins 0 = .ok (.aload_n 0, 1) := by decide +kernel
theorem dX3_begins_1 : decode cX3_begins 1 = .ok (.getfield 7, 3) := by decide +kernel
theorem dX3_begins_4 : decode cX3_begins 4 = .ok (.sipush 149, 3) := by decide +kernel
theorem dX3_begins_7 : decode cX3_begins 7 = .ok (.iaload, 1) := by decide +kernel
theorem dX3_begins_8 : decode cX3_begins 8 = .ok (.iconst 2, 1) := by decide +kernel
theorem dX3_begins_9 : decode cX3_begins 9 = .ok (.idiv, 1) := by decide +kernel
theorem dX3_begins_10 : decode cX3_begins 10 = .ok (.istore_n 1, 1) := by decide +kernel
theorem dX3_begins_11 : decode cX3_begins 11 = .ok (.iconst 0, 1) := by decide +kernel
theorem dX3_begins_12 : decode cX3_begins 12 = .ok (.istore_n 2, 1) := by decide +kernel
theorem dX3_begins_13 : decode cX3_begins 13 = .ok (.iload_n 2, 1) := by decide +kernel
theorem dX3_begins_14 : decode cX3_begins 14 = .ok (.bipush 36, 2) := by decide +kernel
theorem dX3_begins_16 : decode cX3_begins 16 = .ok (.if_icmp .ge 64, 3) := by decide +kernel
theorem dX3_begins_19 : decode cX3_begins 19 = .ok (.aload_n 0, 1) := by decide +kernel
theorem dX3_begins_20 : decode cX3_begins 20 = .ok (.iload_n 2, 1) := by decide +kernel
theorem dX3_begins_21 : decode cX3_begins 21 = .ok (.iconst (-1), 1) := by decide +kernel
theorem dX3_begins_22 : decode cX3_begins 22 = .ok (.iconst 0, 1) := by decide +kernel
theorem dX3_begins_23 : decode cX3_begins 23 = .ok (.iconst 0, 1) := by decide +kernel
theorem dX3_begins_24 : decode cX3_begins 24 = .ok (.invokevirtual 43, 3) := by decide +kernel
theorem dX3_begins_27 : decode cX3_begins 27 = .ok (.aload_n 0, 1) := by decide +kernel
theorem dX3_begins_28 : decode cX3_begins 28 = .ok (.getfield 7, 3) := by decide +kernel
theorem dX3_begins_31 : decode cX3_begins 31 = .ok (.bipush 108, 2) := by decide +kernel
theorem dX3_begins_33 : decode cX3_begins 33 = .ok (.iload_n 2, 1) := by decide +kernel
theorem dX3_begins_34 : decode cX3_begins 34 = .ok (.iadd, 1) := by decide +kernel
theorem dX3_begins_35 : decode cX3_begins 35 = .ok (.iload_n 2, 1) := by decide +kernel
theorem dX3_begins_36 : decode cX3_begins 36 = .ok (.ifCond .eq 32, 3) := by decide +kernel
theorem dX3_begins_39 : decode cX3_begins 39 = .ok (.iload_n 2, 1) := by decide +kernel
theorem dX3_begins_40 : decode cX3_begins 40 = .ok (.iconst 5, 1) := by decide +kernel
theorem dX3_begins_41 : decode cX3_begins 41 = .ok (.if_icmp .eq 27, 3) := by decide +kernel
theorem dX3_begins_44 : decode cX3_begins 44 = .ok (.iload_n 2, 1) := by decide +kernel
theorem dX3_begins_45 : decode cX3_begins 45 = .ok (.bipush 14, 2) := by decide +kernel
theorem dX3_begins_47 : decode cX3_begins 47 = .ok (.if_icmp .eq 21, 3) := by decide +kernel
theorem dX3_begins_50 : decode cX3_begins 50 = .ok (.iload_n 2, 1) := by decide +kernel
theorem dX3_begins_51 : decode cX3_begins 51 = .ok (.bipush 21, 2) := by decide +kernel
theorem dX3_begins_53 : decode cX3_begins 53 = .ok (.if_icmp .eq 15, 3) := by decide +kernel
theorem dX3_begins_56 : decode cX3_begins 56 = .ok (.iload_n 2, 1) := by decide +kernel
theorem dX3_begins_57 : decode cX3_begins 57 = .ok (.bipush 30, 2) := by decide +kernel
theorem dX3_begins_59 : decode cX3_begins 59 = .ok (.if_icmp .eq 9, 3) := by decide +kernel
theorem dX3_begins_62 : decode cX3_begins 62 = .ok (.iload_n 2, 1) := by decide +kernel
theorem dX3_begins_63 : decode cX3_begins 63 = .ok (.bipush 35, 2) := by decide +kernel
theorem dX3_begins_65 : decode cX3_begins 65 = .ok (.if_icmp .ne 7, 3) := by decide +kernel
theorem dX3_begins_68 : decode cX3_begins 68 = .ok (.iconst 1, 1) := by decide +kernel
theorem dX3_begins_69 : decode cX3_begins 69 = .ok (.goto 4, 3) := by decide +kernel
theorem dX3_begins_72 : decode cX3_begins 72 = .ok (.iconst 0, 1) := by decide +kernel
theorem dX3_begins_73 : decode cX3_begins 73 = .ok (.iastore, 1) := by decide +kernel
theorem dX3_begins_74 : decode cX3_begins 74 = .ok (.iinc 2 1, 3) := by decide +kernel
theorem dX3_begins_77 : decode cX3_begins 77 = .ok (.goto (-64), 3) := by decide +kernel
theorem dX3_begins_80 : decode cX3_begins 80 = .ok (.iconst 0, 1) := by decide +kernel
theorem dX3_begins_81 : decode cX3_begins 81 = .ok (.istore_n 2, 1) := by decide +kernel
theorem dX3_begins_82 : decode cX3_begins 82 = .ok (.iload_n 2, 1) := by decide +kernel
theorem dX3_begins_83 : decode cX3_begins 83 = .ok (.bipush 6, 2) := by decide +kernel
theorem dX3_begins_85 : decode cX3_begins 85 = .ok (.if_icmp .ge 83, 3) := by decide +kernel
theorem dX3_begins_88 : decode cX3_begins 88 = .ok (.iload_n 2, 1) := by decide +kernel
theorem dX3_begins_89 : decode cX3_begins 89 = .ok (.ifCond .eq 8, 3) := by decide +kernel
theorem dX3_begins_92 : decode cX3_begins 92 = .ok (.iload_n 2, 1) := by decide +kernel
theorem dX3_begins_93 : decode cX3_begins 93 = .ok (.iconst 5, 1) := by decide +kernel
theorem dX3_begins_94 : decode cX3_begins 94 = .ok (.if_icmp .ne 7, 3) := by decide +kernel
theorem dX3_begins_97 : decode cX3_begins 97 = .ok (.iconst 1, 1) := by decide +kernel
theorem dX3_begins_98 : decode cX3_begins 98 = .ok (.goto 22, 3) := by decide +kernel
theorem dX3_begins_101 : decode cX3_begins 101 = .ok (.iload_n 2, 1) := by decide +kernel
theorem dX3_begins_102 : decode cX3_begins 102 = .ok (.iconst 2, 1) := by decide +kernel
theorem dX3_begins_103 : decode cX3_begins 103 = .ok (.if_icmp .ne 7, 3) := by decide +kernel
theorem dX3_begins_106 : decode cX3_begins 106 = .ok (.iconst 0, 1) := by decide +kernel
theorem dX3_begins_107 : decode cX3_begins 107 = .ok (.goto 13, 3) := by decide +kernel
theorem dX3_begins_110 : decode cX3_begins 110 = .ok (.iload_n 2, 1) := by decide +kernel
theorem dX3_begins_111 : decode cX3_begins 111 = .ok (.iconst 3, 1) := by decide +kernel
theorem dX3_begins_112 : decode cX3_begins 112 = .ok (.if_icmp .ne 7, 3) := by decide +kernel
theorem dX3_begins_115 : decode cX3_begins 115 = .ok (.iconst 2, 1) := by decide +kernel
theorem dX3_begins_116 : decode cX3_begins 116 = .ok (.goto 4, 3) := by decide +kernel
theorem dX3_begins_119 : decode cX3_begins 119 = .ok (.iconst 3, 1) := by decide +kernel
theorem dX3_begins_120 : decode cX3_begins 120 = .ok (.istore_n 3, 1) := by decide +kernel
theorem dX3_begins_121 : decode cX3_begins 121 = .ok (.aload_n 0, 1) := by decide +kernel
theorem dX3_begins_122 : decode cX3_begins 122 = .ok (.iload_n 2, 1) := by decide +kernel
theorem dX3_begins_123 : decode cX3_begins 123 = .ok (.iconst 0, 1) := by decide +kernel
theorem dX3_begins_124 : decode cX3_begins 124 = .ok (.iload_n 3, 1) := by decide +kernel
theorem dX3_begins_125 : decode cX3_begins 125 = .ok (.iload_n 1, 1) := by decide +kernel
theorem dX3_begins_126 : decode cX3_begins 126 = .ok (.invokevirtual 43, 3) := by decide +kernel
theorem dX3_begins_129 : decode cX3_begins 129 = .ok (.aload_n 0, 1) := by decide +kernel
theorem dX3_begins_130 : decode cX3_begins 130 = .ok (.bipush 6, 2) := by decide +kernel
theorem dX3_begins_132 : decode cX3_begins 132 = .ok (.iload_n 2, 1) := by decide +kernel
theorem dX3_begins_133 : decode cX3_begins 133 = .ok (.iadd, 1) := by decide +kernel
theorem dX3_begins_134 : decode cX3_begins 134 = .ok (.iconst 0, 1) := by decide +kernel
theorem dX3_begins_135 : decode cX3_begins 135 = .ok (.iconst 4, 1) := by decide +kernel
theorem dX3_begins_136 : decode cX3_begins 136 = .ok (.iload_n 1, 1) := by decide +kernel
theorem dX3_begins_137 : decode cX3_begins 137 = .ok (.invokevirtual 43, 3) := by decide +kernel
theorem dX3_begins_140 : decode cX3_begins 140 = .ok (.aload_n 0, 1) := by decide +kernel
theorem dX3_begins_141 : decode cX3_begins 141 = .ok (.bipush 30, 2) := by decide +kernel
theorem dX3_begins_143 : decode cX3_begins 143 = .ok (.iload_n 2, 1) := by decide +kernel
theorem dX3_begins_144 : decode cX3_begins 144 = .ok (.iadd, 1) := by decide +kernel
theorem dX3_begins_145 : decode cX3_begins 145 = .ok (.iconst 1, 1) := by decide +kernel
theorem dX3_begins_146 : decode cX3_begins 146 = .ok (.iload_n 3, 1) := by decide +kernel
theorem dX3_begins_147 : decode cX3_begins 147 = .ok (.iload_n 1, 1) := by decide +kernel
theorem dX3_begins_148 : decode cX3_begins 148 = .ok (.invokevirtual 43, 3) := by decide +kernel
theorem dX3_begins_151 : decode cX3_begins 151 = .ok (.aload_n 0, 1) := by decide +kernel
theorem dX3_begins_152 : decode cX3_begins 152 = .ok (.bipush 24, 2) := by decide +kernel
theorem dX3_begins_154 : decode cX3_begins 154 = .ok (.iload_n 2, 1) := by decide +kernel
theorem dX3_begins_155 : decode cX3_begins 155 = .ok (.iadd, 1) := by decide +kernel
theorem dX3_begins_156 : decode cX3_begins 156 = .ok (.iconst 1, 1) := by decide +kernel
theorem dX3_begins_157 : decode cX3_begins 157 = .ok (.iconst 4, 1) := by decide +kernel
theorem dX3_begins_158 : decode cX3_begins 158 = .ok (.iload_n 1, 1) := by decide +kernel
theorem dX3_begins_159 : decode cX3_begins 159 = .ok (.invokevirtual 43, 3) := by decide +kernel
theorem dX3_begins_162 : decode cX3_begins 162 = .ok (.iinc 2 1, 3) := by decide +kernel
theorem dX3_begins_165 : decode cX3_begins 165 = .ok (.goto (-83), 3) := by decide +kernel
theorem dX3_begins_168 : decode cX3_begins 168 = .ok (.aload_n 0, 1) := by decide +kernel
theorem dX3_begins_169 : decode cX3_begins 169 = .ok (.getfield 7, 3) := by decide +kernel
theorem dX3_begins_172 : decode cX3_begins 172 = .ok (.sipush 144, 3) := by decide +kernel
theorem dX3_begins_175 : decode cX3_begins 175 = .ok (.iconst 0, 1) := by decide +kernel
theorem dX3_begins_176 : decode cX3_begins 176 = .ok (.iastore, 1) := by decide +kernel
theorem dX3_begins_177 : decode cX3_begins 177 = .ok (.aload_n 0, 1) := by decide +kernel
theorem dX3_begins_178 : decode cX3_begins 178 = .ok (.getfield 7, 3) := by decide +kernel
theorem dX3_begins_181 : decode cX3_begins 181 = .ok (.sipush 145, 3) := by decide +kernel
theorem dX3_begins_184 : decode cX3_begins 184 = .ok (.iconst 0, 1) := by decide +kernel
theorem dX3_begins_185 : decode cX3_begins 185 = .ok (.iastore, 1) := by decide +kernel
theorem dX3_begins_186 : decode cX3_begins 186 = .ok (.aload_n 0, 1) := by decide +kernel
theorem dX3_begins_187 : decode cX3_begins 187 = .ok (.getfield 7, 3) := by decide +kernel
theorem dX3_begins_190 : decode cX3_begins 190 = .ok (.sipush 146, 3) := by decide +kernel
theorem dX3_begins_193 : decode cX3_begins 193 = .ok (.iconst (-1), 1) := by decide +kernel
theorem dX3_begins_194 : decode cX3_begins 194 = .ok (.iastore, 1) := by decide +kernel
theorem dX3_begins_195 : decode cX3_begins 195 = .ok (.aload_n 0, 1) := by decide +kernel
theorem dX3_begins_196 : decode cX3_begins 196 = .ok (.getfield 7, 3) := by decide +kernel
theorem dX3_begins_199 : decode cX3_begins 199 = .ok (.sipush 147, 3) := by decide +kernel
theorem dX3_begins_202 : decode cX3_begins 202 = .ok (.iconst 0, 1) := by decide +kernel
theorem dX3_begins_203 : decode cX3_begins 203 = .ok (.iastore, 1) := by decide +kernel
theorem dX3_begins_204 : decode cX3_begins 204 = .ok (.aload_n 0, 1) := by decide +kernel
theorem dX3_begins_205 : decode cX3_begins 205 = .ok (.getfield 7, 3) := by decide +kernel
theorem dX3_begins_208 : decode cX3_begins 208 = .ok (.sipush 148, 3) := by decide +kernel
theorem dX3_begins_211 : decode cX3_begins 211 = .ok (.iconst 0, 1) := by decide +kernel
theorem dX3_begins_212 : decode cX3_begins 212 = .ok (.iastore, 1) := by decide +kernel
theorem dX3_begins_213 : decode cX3_begins 213 = .ok (.iconst 0, 1) := by decide +kernel
theorem dX3_begins_214 : decode cX3_begins 214 = .ok (.istore_n 2, 1) := by decide +kernel
theorem dX3_begins_215 : decode cX3_begins 215 = .ok (.iload_n 2, 1) := by decide +kernel
theorem dX3_begins_216 : decode cX3_begins 216 = .ok (.bipush 7, 2) := by decide +kernel
theorem dX3_begins_218 : decode cX3_begins 218 = .ok (.if_icmp .ge 20, 3) := by decide +kernel
theorem dX3_begins_221 : decode cX3_begins 221 = .ok (.aload_n 0, 1) := by decide +kernel
theorem dX3_begins_222 : decode cX3_begins 222 = .ok (.getfield 7, 3) := by decide +kernel
theorem dX3_begins_225 : decode cX3_begins 225 = .ok (.sipush 152, 3) := by decide +kernel
theorem dX3_begins_228 : decode cX3_begins 228 = .ok (.iload_n 2, 1) := by decide +kernel
theorem dX3_begins_229 : decode cX3_begins 229 = .ok (.iadd, 1) := by decide +kernel
theorem dX3_begins_230 : decode cX3_begins 230 = .ok (.iconst 0, 1) := by decide +kernel
theorem dX3_begins_231 : decode cX3_begins 231 = .ok (.iastore, 1) := by decide +kernel
theorem dX3_begins_232 : decode cX3_begins 232 = .ok (.iinc 2 1, 3) := by decide +kernel
theorem dX3_begins_235 : decode cX3_begins 235 = .ok (.goto (-20), 3) := by decide +kernel
theorem dX3_begins_238 : decode cX3_begins 238 = .ok (.aload_n 0, 1) := by decide +kernel
theorem dX3_begins_239 : decode cX3_begins 239 = .ok (.getfield 7, 3) := by decide +kernel
theorem dX3_begins_242 : decode cX3_begins 242 = .ok (.sipush 152, 3) := by decide +kernel
theorem dX3_begins_245 : decode cX3_begins 245 = .ok (.aload_n 0, 1) := by decide +kernel
theorem dX3_begins_246 : decode cX3_begins 246 = .ok (.invokevirtual 47, 3) := by decide +kernel
theorem dX3_begins_249 : decode cX3_begins 249 = .ok (.iastore, 1) := by decide +kernel
theorem dX3_begins_250 : decode cX3_begins 250 = .ok (.return_, 1) := by decide +kernel
theorem dX3_setUp_0 : decode cX3_setUp 0 = .ok (.aload_n 0, 1) := by decide +kernel
theorem dX3_setUp_1 : decode cX3_setUp 1 = .ok (.invokevirtual 51, 3) := by decide +kernel
theorem dX3_setUp_4 : decode cX3_setUp 4 = .ok (.aload_n 0, 1) := by decide +kernel
theorem dX3_setUp_5 : decode cX3_setUp 5 = .ok (.invokevirtual 28, 3) := by decide +kernel
theorem dX3_setUp_8 : decode cX3_setUp 8 = .ok (.aload_n 0, 1) := by decide +kernel
theorem dX3_setUp_9 : decode cX3_setUp 9 = .ok (.invokevirtual 47, 3) := by decide +kernel
theorem dX3_setUp_12 : decode cX3_setUp 12 = .ok (.ireturn, 1) := by decide +kernel
theorem dX3_canBe_0 : decode cX3_canBe 0 = .ok (.iload_n 0, 1) := by decide +kernel
theorem dX3_canBe_1 : decode cX3_canBe 1 = .ok (.ifCond .ne 13, 3) := by decide +kernel
theorem dX3_canBe_4 : decode cX3_canBe 4 = .ok (.iload_n 1, 1) := by decide +kernel
theorem dX3_canBe_5 : decode cX3_canBe 5 = .ok (.iconst 1, 1) := by decide +kernel
theorem dX3_canBe_6 : decode cX3_canBe 6 = .ok (.bipush 12, 2) := by decide +kernel
theorem dX3_canBe_8 : decode cX3_canBe 8 = .ok (.invokestatic 31, 3) := by decide +kernel
theorem dX3_canBe_11 : decode cX3_canBe 11 = .ok (.goto 26, 3) := by decide +kernel
theorem dX3_canBe_14 : decode cX3_canBe 14 = .ok (.iload_n 0, 1) := by decide +kernel
theorem dX3_canBe_15 : decode cX3_canBe 15 = .ok (.iconst 1, 1) := by decide +kernel
theorem dX3_canBe_16 : decode cX3_canBe 16 = .ok (.iconst 2, 1) := by decide +kernel
theorem dX3_canBe_17 : decode cX3_canBe 17 = .ok (.invokestatic 31, 3) := by decide +kernel
theorem dX3_canBe_20 : decode cX3_canBe 20 = .ok (.ifCond .eq 16, 3) := by decide +kernel
theorem dX3_canBe_23 : decode cX3_canBe 23 = .ok (.iload_n 1, 1) := by decide +kernel
theorem dX3_canBe_24 : decode cX3_canBe 24 = .ok (.iconst 0, 1) := by decide +kernel
theorem dX3_canBe_25 : decode cX3_canBe 25 = .ok (.iconst 5, 1) := by decide +kernel
theorem dX3_canBe_26 : decode cX3_canBe 26 = .ok (.invokestatic 31, 3) := by decide +kernel
theorem dX3_canBe_29 : decode cX3_canBe 29 = .ok (.ifCond .eq 7, 3) := by decide +kernel
theorem dX3_canBe_32 : decode cX3_canBe 32 = .ok (.iconst 1, 1) := by decide +kernel
theorem dX3_canBe_33 : decode cX3_canBe 33 = .ok (.goto 4, 3) := by decide +kernel
theorem dX3_canBe_36 : decode cX3_canBe 36 = .ok (.iconst 0, 1) := by decide +kernel
theorem dX3_canBe_37 : decode cX3_canBe 37 = .ok (.ireturn, 1) := by decide +kernel
theorem dX3_set_0 : decode cX3_set 0 = .ok (.iload_n 1, 1) := by decide +kernel
theorem dX3_set_1 : decode cX3_set 1 = .ok (.iload_n 2, 1) := by decide +kernel
theorem dX3_set_2 : decode cX3_set 2 = .ok (.invokestatic 54, 3) := by decide +kernel
theorem dX3_set_5 : decode cX3_set 5 = .ok (.ifCond .ne 5, 3) := by decide +kernel
theorem dX3_set_8 : decode cX3_set 8 = .ok (.iconst (-1), 1) := by decide +kernel
theorem dX3_set_9 : decode cX3_set 9 = .ok (.ireturn, 1) := by decide +kernel
theorem dX3_set_10 : decode cX3_set 10 = .ok (.aload_n 0, 1) := by decide +kernel
theorem dX3_set_11 : decode cX3_set 11 = .ok (.invokevirtual 51, 3) := by decide +kernel
theorem dX3_set_14 : decode cX3_set 14 = .ok (.aload_n 0, 1) := by decide +kernel
theorem dX3_set_15 : decode cX3_set 15 = .ok (.getfield 7, 3) := by decide +kernel
theorem dX3_set_18 : decode cX3_set 18 = .ok (.sipush 149, 3) := by decide +kernel
theorem dX3_set_21 : decode cX3_set 21 = .ok (.iload_n 1, 1) := by decide +kernel
theorem dX3_set_22 : decode cX3_set 22 = .ok (.iadd, 1) := by decide +kernel
theorem dX3_set_23 : decode cX3_set 23 = .ok (.iaload, 1) := by decide +kernel
theorem dX3_set_24 : decode cX3_set 24 = .ok (.istore_n 3, 1) := by decide +kernel
theorem dX3_set_25 : decode cX3_set 25 = .ok (.aload_n 0, 1) := by decide +kernel
theorem dX3_set_26 : decode cX3_set 26 = .ok (.getfield 7, 3) := by decide +kernel
theorem dX3_set_29 : decode cX3_set 29 = .ok (.sipush 149, 3) := by decide +kernel
theorem dX3_set_32 : decode cX3_set 32 = .ok (.iload_n 1, 1) := by decide +kernel
theorem dX3_set_33 : decode cX3_set 33 = .ok (.iadd, 1) := by decide +kernel
theorem dX3_set_34 : decode cX3_set 34 = .ok (.iload_n 2, 1) := by decide +kernel
theorem dX3_set_35 : decode cX3_set 35 = .ok (.iastore, 1) := by decide +kernel
theorem dX3_set_36 : decode cX3_set 36 = .ok (.iconst 0, 1) := by decide +kernel
theorem dX3_set_37 : decode cX3_set 37 = .ok (.istore 4, 2) := by decide +kernel
theorem dX3_set_39 : decode cX3_set 39 = .ok (.iload 4, 2) := by decide +kernel
theorem dX3_set_41 : decode cX3_set 41 = .ok (.bipush 36, 2) := by decide +kernel
theorem dX3_set_43 : decode cX3_set 43 = .ok (.if_icmp .ge 63, 3) := by decide +kernel
theorem dX3_set_46 : decode cX3_set 46 = .ok (.aload_n 0, 1) := by decide +kernel
theorem dX3_set_47 : decode cX3_set 47 = .ok (.getfield 7, 3) := by decide +kernel
theorem dX3_set_50 : decode cX3_set 50 = .ok (.bipush 72, 2) := by decide +kernel
theorem dX3_set_52 : decode cX3_set 52 = .ok (.iload 4, 2) := by decide +kernel
theorem dX3_set_54 : decode cX3_set 54 = .ok (.iadd, 1) := by decide +kernel
theorem dX3_set_55 : decode cX3_set 55 = .ok (.iaload, 1) := by decide +kernel
theorem dX3_set_56 : decode cX3_set 56 = .ok (.aload_n 0, 1) := by decide +kernel
theorem dX3_set_57 : decode cX3_set 57 = .ok (.getfield 7, 3) := by decide +kernel
theorem dX3_set_60 : decode cX3_set 60 = .ok (.sipush 149, 3) := by decide +kernel
theorem dX3_set_63 : decode cX3_set 63 = .ok (.iaload, 1) := by decide +kernel
theorem dX3_set_64 : decode cX3_set 64 = .ok (.isub, 1) := by decide +kernel
theorem dX3_set_65 : decode cX3_set 65 = .ok (.istore 5, 2) := by decide +kernel
theorem dX3_set_67 : decode cX3_set 67 = .ok (.iload 5, 2) := by decide +kernel
theorem dX3_set_69 : decode cX3_set 69 = .ok (.ifCond .le 31, 3) := by decide +kernel
theorem dX3_set_72 : decode cX3_set 72 = .ok (.aload_n 0, 1) := by decide +kernel
theorem dX3_set_73 : decode cX3_set 73 = .ok (.getfield 7, 3) := by decide +kernel
theorem dX3_set_76 : decode cX3_set 76 = .ok (.bipush 72, 2) := by decide +kernel
theorem dX3_set_78 : decode cX3_set 78 = .ok (.iload 4, 2) := by decide +kernel
theorem dX3_set_80 : decode cX3_set 80 = .ok (.iadd, 1) := by decide +kernel
theorem dX3_set_81 : decode cX3_set 81 = .ok (.dup2, 1) := by decide +kernel
theorem dX3_set_82 : decode cX3_set 82 = .ok (.iaload, 1) := by decide +kernel
theorem dX3_set_83 : decode cX3_set 83 = .ok (.iload 5, 2) := by decide +kernel
theorem dX3_set_85 : decode cX3_set 85 = .ok (.isub, 1) := by decide +kernel
theorem dX3_set_86 : decode cX3_set 86 = .ok (.iastore, 1) := by decide +kernel
theorem dX3_set_87 : decode cX3_set 87 = .ok (.aload_n 0, 1) := by decide +kernel
theorem dX3_set_88 : decode cX3_set 88 = .ok (.getfield 7, 3) := by decide +kernel
theorem dX3_set_91 : decode cX3_set 91 = .ok (.sipush 158, 3) := by decide +kernel
theorem dX3_set_94 : decode cX3_set 94 = .ok (.dup2, 1) := by decide +kernel
theorem dX3_set_95 : decode cX3_set 95 = .ok (.iaload, 1) := by decide +kernel
theorem dX3_set_96 : decode cX3_set 96 = .ok (.iload 5, 2) := by decide +kernel
theorem dX3_set_98 : decode cX3_set 98 = .ok (.isub, 1) := by decide +kernel
theorem dX3_set_99 : decode cX3_set 99 = .ok (.iastore, 1) := by decide +kernel
theorem dX3_set_100 : decode cX3_set 100 = .ok (.iinc 4 1, 3) := by decide +kernel
theorem dX3_set_103 : decode cX3_set 103 = .ok (.goto (-64), 3) := by decide +kernel
theorem dX3_set_106 : decode cX3_set 106 = .ok (.iload_n 3, 1) := by decide +kernel
theorem dX3_set_107 : decode cX3_set 107 = .ok (.ireturn, 1) := by decide +kernel
theorem dX3_put_0 : decode cX3_put 0 = .ok (.iload_n 1, 1) := by decide +kernel
theorem dX3_put_1 : decode cX3_put 1 = .ok (.invokestatic 58, 3) := by decide +kernel
theorem dX3_put_4 : decode cX3_put 4 = .ok (.ifCond .eq 38, 3) := by decide +kernel
theorem dX3_put_7 : decode cX3_put 7 = .ok (.iload_n 2, 1) := by decide +kernel
theorem dX3_put_8 : decode cX3_put 8 = .ok (.iconst (-1), 1) := by decide +kernel
theorem dX3_put_9 : decode cX3_put 9 = .ok (.iconst 1, 1) := by decide +kernel
theorem dX3_put_10 : decode cX3_put 10 = .ok (.invokestatic 31, 3) := by decide +kernel
theorem dX3_put_13 : decode cX3_put 13 = .ok (.ifCond .eq 29, 3) := by decide +kernel
theorem dX3_put_16 : decode cX3_put 16 = .ok (.iload_n 3, 1) := by decide +kernel
theorem dX3_put_17 : decode cX3_put 17 = .ok (.iconst 0, 1) := by decide +kernel
theorem dX3_put_18 : decode cX3_put 18 = .ok (.iconst 4, 1) := by decide +kernel
theorem dX3_put_19 : decode cX3_put 19 = .ok (.invokestatic 31, 3) := by decide +kernel
theorem dX3_put_22 : decode cX3_put 22 = .ok (.ifCond .eq 20, 3) := by decide +kernel
theorem dX3_put_25 : decode cX3_put 25 = .ok (.iload 4, 2) := by decide +kernel
theorem dX3_put_27 : decode cX3_put 27 = .ok (.iconst 0, 1) := by decide +kernel
theorem dX3_put_28 : decode cX3_put 28 = .ok (.aload_n 0, 1) := by decide +kernel
theorem dX3_put_29 : decode cX3_put 29 = .ok (.getfield 7, 3) := by decide +kernel
theorem dX3_put_32 : decode cX3_put 32 = .ok (.sipush 149, 3) := by decide +kernel
theorem dX3_put_35 : decode cX3_put 35 = .ok (.iaload, 1) := by decide +kernel
theorem dX3_put_36 : decode cX3_put 36 = .ok (.invokestatic 31, 3) := by decide +kernel
theorem dX3_put_39 : decode cX3_put 39 = .ok (.ifCond .ne 5, 3) := by decide +kernel
theorem dX3_put_42 : decode cX3_put 42 = .ok (.iconst (-1), 1) := by decide +kernel
theorem dX3_put_43 : decode cX3_put 43 = .ok (.ireturn, 1) := by decide +kernel
theorem dX3_put_44 : decode cX3_put 44 = .ok (.aload_n 0, 1) := by decide +kernel
theorem dX3_put_45 : decode cX3_put 45 = .ok (.getfield 7, 3) := by decide +kernel
theorem dX3_put_48 : decode cX3_put 48 = .ok (.sipush 145, 3) := by decide +kernel
theorem dX3_put_51 : decode cX3_put 51 = .ok (.iaload, 1) := by decide +kernel
theorem dX3_put_52 : decode cX3_put 52 = .ok (.ifCond .le 6, 3) := by decide +kernel
theorem dX3_put_55 : decode cX3_put 55 = .ok (.bipush (-2), 2) := by decide +kernel
theorem dX3_put_57 : decode cX3_put 57 = .ok (.ireturn, 1) := by decide +kernel
theorem dX3_put_58 : decode cX3_put 58 = .ok (.aload_n 0, 1) := by decide +kernel
theorem dX3_put_59 : decode cX3_put 59 = .ok (.invokevirtual 51, 3) := by decide +kernel
theorem dX3_put_62 : decode cX3_put 62 = .ok (.aload_n 0, 1) := by decide +kernel
theorem dX3_put_63 : decode cX3_put 63 = .ok (.getfield 7, 3) := by decide +kernel
theorem dX3_put_66 : decode cX3_put 66 = .ok (.iconst 0, 1) := by decide +kernel
theorem dX3_put_67 : decode cX3_put 67 = .ok (.iload_n 1, 1) := by decide +kernel
theorem dX3_put_68 : decode cX3_put 68 = .ok (.iadd, 1) := by decide +kernel
theorem dX3_put_69 : decode cX3_put 69 = .ok (.iaload, 1) := by decide +kernel
theorem dX3_put_70 : decode cX3_put 70 = .ok (.iconst (-1), 1) := by decide +kernel
theorem dX3_put_71 : decode cX3_put 71 = .ok (.if_icmp .ne 7, 3) := by decide +kernel
theorem dX3_put_74 : decode cX3_put 74 = .ok (.iconst 0, 1) := by decide +kernel
theorem dX3_put_75 : decode cX3_put 75 = .ok (.goto 4, 3) := by decide +kernel
theorem dX3_put_78 : decode cX3_put 78 = .ok (.iconst 1, 1) := by decide +kernel
theorem dX3_put_79 : decode cX3_put 79 = .ok (.istore 5, 2) := by decide +kernel
theorem dX3_put_81 : decode cX3_put 81 = .ok (.aload_n 0, 1) := by decide +kernel
theorem dX3_put_82 : decode cX3_put 82 = .ok (.getfield 7, 3) := by decide +kernel
theorem dX3_put_85 : decode cX3_put 85 = .ok (.bipush 72, 2) := by decide +kernel
theorem dX3_put_87 : decode cX3_put 87 = .ok (.iload_n 1, 1) := by decide +kernel
theorem dX3_put_88 : decode cX3_put 88 = .ok (.iadd, 1) := by decide +kernel
theorem dX3_put_89 : decode cX3_put 89 = .ok (.iaload, 1) := by decide +kernel
theorem dX3_put_90 : decode cX3_put 90 = .ok (.istore 6, 2) := by decide +kernel
theorem dX3_put_92 : decode cX3_put 92 = .ok (.iload_n 2, 1) := by decide +kernel
theorem dX3_put_93 : decode cX3_put 93 = .ok (.iconst (-1), 1) := by decide +kernel
theorem dX3_put_94 : decode cX3_put 94 = .ok (.if_icmp .ne 14, 3) := by decide +kernel
theorem dX3_put_97 : decode cX3_put 97 = .ok (.aload_n 0, 1) := by decide +kernel
theorem dX3_put_98 : decode cX3_put 98 = .ok (.iload_n 1, 1) := by decide +kernel
theorem dX3_put_99 : decode cX3_put 99 = .ok (.iconst (-1), 1) := by decide +kernel
theorem dX3_put_100 : decode cX3_put 100 = .ok (.iconst 0, 1) := by decide +kernel
theorem dX3_put_101 : decode cX3_put 101 = .ok (.iconst 0, 1) := by decide +kernel
theorem dX3_put_102 : decode cX3_put 102 = .ok (.invokevirtual 43, 3) := by decide +kernel
theorem dX3_put_105 : decode cX3_put 105 = .ok (.goto 12, 3) := by decide +kernel
theorem dX3_put_108 : decode cX3_put 108 = .ok (.aload_n 0, 1) := by decide +kernel
theorem dX3_put_109 : decode cX3_put 109 = .ok (.iload_n 1, 1) := by decide +kernel
theorem dX3_put_110 : decode cX3_put 110 = .ok (.iload_n 2, 1) := by decide +kernel
theorem dX3_put_111 : decode cX3_put 111 = .ok (.iload_n 3, 1) := by decide +kernel
theorem dX3_put_112 : decode cX3_put 112 = .ok (.iload 4, 2) := by decide +kernel
theorem dX3_put_114 : decode cX3_put 114 = .ok (.invokevirtual 43, 3) := by decide +kernel
theorem dX3_put_117 : decode cX3_put 117 = .ok (.aload_n 0, 1) := by decide +kernel
theorem dX3_put_118 : decode cX3_put 118 = .ok (.getfield 7, 3) := by decide +kernel
theorem dX3_put_121 : decode cX3_put 121 = .ok (.sipush 158, 3) := by decide +kernel
theorem dX3_put_124 : decode cX3_put 124 = .ok (.dup2, 1) := by decide +kernel
theorem dX3_put_125 : decode cX3_put 125 = .ok (.iaload, 1) := by decide +kernel
theorem dX3_put_126 : decode cX3_put 126 = .ok (.aload_n 0, 1) := by decide +kernel
theorem dX3_put_127 : decode cX3_put 127 = .ok (.getfield 7, 3) := by decide +kernel
theorem dX3_put_130 : decode cX3_put 130 = .ok (.bipush 72, 2) := by decide +kernel
theorem dX3_put_132 : decode cX3_put 132 = .ok (.iload_n 1, 1) := by decide +kernel
theorem dX3_put_133 : decode cX3_put 133 = .ok (.iadd, 1) := by decide +kernel
theorem dX3_put_134 : decode cX3_put 134 = .ok (.iaload, 1) := by decide +kernel
theorem dX3_put_135 : decode cX3_put 135 = .ok (.iload 6, 2) := by decide +kernel
theorem dX3_put_137 : decode cX3_put 137 = .ok (.isub, 1) := by decide +kernel
theorem dX3_put_138 : decode cX3_put 138 = .ok (.iadd, 1) := by decide +kernel
theorem dX3_put_139 : decode cX3_put 139 = .ok (.iastore, 1) := by decide +kernel
theorem dX3_put_140 : decode cX3_put 140 = .ok (.iload 5, 2) := by decide +kernel
theorem dX3_put_142 : decode cX3_put 142 = .ok (.ireturn, 1) := by decide +kernel
theorem dX3_towers_0 : decode cX3_towers 0 = .ok (.iconst 0, 1) := by decide +kernel
theorem dX3_towers_1 : decode cX3_towers 1 = .ok (.istore_n 1, 1) := by decide +kernel
theorem dX3_towers_2 : decode cX3_towers 2 = .ok (.iconst 0, 1) := by decide +kernel
theorem dX3_towers_3 : decode cX3_towers 3 = .ok (.istore_n 2, 1) := by decide +kernel
theorem dX3_towers_4 : decode cX3_towers 4 = .ok (.iload_n 2, 1) := by decide +kernel
theorem dX3_towers_5 : decode cX3_towers 5 = .ok (.bipush 36, 2) := by decide +kernel
theorem dX3_towers_7 : decode cX3_towers 7 = .ok (.if_icmp .ge 21, 3) := by decide +kernel
theorem dX3_towers_10 : decode cX3_towers 10 = .ok (.iload_n 1, 1) := by decide +kernel
theorem dX3_towers_11 : decode cX3_towers 11 = .ok (.aload_n 0, 1) := by decide +kernel
theorem dX3_towers_12 : decode cX3_towers 12 = .ok (.getfield 7, 3) := by decide +kernel
theorem dX3_towers_15 : decode cX3_towers 15 = .ok (.bipush 108, 2) := by decide +kernel
theorem dX3_towers_17 : decode cX3_towers 17 = .ok (.iload_n 2, 1) := by decide +kernel
theorem dX3_towers_18 : decode cX3_towers 18 = .ok (.iadd, 1) := by decide +kernel
theorem dX3_towers_19 : decode cX3_towers 19 = .ok (.iaload, 1) := by decide +kernel
theorem dX3_towers_20 : decode cX3_towers 20 = .ok (.iadd, 1) := by decide +kernel
theorem dX3_towers_21 : decode cX3_towers 21 = .ok (.istore_n 1, 1) := by decide +kernel
theorem dX3_towers_22 : decode cX3_towers 22 = .ok (.iinc 2 1, 3) := by decide +kernel
theorem dX3_towers_25 : decode cX3_towers 25 = .ok (.goto (-21), 3) := by decide +kernel
theorem dX3_towers_28 : decode cX3_towers 28 = .ok (.iload_n 1, 1) := by decide +kernel
theorem dX3_towers_29 : decode cX3_towers 29 = .ok (.ireturn, 1) := by decide +kernel
theorem dX3_tower_0 : decode cX3_tower 0 = .ok (.iload_n 1, 1) := by decide +kernel
theorem dX3_tower_1 : decode cX3_tower 1 = .ok (.invokestatic 58, 3) := by decide +kernel
theorem dX3_tower_4 : decode cX3_tower 4 = .ok (.ifCond .ne 5, 3) := by decide +kernel
theorem dX3_tower_7 : decode cX3_tower 7 = .ok (.iconst (-1), 1) := by decide +kernel
theorem dX3_tower_8 : decode cX3_tower 8 = .ok (.ireturn, 1) := by decide +kernel
theorem dX3_tower_9 : decode cX3_tower 9 = .ok (.aload_n 0, 1) := by decide +kernel
theorem dX3_tower_10 : decode cX3_tower 10 = .ok (.getfield 7, 3) := by decide +kernel
theorem dX3_tower_13 : decode cX3_tower 13 = .ok (.bipush 108, 2) := by decide +kernel
theorem dX3_tower_15 : decode cX3_tower 15 = .ok (.iload_n 1, 1) := by decide +kernel
theorem dX3_tower_16 : decode cX3_tower 16 = .ok (.iadd, 1) := by decide +kernel
theorem dX3_tower_17 : decode cX3_tower 17 = .ok (.iaload, 1) := by decide +kernel
theorem dX3_tower_18 : decode cX3_tower 18 = .ok (.ifCond .ne 15, 3) := by decide +kernel
theorem dX3_tower_21 : decode cX3_tower 21 = .ok (.aload_n 0, 1) := by decide +kernel
theorem dX3_tower_22 : decode cX3_tower 22 = .ok (.invokevirtual 62, 3) := by decide +kernel
theorem dX3_tower_25 : decode cX3_tower 25 = .ok (.bipush 6, 2) := by decide +kernel
theorem dX3_tower_27 : decode cX3_tower 27 = .ok (.if_icmp .ne 6, 3) := by decide +kernel
theorem dX3_tower_30 : decode cX3_tower 30 = .ok (.bipush (-3), 2) := by decide +kernel
theorem dX3_tower_32 : decode cX3_tower 32 = .ok (.ireturn, 1) := by decide +kernel
theorem dX3_tower_33 : decode cX3_tower 33 = .ok (.aload_n 0, 1) := by decide +kernel
theorem dX3_tower_34 : decode cX3_tower 34 = .ok (.invokevirtual 51, 3) := by decide +kernel
theorem dX3_tower_37 : decode cX3_tower 37 = .ok (.aload_n 0, 1) := by decide +kernel
theorem dX3_tower_38 : decode cX3_tower 38 = .ok (.getfield 7, 3) := by decide +kernel
theorem dX3_tower_41 : decode cX3_tower 41 = .ok (.bipush 108, 2) := by decide +kernel
theorem dX3_tower_43 : decode cX3_tower 43 = .ok (.iload_n 1, 1) := by decide +kernel
theorem dX3_tower_44 : decode cX3_tower 44 = .ok (.iadd, 1) := by decide +kernel
theorem dX3_tower_45 : decode cX3_tower 45 = .ok (.iconst 1, 1) := by decide +kernel
theorem dX3_tower_46 : decode cX3_tower 46 = .ok (.aload_n 0, 1) := by decide +kernel
theorem dX3_tower_47 : decode cX3_tower 47 = .ok (.getfield 7, 3) := by decide +kernel
theorem dX3_tower_50 : decode cX3_tower 50 = .ok (.bipush 108, 2) := by decide +kernel
theorem dX3_tower_52 : decode cX3_tower 52 = .ok (.iload_n 1, 1) := by decide +kernel
theorem dX3_tower_53 : decode cX3_tower 53 = .ok (.iadd, 1) := by decide +kernel
theorem dX3_tower_54 : decode cX3_tower 54 = .ok (.iaload, 1) := by decide +kernel
theorem dX3_tower_55 : decode cX3_tower 55 = .ok (.isub, 1) := by decide +kernel
theorem dX3_tower_56 : decode cX3_tower 56 = .ok (.iastore, 1) := by decide +kernel
theorem dX3_tower_57 : decode cX3_tower 57 = .ok (.aload_n 0, 1) := by decide +kernel
theorem dX3_tower_58 : decode cX3_tower 58 = .ok (.invokevirtual 62, 3) := by decide +kernel
theorem dX3_tower_61 : decode cX3_tower 61 = .ok (.ireturn, 1) := by decide +kernel
theorem dX3_cell_0 : decode cX3_cell 0 = .ok (.iload_n 1, 1) := by decide +kernel
theorem dX3_cell_1 : decode cX3_cell 1 = .ok (.invokestatic 58, 3) := by decide +kernel
theorem dX3_cell_4 : decode cX3_cell 4 = .ok (.ifCond .eq 12, 3) := by decide +kernel
theorem dX3_cell_7 : decode cX3_cell 7 = .ok (.iload_n 2, 1) := by decide +kernel
theorem dX3_cell_8 : decode cX3_cell 8 = .ok (.iconst 0, 1) := by decide +kernel
theorem dX3_cell_9 : decode cX3_cell 9 = .ok (.iconst 4, 1) := by decide +kernel
theorem dX3_cell_10 : decode cX3_cell 10 = .ok (.invokestatic 31, 3) := by decide +kernel
theorem dX3_cell_13 : decode cX3_cell 13 = .ok (.ifCond .ne 5, 3) := by decide +kernel
theorem dX3_cell_16 : decode cX3_cell 16 = .ok (.iconst (-1), 1) := by decide +kernel
theorem dX3_cell_17 : decode cX3_cell 17 = .ok (.ireturn, 1) := by decide +kernel
theorem dX3_cell_18 : decode cX3_cell 18 = .ok (.iload_n 2, 1) := by decide +kernel
theorem dX3_cell_19 : decode cX3_cell 19 = .ok (.iconst 3, 1) := by decide +kernel
theorem dX3_cell_20 : decode cX3_cell 20 = .ok (.if_icmp .ne 13, 3) := by decide +kernel
theorem dX3_cell_23 : decode cX3_cell 23 = .ok (.aload_n 0, 1) := by decide +kernel
theorem dX3_cell_24 : decode cX3_cell 24 = .ok (.getfield 7, 3) := by decide +kernel
theorem dX3_cell_27 : decode cX3_cell 27 = .ok (.bipush 108, 2) := by decide +kernel
theorem dX3_cell_29 : decode cX3_cell 29 = .ok (.iload_n 1, 1) := by decide +kernel
theorem dX3_cell_30 : decode cX3_cell 30 = .ok (.iadd, 1) := by decide +kernel
theorem dX3_cell_31 : decode cX3_cell 31 = .ok (.iaload, 1) := by decide +kernel
theorem dX3_cell_32 : decode cX3_cell 32 = .ok (.ireturn, 1) := by decide +kernel
theorem dX3_cell_33 : decode cX3_cell 33 = .ok (.aload_n 0, 1) := by decide +kernel
theorem dX3_cell_34 : decode cX3_cell 34 = .ok (.getfield 7, 3) := by decide +kernel
theorem dX3_cell_37 : decode cX3_cell 37 = .ok (.iconst 0, 1) := by decide +kernel
theorem dX3_cell_38 : decode cX3_cell 38 = .ok (.iload_n 1, 1) := by decide +kernel
theorem dX3_cell_39 : decode cX3_cell 39 = .ok (.iadd, 1) := by decide +kernel
theorem dX3_cell_40 : decode cX3_cell 40 = .ok (.iaload, 1) := by decide +kernel
theorem dX3_cell_41 : decode cX3_cell 41 = .ok (.iconst (-1), 1) := by decide +kernel
theorem dX3_cell_42 : decode cX3_cell 42 = .ok (.if_icmp .ne 6, 3) := by decide +kernel
theorem dX3_cell_45 : decode cX3_cell 45 = .ok (.bipush (-4), 2) := by decide +kernel
theorem dX3_cell_47 : decode cX3_cell 47 = .ok (.ireturn, 1) := by decide +kernel
theorem dX3_cell_48 : decode cX3_cell 48 = .ok (.iload_n 2, 1) := by decide +kernel
theorem dX3_cell_49 : decode cX3_cell 49 = .ok (.ifCond .ne 14, 3) := by decide +kernel
theorem dX3_cell_52 : decode cX3_cell 52 = .ok (.aload_n 0, 1) := by decide +kernel
theorem dX3_cell_53 : decode cX3_cell 53 = .ok (.getfield 7, 3) := by decide +kernel
theorem dX3_cell_56 : decode cX3_cell 56 = .ok (.iconst 0, 1) := by decide +kernel
theorem dX3_cell_57 : decode cX3_cell 57 = .ok (.iload_n 1, 1) := by decide +kernel
theorem dX3_cell_58 : decode cX3_cell 58 = .ok (.iadd, 1) := by decide +kernel
theorem dX3_cell_59 : decode cX3_cell 59 = .ok (.iaload, 1) := by decide +kernel
theorem dX3_cell_60 : decode cX3_cell 60 = .ok (.goto 42, 3) := by decide +kernel
theorem dX3_cell_63 : decode cX3_cell 63 = .ok (.iload_n 2, 1) := by decide +kernel
theorem dX3_cell_64 : decode cX3_cell 64 = .ok (.iconst 1, 1) := by decide +kernel
theorem dX3_cell_65 : decode cX3_cell 65 = .ok (.if_icmp .ne 15, 3) := by decide +kernel
theorem dX3_cell_68 : decode cX3_cell 68 = .ok (.aload_n 0, 1) := by decide +kernel
theorem dX3_cell_69 : decode cX3_cell 69 = .ok (.getfield 7, 3) := by decide +kernel
theorem dX3_cell_72 : decode cX3_cell 72 = .ok (.bipush 36, 2) := by decide +kernel
theorem dX3_cell_74 : decode cX3_cell 74 = .ok (.iload_n 1, 1) := by decide +kernel
theorem dX3_cell_75 : decode cX3_cell 75 = .ok (.iadd, 1) := by decide +kernel
theorem dX3_cell_76 : decode cX3_cell 76 = .ok (.iaload, 1) := by decide +kernel
theorem dX3_cell_77 : decode cX3_cell 77 = .ok (.goto 25, 3) := by decide +kernel
theorem dX3_cell_80 : decode cX3_cell 80 = .ok (.iload_n 2, 1) := by decide +kernel
theorem dX3_cell_81 : decode cX3_cell 81 = .ok (.iconst 2, 1) := by decide +kernel
theorem dX3_cell_82 : decode cX3_cell 82 = .ok (.if_icmp .ne 15, 3) := by decide +kernel
theorem dX3_cell_85 : decode cX3_cell 85 = .ok (.aload_n 0, 1) := by decide +kernel
theorem dX3_cell_86 : decode cX3_cell 86 = .ok (.getfield 7, 3) := by decide +kernel
theorem dX3_cell_89 : decode cX3_cell 89 = .ok (.bipush 72, 2) := by decide +kernel
theorem dX3_cell_91 : decode cX3_cell 91 = .ok (.iload_n 1, 1) := by decide +kernel
theorem dX3_cell_92 : decode cX3_cell 92 = .ok (.iadd, 1) := by decide +kernel
theorem dX3_cell_93 : decode cX3_cell 93 = .ok (.iaload, 1) := by decide +kernel
theorem dX3_cell_94 : decode cX3_cell 94 = .ok (.goto 8, 3) := by decide +kernel
theorem dX3_cell_97 : decode cX3_cell 97 = .ok (.aload_n 0, 1) := by decide +kernel
theorem dX3_cell_98 : decode cX3_cell 98 = .ok (.iload_n 1, 1) := by decide +kernel
theorem dX3_cell_99 : decode cX3_cell 99 = .ok (.invokevirtual 65, 3) := by decide +kernel
theorem dX3_cell_102 : decode cX3_cell 102 = .ok (.ireturn, 1) := by decide +kernel
theorem dX3_pieces_0 : decode cX3_pieces 0 = .ok (.iconst 0, 1) := by decide +kernel
theorem dX3_pieces_1 : decode cX3_pieces 1 = .ok (.istore_n 1, 1) := by decide +kernel
theorem dX3_pieces_2 : decode cX3_pieces 2 = .ok (.iconst 0, 1) := by decide +kernel
theorem dX3_pieces_3 : decode cX3_pieces 3 = .ok (.istore_n 2, 1) := by decide +kernel
theorem dX3_pieces_4 : decode cX3_pieces 4 = .ok (.iload_n 2, 1) := by decide +kernel
theorem dX3_pieces_5 : decode cX3_pieces 5 = .ok (.bipush 36, 2) := by decide +kernel
theorem dX3_pieces_7 : decode cX3_pieces 7 = .ok (.if_icmp .ge 29, 3) := by decide +kernel
theorem dX3_pieces_10 : decode cX3_pieces 10 = .ok (.iload_n 1, 1) := by decide +kernel
theorem dX3_pieces_11 : decode cX3_pieces 11 = .ok (.aload_n 0, 1) := by decide +kernel
theorem dX3_pieces_12 : decode cX3_pieces 12 = .ok (.getfield 7, 3) := by decide +kernel
theorem dX3_pieces_15 : decode cX3_pieces 15 = .ok (.iconst 0, 1) := by decide +kernel
theorem dX3_pieces_16 : decode cX3_pieces 16 = .ok (.iload_n 2, 1) := by decide +kernel
theorem dX3_pieces_17 : decode cX3_pieces 17 = .ok (.iadd, 1) := by decide +kernel
theorem dX3_pieces_18 : decode cX3_pieces 18 = .ok (.iaload, 1) := by decide +kernel
theorem dX3_pieces_19 : decode cX3_pieces 19 = .ok (.iconst (-1), 1) := by decide +kernel
theorem dX3_pieces_20 : decode cX3_pieces 20 = .ok (.if_icmp .ne 7, 3) := by decide +kernel
theorem dX3_pieces_23 : decode cX3_pieces 23 = .ok (.iconst 0, 1) := by decide +kernel
theorem dX3_pieces_24 : decode cX3_pieces 24 = .ok (.goto 4, 3) := by decide +kernel
theorem dX3_pieces_27 : decode cX3_pieces 27 = .ok (.iconst 1, 1) := by decide +kernel
theorem dX3_pieces_28 : decode cX3_pieces 28 = .ok (.iadd, 1) := by decide +kernel
theorem dX3_pieces_29 : decode cX3_pieces 29 = .ok (.istore_n 1, 1) := by decide +kernel
theorem dX3_pieces_30 : decode cX3_pieces 30 = .ok (.iinc 2 1, 3) := by decide +kernel
theorem dX3_pieces_33 : decode cX3_pieces 33 = .ok (.goto (-29), 3) := by decide +kernel
theorem dX3_pieces_36 : decode cX3_pieces 36 = .ok (.iload_n 1, 1) := by decide +kernel
theorem dX3_pieces_37 : decode cX3_pieces 37 = .ok (.ireturn, 1) := by decide +kernel
theorem dX3_count_0 : decode cX3_count 0 = .ok (.iload_n 1, 1) := by decide +kernel
theorem dX3_count_1 : decode cX3_count 1 = .ok (.tableswitch 206 0 25 #[119, 128, 137, 163, 172, 177, 182, 182, 191, 196, 206, 206, 206, 206, 206, 206, 206, 206, 206, 206, 206, 206, 206, 206, 206, 201], 119) := by decide +kernel
theorem dX3_count_120 : decode cX3_count 120 = .ok (.aload_n 0, 1) := by decide +kernel
theorem dX3_count_121 : decode cX3_count 121 = .ok (.getfield 7, 3) := by decide +kernel
theorem dX3_count_124 : decode cX3_count 124 = .ok (.sipush 144, 3) := by decide +kernel
theorem dX3_count_127 : decode cX3_count 127 = .ok (.iaload, 1) := by decide +kernel
theorem dX3_count_128 : decode cX3_count 128 = .ok (.ireturn, 1) := by decide +kernel
theorem dX3_count_129 : decode cX3_count 129 = .ok (.aload_n 0, 1) := by decide +kernel
theorem dX3_count_130 : decode cX3_count 130 = .ok (.getfield 7, 3) := by decide +kernel
theorem dX3_count_133 : decode cX3_count 133 = .ok (.sipush 145, 3) := by decide +kernel
theorem dX3_count_136 : decode cX3_count 136 = .ok (.iaload, 1) := by decide +kernel
theorem dX3_count_137 : decode cX3_count 137 = .ok (.ireturn, 1) := by decide +kernel
theorem dX3_count_138 : decode cX3_count 138 = .ok (.aload_n 0, 1) := by decide +kernel
theorem dX3_count_139 : decode cX3_count 139 = .ok (.getfield 7, 3) := by decide +kernel
theorem dX3_count_142 : decode cX3_count 142 = .ok (.sipush 146, 3) := by decide +kernel
theorem dX3_count_145 : decode cX3_count 145 = .ok (.iaload, 1) := by decide +kernel
theorem dX3_count_146 : decode cX3_count 146 = .ok (.iconst (-1), 1) := by decide +kernel
theorem dX3_count_147 : decode cX3_count 147 = .ok (.if_icmp .ne 8, 3) := by decide +kernel
theorem dX3_count_150 : decode cX3_count 150 = .ok (.bipush (-4), 2) := by decide +kernel
theorem dX3_count_152 : decode cX3_count 152 = .ok (.goto 11, 3) := by decide +kernel
theorem dX3_count_155 : decode cX3_count 155 = .ok (.aload_n 0, 1) := by decide +kernel
theorem dX3_count_156 : decode cX3_count 156 = .ok (.getfield 7, 3) := by decide +kernel
theorem dX3_count_159 : decode cX3_count 159 = .ok (.sipush 146, 3) := by decide +kernel
theorem dX3_count_162 : decode cX3_count 162 = .ok (.iaload, 1) := by decide +kernel
theorem dX3_count_163 : decode cX3_count 163 = .ok (.ireturn, 1) := by decide +kernel
theorem dX3_count_164 : decode cX3_count 164 = .ok (.aload_n 0, 1) := by decide +kernel
theorem dX3_count_165 : decode cX3_count 165 = .ok (.getfield 7, 3) := by decide +kernel
theorem dX3_count_168 : decode cX3_count 168 = .ok (.sipush 147, 3) := by decide +kernel
theorem dX3_count_171 : decode cX3_count 171 = .ok (.iaload, 1) := by decide +kernel
theorem dX3_count_172 : decode cX3_count 172 = .ok (.ireturn, 1) := by decide +kernel
theorem dX3_count_173 : decode cX3_count 173 = .ok (.aload_n 0, 1) := by decide +kernel
theorem dX3_count_174 : decode cX3_count 174 = .ok (.invokevirtual 68, 3) := by decide +kernel
theorem dX3_count_177 : decode cX3_count 177 = .ok (.ireturn, 1) := by decide +kernel
theorem dX3_count_178 : decode cX3_count 178 = .ok (.aload_n 0, 1) := by decide +kernel
theorem dX3_count_179 : decode cX3_count 179 = .ok (.invokevirtual 62, 3) := by decide +kernel
theorem dX3_count_182 : decode cX3_count 182 = .ok (.ireturn, 1) := by decide +kernel
theorem dX3_count_183 : decode cX3_count 183 = .ok (.aload_n 0, 1) := by decide +kernel
theorem dX3_count_184 : decode cX3_count 184 = .ok (.iload_n 1, 1) := by decide +kernel
theorem dX3_count_185 : decode cX3_count 185 = .ok (.bipush 6, 2) := by decide +kernel
theorem dX3_count_187 : decode cX3_count 187 = .ok (.isub, 1) := by decide +kernel
theorem dX3_count_188 : decode cX3_count 188 = .ok (.invokevirtual 39, 3) := by decide +kernel
theorem dX3_count_191 : decode cX3_count 191 = .ok (.ireturn, 1) := by decide +kernel
theorem dX3_count_192 : decode cX3_count 192 = .ok (.aload_n 0, 1) := by decide +kernel
theorem dX3_count_193 : decode cX3_count 193 = .ok (.getfield 35, 3) := by decide +kernel
theorem dX3_count_196 : decode cX3_count 196 = .ok (.ireturn, 1) := by decide +kernel
theorem dX3_count_197 : decode cX3_count 197 = .ok (.aload_n 0, 1) := by decide +kernel
theorem dX3_count_198 : decode cX3_count 198 = .ok (.getfield 71, 3) := by decide +kernel
theorem dX3_count_201 : decode cX3_count 201 = .ok (.ireturn, 1) := by decide +kernel
theorem dX3_count_202 : decode cX3_count 202 = .ok (.aload_n 0, 1) := by decide +kernel
theorem dX3_count_203 : decode cX3_count 203 = .ok (.invokevirtual 47, 3) := by decide +kernel
theorem dX3_count_206 : decode cX3_count 206 = .ok (.ireturn, 1) := by decide +kernel
theorem dX3_count_207 : decode cX3_count 207 = .ok (.iload_n 1, 1) := by decide +kernel
theorem dX3_count_208 : decode cX3_count 208 = .ok (.bipush 10, 2) := by decide +kernel
theorem dX3_count_210 : decode cX3_count 210 = .ok (.bipush 12, 2) := by decide +kernel
theorem dX3_count_212 : decode cX3_count 212 = .ok (.invokestatic 31, 3) := by decide +kernel
theorem dX3_count_215 : decode cX3_count 215 = .ok (.ifCond .eq 19, 3) := by decide +kernel
theorem dX3_count_218 : decode cX3_count 218 = .ok (.aload_n 0, 1) := by decide +kernel
theorem dX3_count_219 : decode cX3_count 219 = .ok (.getfield 7, 3) := by decide +kernel
theorem dX3_count_222 : decode cX3_count 222 = .ok (.sipush 149, 3) := by decide +kernel
theorem dX3_count_225 : decode cX3_count 225 = .ok (.iload_n 1, 1) := by decide +kernel
theorem dX3_count_226 : decode cX3_count 226 = .ok (.iadd, 1) := by decide +kernel
theorem dX3_count_227 : decode cX3_count 227 = .ok (.bipush 10, 2) := by decide +kernel
theorem dX3_count_229 : decode cX3_count 229 = .ok (.isub, 1) := by decide +kernel
theorem dX3_count_230 : decode cX3_count 230 = .ok (.iaload, 1) := by decide +kernel
theorem dX3_count_231 : decode cX3_count 231 = .ok (.goto 31, 3) := by decide +kernel
theorem dX3_count_234 : decode cX3_count 234 = .ok (.iload_n 1, 1) := by decide +kernel
theorem dX3_count_235 : decode cX3_count 235 = .ok (.bipush 20, 2) := by decide +kernel
theorem dX3_count_237 : decode cX3_count 237 = .ok (.bipush 26, 2) := by decide +kernel
theorem dX3_count_239 : decode cX3_count 239 = .ok (.invokestatic 31, 3) := by decide +kernel
theorem dX3_count_242 : decode cX3_count 242 = .ok (.ifCond .eq 19, 3) := by decide +kernel
theorem dX3_count_245 : decode cX3_count 245 = .ok (.aload_n 0, 1) := by decide +kernel
theorem dX3_count_246 : decode cX3_count 246 = .ok (.getfield 7, 3) := by decide +kernel
theorem dX3_count_249 : decode cX3_count 249 = .ok (.sipush 152, 3) := by decide +kernel
theorem dX3_count_252 : decode cX3_count 252 = .ok (.iload_n 1, 1) := by decide +kernel
theorem dX3_count_253 : decode cX3_count 253 = .ok (.iadd, 1) := by decide +kernel
theorem dX3_count_254 : decode cX3_count 254 = .ok (.bipush 20, 2) := by decide +kernel
theorem dX3_count_256 : decode cX3_count 256 = .ok (.isub, 1) := by decide +kernel
theorem dX3_count_257 : decode cX3_count 257 = .ok (.iaload, 1) := by decide +kernel
theorem dX3_count_258 : decode cX3_count 258 = .ok (.goto 4, 3) := by decide +kernel
theorem dX3_count_261 : decode cX3_count 261 = .ok (.iconst (-1), 1) := by decide +kernel
theorem dX3_count_262 : decode cX3_count 262 = .ok (.ireturn, 1) := by decide +kernel
theorem dX3_sign_0 : decode cX3_sign 0 = .ok (.iload_n 0, 1) := by decide +kernel
theorem dX3_sign_1 : decode cX3_sign 1 = .ok (.ifCond .le 7, 3) := by decide +kernel
theorem dX3_sign_4 : decode cX3_sign 4 = .ok (.iconst 1, 1) := by decide +kernel
theorem dX3_sign_5 : decode cX3_sign 5 = .ok (.goto 12, 3) := by decide +kernel
theorem dX3_sign_8 : decode cX3_sign 8 = .ok (.iload_n 0, 1) := by decide +kernel
theorem dX3_sign_9 : decode cX3_sign 9 = .ok (.ifCond .ge 7, 3) := by decide +kernel
theorem dX3_sign_12 : decode cX3_sign 12 = .ok (.iconst (-1), 1) := by decide +kernel
theorem dX3_sign_13 : decode cX3_sign 13 = .ok (.goto 4, 3) := by decide +kernel
theorem dX3_sign_16 : decode cX3_sign 16 = .ok (.iconst 0, 1) := by decide +kernel
theorem dX3_sign_17 : decode cX3_sign 17 = .ok (.ireturn, 1) := by decide +kernel
theorem dX3_isFree_0 : decode cX3_isFree 0 = .ok (.bipush 6, 2) := by decide +kernel
theorem dX3_isFree_2 : decode cX3_isFree 2 = .ok (.iload_n 2, 1) := by decide +kernel
theorem dX3_isFree_3 : decode cX3_isFree 3 = .ok (.bipush 6, 2) := by decide +kernel
theorem dX3_isFree_5 : decode cX3_isFree 5 = .ok (.idiv, 1) := by decide +kernel
theorem dX3_isFree_6 : decode cX3_isFree 6 = .ok (.iload_n 1, 1) := by decide +kernel
theorem dX3_isFree_7 : decode cX3_isFree 7 = .ok (.bipush 6, 2) := by decide +kernel
theorem dX3_isFree_9 : decode cX3_isFree 9 = .ok (.idiv, 1) := by decide +kernel
theorem dX3_isFree_10 : decode cX3_isFree 10 = .ok (.isub, 1) := by decide +kernel
theorem dX3_isFree_11 : decode cX3_isFree 11 = .ok (.invokestatic 74, 3) := by decide +kernel
theorem dX3_isFree_14 : decode cX3_isFree 14 = .ok (.imul, 1) := by decide +kernel
theorem dX3_isFree_15 : decode cX3_isFree 15 = .ok (.iload_n 2, 1) := by decide +kernel
theorem dX3_isFree_16 : decode cX3_isFree 16 = .ok (.bipush 6, 2) := by decide +kernel
theorem dX3_isFree_18 : decode cX3_isFree 18 = .ok (.irem, 1) := by decide +kernel
theorem dX3_isFree_19 : decode cX3_isFree 19 = .ok (.iload_n 1, 1) := by decide +kernel
theorem dX3_isFree_20 : decode cX3_isFree 20 = .ok (.bipush 6, 2) := by decide +kernel
theorem dX3_isFree_22 : decode cX3_isFree 22 = .ok (.irem, 1) := by decide +kernel
theorem dX3_isFree_23 : decode cX3_isFree 23 = .ok (.isub, 1) := by decide +kernel
theorem dX3_isFree_24 : decode cX3_isFree 24 = .ok (.invokestatic 74, 3) := by decide +kernel
theorem dX3_isFree_27 : decode cX3_isFree 27 = .ok (.iadd, 1) := by decide +kernel
theorem dX3_isFree_28 : decode cX3_isFree 28 = .ok (.istore_n 3, 1) := by decide +kernel
theorem dX3_isFree_29 : decode cX3_isFree 29 = .ok (.iload_n 1, 1) := by decide +kernel
theorem dX3_isFree_30 : decode cX3_isFree 30 = .ok (.iload_n 3, 1) := by decide +kernel
theorem dX3_isFree_31 : decode cX3_isFree 31 = .ok (.iadd, 1) := by decide +kernel
theorem dX3_isFree_32 : decode cX3_isFree 32 = .ok (.istore 4, 2) := by decide +kernel
theorem dX3_isFree_34 : decode cX3_isFree 34 = .ok (.iload 4, 2) := by decide +kernel
theorem dX3_isFree_36 : decode cX3_isFree 36 = .ok (.iload_n 2, 1) := by decide +kernel
theorem dX3_isFree_37 : decode cX3_isFree 37 = .ok (.if_icmp .eq 27, 3) := by decide +kernel
theorem dX3_isFree_40 : decode cX3_isFree 40 = .ok (.aload_n 0, 1) := by decide +kernel
theorem dX3_isFree_41 : decode cX3_isFree 41 = .ok (.getfield 7, 3) := by decide +kernel
theorem dX3_isFree_44 : decode cX3_isFree 44 = .ok (.iconst 0, 1) := by decide +kernel
theorem dX3_isFree_45 : decode cX3_isFree 45 = .ok (.iload 4, 2) := by decide +kernel
theorem dX3_isFree_47 : decode cX3_isFree 47 = .ok (.iadd, 1) := by decide +kernel
theorem dX3_isFree_48 : decode cX3_isFree 48 = .ok (.iaload, 1) := by decide +kernel
theorem dX3_isFree_49 : decode cX3_isFree 49 = .ok (.iconst (-1), 1) := by decide +kernel
theorem dX3_isFree_50 : decode cX3_isFree 50 = .ok (.if_icmp .eq 5, 3) := by decide +kernel
theorem dX3_isFree_53 : decode cX3_isFree 53 = .ok (.iconst 0, 1) := by decide +kernel
theorem dX3_isFree_54 : decode cX3_isFree 54 = .ok (.ireturn, 1) := by decide +kernel
theorem dX3_isFree_55 : decode cX3_isFree 55 = .ok (.iload 4, 2) := by decide +kernel
theorem dX3_isFree_57 : decode cX3_isFree 57 = .ok (.iload_n 3, 1) := by decide +kernel
theorem dX3_isFree_58 : decode cX3_isFree 58 = .ok (.iadd, 1) := by decide +kernel
theorem dX3_isFree_59 : decode cX3_isFree 59 = .ok (.istore 4, 2) := by decide +kernel
theorem dX3_isFree_61 : decode cX3_isFree 61 = .ok (.goto (-27), 3) := by decide +kernel
theorem dX3_isFree_64 : decode cX3_isFree 64 = .ok (.iconst 1, 1) := by decide +kernel
theorem dX3_isFree_65 : decode cX3_isFree 65 = .ok (.ireturn, 1) := by decide +kernel
theorem dX3_costBy_0 : decode cX3_costBy 0 = .ok (.iload 4, 2) := by decide +kernel
theorem dX3_costBy_2 : decode cX3_costBy 2 = .ok (.bipush 6, 2) := by decide +kernel
theorem dX3_costBy_4 : decode cX3_costBy 4 = .ok (.irem, 1) := by decide +kernel
theorem dX3_costBy_5 : decode cX3_costBy 5 = .ok (.iload_n 3, 1) := by decide +kernel
theorem dX3_costBy_6 : decode cX3_costBy 6 = .ok (.bipush 6, 2) := by decide +kernel
theorem dX3_costBy_8 : decode cX3_costBy 8 = .ok (.irem, 1) := by decide +kernel
theorem dX3_costBy_9 : decode cX3_costBy 9 = .ok (.isub, 1) := by decide +kernel
theorem dX3_costBy_10 : decode cX3_costBy 10 = .ok (.invokestatic 77, 3) := by decide +kernel
theorem dX3_costBy_13 : decode cX3_costBy 13 = .ok (.istore 5, 2) := by decide +kernel
theorem dX3_costBy_15 : decode cX3_costBy 15 = .ok (.iload 4, 2) := by decide +kernel
theorem dX3_costBy_17 : decode cX3_costBy 17 = .ok (.bipush 6, 2) := by decide +kernel
theorem dX3_costBy_19 : decode cX3_costBy 19 = .ok (.idiv, 1) := by decide +kernel
theorem dX3_costBy_20 : decode cX3_costBy 20 = .ok (.iload_n 3, 1) := by decide +kernel
theorem dX3_costBy_21 : decode cX3_costBy 21 = .ok (.bipush 6, 2) := by decide +kernel
theorem dX3_costBy_23 : decode cX3_costBy 23 = .ok (.idiv, 1) := by decide +kernel
theorem dX3_costBy_24 : decode cX3_costBy 24 = .ok (.isub, 1) := by decide +kernel
theorem dX3_costBy_25 : decode cX3_costBy 25 = .ok (.invokestatic 77, 3) := by decide +kernel
theorem dX3_costBy_28 : decode cX3_costBy 28 = .ok (.istore 6, 2) := by decide +kernel
theorem dX3_costBy_30 : decode cX3_costBy 30 = .ok (.iload 5, 2) := by decide +kernel
theorem dX3_costBy_32 : decode cX3_costBy 32 = .ok (.iload 6, 2) := by decide +kernel
theorem dX3_costBy_34 : decode cX3_costBy 34 = .ok (.iadd, 1) := by decide +kernel
theorem dX3_costBy_35 : decode cX3_costBy 35 = .ok (.ifCond .eq 16, 3) := by decide +kernel
theorem dX3_costBy_38 : decode cX3_costBy 38 = .ok (.aload_n 0, 1) := by decide +kernel
theorem dX3_costBy_39 : decode cX3_costBy 39 = .ok (.getfield 7, 3) := by decide +kernel
theorem dX3_costBy_42 : decode cX3_costBy 42 = .ok (.iconst 0, 1) := by decide +kernel
theorem dX3_costBy_43 : decode cX3_costBy 43 = .ok (.iload 4, 2) := by decide +kernel
theorem dX3_costBy_45 : decode cX3_costBy 45 = .ok (.iadd, 1) := by decide +kernel
theorem dX3_costBy_46 : decode cX3_costBy 46 = .ok (.iaload, 1) := by decide +kernel
theorem dX3_costBy_47 : decode cX3_costBy 47 = .ok (.iload_n 1, 1) := by decide +kernel
theorem dX3_costBy_48 : decode cX3_costBy 48 = .ok (.if_icmp .ne 5, 3) := by decide +kernel
theorem dX3_costBy_51 : decode cX3_costBy 51 = .ok (.iconst (-1), 1) := by decide +kernel
theorem dX3_costBy_52 : decode cX3_costBy 52 = .ok (.ireturn, 1) := by decide +kernel
theorem dX3_costBy_53 : decode cX3_costBy 53 = .ok (.iload_n 2, 1) := by decide +kernel
theorem dX3_costBy_54 : decode cX3_costBy 54 = .ok (.tableswitch 117 0 3 #[30, 48, 78, 102], 30) := by decide +kernel
theorem dX3_costBy_84 : decode cX3_costBy 84 = .ok (.iload 5, 2) := by decide +kernel
theorem dX3_costBy_86 : decode cX3_costBy 86 = .ok (.iconst 2, 1) := by decide +kernel
theorem dX3_costBy_87 : decode cX3_costBy 87 = .ok (.if_icmp .ge 13, 3) := by decide +kernel
theorem dX3_costBy_90 : decode cX3_costBy 90 = .ok (.iload 6, 2) := by decide +kernel
theorem dX3_costBy_92 : decode cX3_costBy 92 = .ok (.iconst 2, 1) := by decide +kernel
theorem dX3_costBy_93 : decode cX3_costBy 93 = .ok (.if_icmp .ge 7, 3) := by decide +kernel
theorem dX3_costBy_96 : decode cX3_costBy 96 = .ok (.iconst 1, 1) := by decide +kernel
theorem dX3_costBy_97 : decode cX3_costBy 97 = .ok (.goto 4, 3) := by decide +kernel
theorem dX3_costBy_100 : decode cX3_costBy 100 = .ok (.iconst (-1), 1) := by decide +kernel
theorem dX3_costBy_101 : decode cX3_costBy 101 = .ok (.ireturn, 1) := by decide +kernel
theorem dX3_costBy_102 : decode cX3_costBy 102 = .ok (.iload 5, 2) := by decide +kernel
theorem dX3_costBy_104 : decode cX3_costBy 104 = .ok (.ifCond .eq 8, 3) := by decide +kernel
theorem dX3_costBy_107 : decode cX3_costBy 107 = .ok (.iload 6, 2) := by decide +kernel
theorem dX3_costBy_109 : decode cX3_costBy 109 = .ok (.ifCond .ne 21, 3) := by decide +kernel
theorem dX3_costBy_112 : decode cX3_costBy 112 = .ok (.aload_n 0, 1) := by decide +kernel
theorem dX3_costBy_113 : decode cX3_costBy 113 = .ok (.iload_n 3, 1) := by decide +kernel
theorem dX3_costBy_114 : decode cX3_costBy 114 = .ok (.iload 4, 2) := by decide +kernel
theorem dX3_costBy_116 : decode cX3_costBy 116 = .ok (.invokevirtual 80, 3) := by decide +kernel
theorem dX3_costBy_119 : decode cX3_costBy 119 = .ok (.ifCond .eq 11, 3) := by decide +kernel
theorem dX3_costBy_122 : decode cX3_costBy 122 = .ok (.iload 5, 2) := by decide +kernel
theorem dX3_costBy_124 : decode cX3_costBy 124 = .ok (.iload 6, 2) := by decide +kernel
theorem dX3_costBy_126 : decode cX3_costBy 126 = .ok (.iadd, 1) := by decide +kernel
theorem dX3_costBy_127 : decode cX3_costBy 127 = .ok (.goto 4, 3) := by decide +kernel
theorem dX3_costBy_130 : decode cX3_costBy 130 = .ok (.iconst (-1), 1) := by decide +kernel
theorem dX3_costBy_131 : decode cX3_costBy 131 = .ok (.ireturn, 1) := by decide +kernel
theorem dX3_costBy_132 : decode cX3_costBy 132 = .ok (.iload 5, 2) := by decide +kernel
theorem dX3_costBy_134 : decode cX3_costBy 134 = .ok (.iload 6, 2) := by decide +kernel
theorem dX3_costBy_136 : decode cX3_costBy 136 = .ok (.if_icmp .ne 18, 3) := by decide +kernel
theorem dX3_costBy_139 : decode cX3_costBy 139 = .ok (.aload_n 0, 1) := by decide +kernel
theorem dX3_costBy_140 : decode cX3_costBy 140 = .ok (.iload_n 3, 1) := by decide +kernel
theorem dX3_costBy_141 : decode cX3_costBy 141 = .ok (.iload 4, 2) := by decide +kernel
theorem dX3_costBy_143 : decode cX3_costBy 143 = .ok (.invokevirtual 80, 3) := by decide +kernel
theorem dX3_costBy_146 : decode cX3_costBy 146 = .ok (.ifCond .eq 8, 3) := by decide +kernel
theorem dX3_costBy_149 : decode cX3_costBy 149 = .ok (.iload 5, 2) := by decide +kernel
theorem dX3_costBy_151 : decode cX3_costBy 151 = .ok (.goto 4, 3) := by decide +kernel
theorem dX3_costBy_154 : decode cX3_costBy 154 = .ok (.iconst (-1), 1) := by decide +kernel
theorem dX3_costBy_155 : decode cX3_costBy 155 = .ok (.ireturn, 1) := by decide +kernel
theorem dX3_costBy_156 : decode cX3_costBy 156 = .ok (.iload 5, 2) := by decide +kernel
theorem dX3_costBy_158 : decode cX3_costBy 158 = .ok (.iload 6, 2) := by decide +kernel
theorem dX3_costBy_160 : decode cX3_costBy 160 = .ok (.imul, 1) := by decide +kernel
theorem dX3_costBy_161 : decode cX3_costBy 161 = .ok (.iconst 2, 1) := by decide +kernel
theorem dX3_costBy_162 : decode cX3_costBy 162 = .ok (.if_icmp .ne 7, 3) := by decide +kernel
theorem dX3_costBy_165 : decode cX3_costBy 165 = .ok (.iconst 2, 1) := by decide +kernel
theorem dX3_costBy_166 : decode cX3_costBy 166 = .ok (.goto 4, 3) := by decide +kernel
theorem dX3_costBy_169 : decode cX3_costBy 169 = .ok (.iconst (-1), 1) := by decide +kernel
theorem dX3_costBy_170 : decode cX3_costBy 170 = .ok (.ireturn, 1) := by decide +kernel
theorem dX3_costBy_171 : decode cX3_costBy 171 = .ok (.iload 4, 2) := by decide +kernel
theorem dX3_costBy_173 : decode cX3_costBy 173 = .ok (.bipush 6, 2) := by decide +kernel
theorem dX3_costBy_175 : decode cX3_costBy 175 = .ok (.idiv, 1) := by decide +kernel
theorem dX3_costBy_176 : decode cX3_costBy 176 = .ok (.iload_n 3, 1) := by decide +kernel
theorem dX3_costBy_177 : decode cX3_costBy 177 = .ok (.bipush 6, 2) := by decide +kernel
theorem dX3_costBy_179 : decode cX3_costBy 179 = .ok (.idiv, 1) := by decide +kernel
theorem dX3_costBy_180 : decode cX3_costBy 180 = .ok (.isub, 1) := by decide +kernel
theorem dX3_costBy_181 : decode cX3_costBy 181 = .ok (.iconst 1, 1) := by decide +kernel
theorem dX3_costBy_182 : decode cX3_costBy 182 = .ok (.iconst 2, 1) := by decide +kernel
theorem dX3_costBy_183 : decode cX3_costBy 183 = .ok (.iload_n 1, 1) := by decide +kernel
theorem dX3_costBy_184 : decode cX3_costBy 184 = .ok (.imul, 1) := by decide +kernel
theorem dX3_costBy_185 : decode cX3_costBy 185 = .ok (.isub, 1) := by decide +kernel
theorem dX3_costBy_186 : decode cX3_costBy 186 = .ok (.if_icmp .ne 7, 3) := by decide +kernel
theorem dX3_costBy_189 : decode cX3_costBy 189 = .ok (.iconst 1, 1) := by decide +kernel
theorem dX3_costBy_190 : decode cX3_costBy 190 = .ok (.goto 4, 3) := by decide +kernel
theorem dX3_costBy_193 : decode cX3_costBy 193 = .ok (.iconst 0, 1) := by decide +kernel
theorem dX3_costBy_194 : decode cX3_costBy 194 = .ok (.istore 7, 2) := by decide +kernel
theorem dX3_costBy_196 : decode cX3_costBy 196 = .ok (.iload 5, 2) := by decide +kernel
theorem dX3_costBy_198 : decode cX3_costBy 198 = .ok (.ifCond .ne 24, 3) := by decide +kernel
theorem dX3_costBy_201 : decode cX3_costBy 201 = .ok (.aload_n 0, 1) := by decide +kernel
theorem dX3_costBy_202 : decode cX3_costBy 202 = .ok (.getfield 7, 3) := by decide +kernel
theorem dX3_costBy_205 : decode cX3_costBy 205 = .ok (.iconst 0, 1) := by decide +kernel
theorem dX3_costBy_206 : decode cX3_costBy 206 = .ok (.iload 4, 2) := by decide +kernel
theorem dX3_costBy_208 : decode cX3_costBy 208 = .ok (.iadd, 1) := by decide +kernel
theorem dX3_costBy_209 : decode cX3_costBy 209 = .ok (.iaload, 1) := by decide +kernel
theorem dX3_costBy_210 : decode cX3_costBy 210 = .ok (.iconst (-1), 1) := by decide +kernel
theorem dX3_costBy_211 : decode cX3_costBy 211 = .ok (.if_icmp .ne 7, 3) := by decide +kernel
theorem dX3_costBy_214 : decode cX3_costBy 214 = .ok (.iconst 1, 1) := by decide +kernel
theorem dX3_costBy_215 : decode cX3_costBy 215 = .ok (.goto 33, 3) := by decide +kernel
theorem dX3_costBy_218 : decode cX3_costBy 218 = .ok (.iconst 0, 1) := by decide +kernel
theorem dX3_costBy_219 : decode cX3_costBy 219 = .ok (.goto 29, 3) := by decide +kernel
theorem dX3_costBy_222 : decode cX3_costBy 222 = .ok (.iload 5, 2) := by decide +kernel
theorem dX3_costBy_224 : decode cX3_costBy 224 = .ok (.iconst 1, 1) := by decide +kernel
theorem dX3_costBy_225 : decode cX3_costBy 225 = .ok (.if_icmp .ne 22, 3) := by decide +kernel
theorem dX3_costBy_228 : decode cX3_costBy 228 = .ok (.aload_n 0, 1) := by decide +kernel
theorem dX3_costBy_229 : decode cX3_costBy 229 = .ok (.getfield 7, 3) := by decide +kernel
theorem dX3_costBy_232 : decode cX3_costBy 232 = .ok (.iconst 0, 1) := by decide +kernel
theorem dX3_costBy_233 : decode cX3_costBy 233 = .ok (.iload 4, 2) := by decide +kernel
theorem dX3_costBy_235 : decode cX3_costBy 235 = .ok (.iadd, 1) := by decide +kernel
theorem dX3_costBy_236 : decode cX3_costBy 236 = .ok (.iaload, 1) := by decide +kernel
theorem dX3_costBy_237 : decode cX3_costBy 237 = .ok (.iconst 1, 1) := by decide +kernel
theorem dX3_costBy_238 : decode cX3_costBy 238 = .ok (.iload_n 1, 1) := by decide +kernel
theorem dX3_costBy_239 : decode cX3_costBy 239 = .ok (.isub, 1) := by decide +kernel
theorem dX3_costBy_240 : decode cX3_costBy 240 = .ok (.if_icmp .ne 7, 3) := by decide +kernel
theorem dX3_costBy_243 : decode cX3_costBy 243 = .ok (.iconst 1, 1) := by decide +kernel
theorem dX3_costBy_244 : decode cX3_costBy 244 = .ok (.goto 4, 3) := by decide +kernel
theorem dX3_costBy_247 : decode cX3_costBy 247 = .ok (.iconst 0, 1) := by decide +kernel
theorem dX3_costBy_248 : decode cX3_costBy 248 = .ok (.istore 8, 2) := by decide +kernel
theorem dX3_costBy_250 : decode cX3_costBy 250 = .ok (.iload 7, 2) := by decide +kernel
theorem dX3_costBy_252 : decode cX3_costBy 252 = .ok (.ifCond .eq 12, 3) := by decide +kernel
theorem dX3_costBy_255 : decode cX3_costBy 255 = .ok (.iload 8, 2) := by decide +kernel
theorem dX3_costBy_257 : decode cX3_costBy 257 = .ok (.ifCond .eq 7, 3) := by decide +kernel
theorem dX3_costBy_260 : decode cX3_costBy 260 = .ok (.iconst 1, 1) := by decide +kernel
theorem dX3_costBy_261 : decode cX3_costBy 261 = .ok (.goto 4, 3) := by decide +kernel
theorem dX3_costBy_264 : decode cX3_costBy 264 = .ok (.iconst (-1), 1) := by decide +kernel
theorem dX3_costBy_265 : decode cX3_costBy 265 = .ok (.ireturn, 1) := by decide +kernel
theorem dX3_costOf_0 : decode cX3_costOf 0 = .ok (.aload_n 0, 1) := by decide +kernel
theorem dX3_costOf_1 : decode cX3_costOf 1 = .ok (.aload_n 0, 1) := by decide +kernel
theorem dX3_costOf_2 : decode cX3_costOf 2 = .ok (.getfield 7, 3) := by decide +kernel
theorem dX3_costOf_5 : decode cX3_costOf 5 = .ok (.iconst 0, 1) := by decide +kernel
theorem dX3_costOf_6 : decode cX3_costOf 6 = .ok (.iload_n 1, 1) := by decide +kernel
theorem dX3_costOf_7 : decode cX3_costOf 7 = .ok (.iadd, 1) := by decide +kernel
theorem dX3_costOf_8 : decode cX3_costOf 8 = .ok (.iaload, 1) := by decide +kernel
theorem dX3_costOf_9 : decode cX3_costOf 9 = .ok (.aload_n 0, 1) := by decide +kernel
theorem dX3_costOf_10 : decode cX3_costOf 10 = .ok (.getfield 7, 3) := by decide +kernel
theorem dX3_costOf_13 : decode cX3_costOf 13 = .ok (.bipush 36, 2) := by decide +kernel
theorem dX3_costOf_15 : decode cX3_costOf 15 = .ok (.iload_n 1, 1) := by decide +kernel
theorem dX3_costOf_16 : decode cX3_costOf 16 = .ok (.iadd, 1) := by decide +kernel
theorem dX3_costOf_17 : decode cX3_costOf 17 = .ok (.iaload, 1) := by decide +kernel
theorem dX3_costOf_18 : decode cX3_costOf 18 = .ok (.iload_n 1, 1) := by decide +kernel
theorem dX3_costOf_19 : decode cX3_costOf 19 = .ok (.iload_n 2, 1) := by decide +kernel
theorem dX3_costOf_20 : decode cX3_costOf 20 = .ok (.invokevirtual 83, 3) := by decide +kernel
theorem dX3_costOf_23 : decode cX3_costOf 23 = .ok (.ireturn, 1) := by decide +kernel
theorem dX3_canGo_0 : decode cX3_canGo 0 = .ok (.aload_n 0, 1) := by decide +kernel
theorem dX3_canGo_1 : decode cX3_canGo 1 = .ok (.iload_n 1, 1) := by decide +kernel
theorem dX3_canGo_2 : decode cX3_canGo 2 = .ok (.iload_n 2, 1) := by decide +kernel
theorem dX3_canGo_3 : decode cX3_canGo 3 = .ok (.invokevirtual 87, 3) := by decide +kernel
theorem dX3_canGo_6 : decode cX3_canGo 6 = .ok (.istore_n 3, 1) := by decide +kernel
theorem dX3_canGo_7 : decode cX3_canGo 7 = .ok (.iload_n 3, 1) := by decide +kernel
theorem dX3_canGo_8 : decode cX3_canGo 8 = .ok (.ifCond .lt 20, 3) := by decide +kernel
theorem dX3_canGo_11 : decode cX3_canGo 11 = .ok (.iload_n 3, 1) := by decide +kernel
theorem dX3_canGo_12 : decode cX3_canGo 12 = .ok (.aload_n 0, 1) := by decide +kernel
theorem dX3_canGo_13 : decode cX3_canGo 13 = .ok (.getfield 7, 3) := by decide +kernel
theorem dX3_canGo_16 : decode cX3_canGo 16 = .ok (.bipush 72, 2) := by decide +kernel
theorem dX3_canGo_18 : decode cX3_canGo 18 = .ok (.iload_n 1, 1) := by decide +kernel
theorem dX3_canGo_19 : decode cX3_canGo 19 = .ok (.iadd, 1) := by decide +kernel
theorem dX3_canGo_20 : decode cX3_canGo 20 = .ok (.iaload, 1) := by decide +kernel
theorem dX3_canGo_21 : decode cX3_canGo 21 = .ok (.if_icmp .gt 7, 3) := by decide +kernel
theorem dX3_canGo_24 : decode cX3_canGo 24 = .ok (.iconst 1, 1) := by decide +kernel
theorem dX3_canGo_25 : decode cX3_canGo 25 = .ok (.goto 4, 3) := by decide +kernel
theorem dX3_canGo_28 : decode cX3_canGo 28 = .ok (.iconst 0, 1) := by decide +kernel
theorem dX3_canGo_29 : decode cX3_canGo 29 = .ok (.ireturn, 1) := by decide +kernel
theorem dX3_movesFrom_0 : decode cX3_movesFrom 0 = .ok (.iconst 0, 1) := by decide +kernel
theorem dX3_movesFrom_1 : decode cX3_movesFrom 1 = .ok (.istore_n 2, 1) := by decide +kernel
theorem dX3_movesFrom_2 : decode cX3_movesFrom 2 = .ok (.iconst 0, 1) := by decide +kernel
theorem dX3_movesFrom_3 : decode cX3_movesFrom 3 = .ok (.istore_n 3, 1) := by decide +kernel
theorem dX3_movesFrom_4 : decode cX3_movesFrom 4 = .ok (.iload_n 3, 1) := by decide +kernel
theorem dX3_movesFrom_5 : decode cX3_movesFrom 5 = .ok (.bipush 36, 2) := by decide +kernel
theorem dX3_movesFrom_7 : decode cX3_movesFrom 7 = .ok (.if_icmp .ge 26, 3) := by decide +kernel
theorem dX3_movesFrom_10 : decode cX3_movesFrom 10 = .ok (.iload_n 2, 1) := by decide +kernel
theorem dX3_movesFrom_11 : decode cX3_movesFrom 11 = .ok (.aload_n 0, 1) := by decide +kernel
theorem dX3_movesFrom_12 : decode cX3_movesFrom 12 = .ok (.iload_n 1, 1) := by decide +kernel
theorem dX3_movesFrom_13 : decode cX3_movesFrom 13 = .ok (.iload_n 3, 1) := by decide +kernel
theorem dX3_movesFrom_14 : decode cX3_movesFrom 14 = .ok (.invokevirtual 91, 3) := by decide +kernel
theorem dX3_movesFrom_17 : decode cX3_movesFrom 17 = .ok (.ifCond .eq 7, 3) := by decide +kernel
theorem dX3_movesFrom_20 : decode cX3_movesFrom 20 = .ok (.iconst 1, 1) := by decide +kernel
theorem dX3_movesFrom_21 : decode cX3_movesFrom 21 = .ok (.goto 4, 3) := by decide +kernel
theorem dX3_movesFrom_24 : decode cX3_movesFrom 24 = .ok (.iconst 0, 1) := by decide +kernel
theorem dX3_movesFrom_25 : decode cX3_movesFrom 25 = .ok (.iadd, 1) := by decide +kernel
theorem dX3_movesFrom_26 : decode cX3_movesFrom 26 = .ok (.istore_n 2, 1) := by decide +kernel
theorem dX3_movesFrom_27 : decode cX3_movesFrom 27 = .ok (.iinc 3 1, 3) := by decide +kernel
theorem dX3_movesFrom_30 : decode cX3_movesFrom 30 = .ok (.goto (-26), 3) := by decide +kernel
theorem dX3_movesFrom_33 : decode cX3_movesFrom 33 = .ok (.iload_n 2, 1) := by decide +kernel
theorem dX3_movesFrom_34 : decode cX3_movesFrom 34 = .ok (.ireturn, 1) := by decide +kernel
theorem dX3_movesOf_0 : decode cX3_movesOf 0 = .ok (.iconst 0, 1) := by decide +kernel
theorem dX3_movesOf_1 : decode cX3_movesOf 1 = .ok (.istore_n 2, 1) := by decide +kernel
theorem dX3_movesOf_2 : decode cX3_movesOf 2 = .ok (.iconst 0, 1) := by decide +kernel
theorem dX3_movesOf_3 : decode cX3_movesOf 3 = .ok (.istore_n 3, 1) := by decide +kernel
theorem dX3_movesOf_4 : decode cX3_movesOf 4 = .ok (.iload_n 3, 1) := by decide +kernel
theorem dX3_movesOf_5 : decode cX3_movesOf 5 = .ok (.bipush 36, 2) := by decide +kernel
theorem dX3_movesOf_7 : decode cX3_movesOf 7 = .ok (.if_icmp .ge 33, 3) := by decide +kernel
theorem dX3_movesOf_10 : decode cX3_movesOf 10 = .ok (.iload_n 2, 1) := by decide +kernel
theorem dX3_movesOf_11 : decode cX3_movesOf 11 = .ok (.aload_n 0, 1) := by decide +kernel
theorem dX3_movesOf_12 : decode cX3_movesOf 12 = .ok (.getfield 7, 3) := by decide +kernel
theorem dX3_movesOf_15 : decode cX3_movesOf 15 = .ok (.iconst 0, 1) := by decide +kernel
theorem dX3_movesOf_16 : decode cX3_movesOf 16 = .ok (.iload_n 3, 1) := by decide +kernel
theorem dX3_movesOf_17 : decode cX3_movesOf 17 = .ok (.iadd, 1) := by decide +kernel
theorem dX3_movesOf_18 : decode cX3_movesOf 18 = .ok (.iaload, 1) := by decide +kernel
theorem dX3_movesOf_19 : decode cX3_movesOf 19 = .ok (.iload_n 1, 1) := by decide +kernel
theorem dX3_movesOf_20 : decode cX3_movesOf 20 = .ok (.if_icmp .ne 11, 3) := by decide +kernel
theorem dX3_movesOf_23 : decode cX3_movesOf 23 = .ok (.aload_n 0, 1) := by decide +kernel
theorem dX3_movesOf_24 : decode cX3_movesOf 24 = .ok (.iload_n 3, 1) := by decide +kernel
theorem dX3_movesOf_25 : decode cX3_movesOf 25 = .ok (.invokevirtual 65, 3) := by decide +kernel
theorem dX3_movesOf_28 : decode cX3_movesOf 28 = .ok (.goto 4, 3) := by decide +kernel
theorem dX3_movesOf_31 : decode cX3_movesOf 31 = .ok (.iconst 0, 1) := by decide +kernel
theorem dX3_movesOf_32 : decode cX3_movesOf 32 = .ok (.iadd, 1) := by decide +kernel
theorem dX3_movesOf_33 : decode cX3_movesOf 33 = .ok (.istore_n 2, 1) := by decide +kernel
theorem dX3_movesOf_34 : decode cX3_movesOf 34 = .ok (.iinc 3 1, 3) := by decide +kernel
theorem dX3_movesOf_37 : decode cX3_movesOf 37 = .ok (.goto (-33), 3) := by decide +kernel
theorem dX3_movesOf_40 : decode cX3_movesOf 40 = .ok (.iload_n 2, 1) := by decide +kernel
theorem dX3_movesOf_41 : decode cX3_movesOf 41 = .ok (.ireturn, 1) := by decide +kernel
theorem dX3_moveAt_0 : decode cX3_moveAt 0 = .ok (.iload_n 2, 1) := by decide +kernel
theorem dX3_moveAt_1 : decode cX3_moveAt 1 = .ok (.istore_n 3, 1) := by decide +kernel
theorem dX3_moveAt_2 : decode cX3_moveAt 2 = .ok (.iconst 0, 1) := by decide +kernel
theorem dX3_moveAt_3 : decode cX3_moveAt 3 = .ok (.istore 4, 2) := by decide +kernel
theorem dX3_moveAt_5 : decode cX3_moveAt 5 = .ok (.iload 4, 2) := by decide +kernel
theorem dX3_moveAt_7 : decode cX3_moveAt 7 = .ok (.sipush 1296, 3) := by decide +kernel
theorem dX3_moveAt_10 : decode cX3_moveAt 10 = .ok (.if_icmp .ge 52, 3) := by decide +kernel
theorem dX3_moveAt_13 : decode cX3_moveAt 13 = .ok (.aload_n 0, 1) := by decide +kernel
theorem dX3_moveAt_14 : decode cX3_moveAt 14 = .ok (.getfield 7, 3) := by decide +kernel
theorem dX3_moveAt_17 : decode cX3_moveAt 17 = .ok (.iconst 0, 1) := by decide +kernel
theorem dX3_moveAt_18 : decode cX3_moveAt 18 = .ok (.iload 4, 2) := by decide +kernel
theorem dX3_moveAt_20 : decode cX3_moveAt 20 = .ok (.bipush 36, 2) := by decide +kernel
theorem dX3_moveAt_22 : decode cX3_moveAt 22 = .ok (.idiv, 1) := by decide +kernel
theorem dX3_moveAt_23 : decode cX3_moveAt 23 = .ok (.iadd, 1) := by decide +kernel
theorem dX3_moveAt_24 : decode cX3_moveAt 24 = .ok (.iaload, 1) := by decide +kernel
theorem dX3_moveAt_25 : decode cX3_moveAt 25 = .ok (.iload_n 1, 1) := by decide +kernel
theorem dX3_moveAt_26 : decode cX3_moveAt 26 = .ok (.if_icmp .ne 30, 3) := by decide +kernel
theorem dX3_moveAt_29 : decode cX3_moveAt 29 = .ok (.aload_n 0, 1) := by decide +kernel
theorem dX3_moveAt_30 : decode cX3_moveAt 30 = .ok (.iload 4, 2) := by decide +kernel
theorem dX3_moveAt_32 : decode cX3_moveAt 32 = .ok (.bipush 36, 2) := by decide +kernel
theorem dX3_moveAt_34 : decode cX3_moveAt 34 = .ok (.idiv, 1) := by decide +kernel
theorem dX3_moveAt_35 : decode cX3_moveAt 35 = .ok (.iload 4, 2) := by decide +kernel
theorem dX3_moveAt_37 : decode cX3_moveAt 37 = .ok (.bipush 36, 2) := by decide +kernel
theorem dX3_moveAt_39 : decode cX3_moveAt 39 = .ok (.irem, 1) := by decide +kernel
theorem dX3_moveAt_40 : decode cX3_moveAt 40 = .ok (.invokevirtual 91, 3) := by decide +kernel
theorem dX3_moveAt_43 : decode cX3_moveAt 43 = .ok (.ifCond .eq 13, 3) := by decide +kernel
theorem dX3_moveAt_46 : decode cX3_moveAt 46 = .ok (.iload_n 3, 1) := by decide +kernel
theorem dX3_moveAt_47 : decode cX3_moveAt 47 = .ok (.ifCond .ne 6, 3) := by decide +kernel
theorem dX3_moveAt_50 : decode cX3_moveAt 50 = .ok (.iload 4, 2) := by decide +kernel
theorem dX3_moveAt_52 : decode cX3_moveAt 52 = .ok (.ireturn, 1) := by decide +kernel
theorem dX3_moveAt_53 : decode cX3_moveAt 53 = .ok (.iinc 3 (-1), 3) := by decide +kernel
theorem dX3_moveAt_56 : decode cX3_moveAt 56 = .ok (.iinc 4 1, 3) := by decide +kernel
theorem dX3_moveAt_59 : decode cX3_moveAt 59 = .ok (.goto (-54), 3) := by decide +kernel
theorem dX3_moveAt_62 : decode cX3_moveAt 62 = .ok (.iconst (-1), 1) := by decide +kernel
theorem dX3_moveAt_63 : decode cX3_moveAt 63 = .ok (.ireturn, 1) := by decide +kernel
theorem dX3_goes_0 : decode cX3_goes 0 = .ok (.aload_n 0, 1) := by decide +kernel
theorem dX3_goes_1 : decode cX3_goes 1 = .ok (.getfield 7, 3) := by decide +kernel
theorem dX3_goes_4 : decode cX3_goes 4 = .ok (.iconst 0, 1) := by decide +kernel
theorem dX3_goes_5 : decode cX3_goes 5 = .ok (.iload_n 1, 1) := by decide +kernel
theorem dX3_goes_6 : decode cX3_goes 6 = .ok (.iadd, 1) := by decide +kernel
theorem dX3_goes_7 : decode cX3_goes 7 = .ok (.iaload, 1) := by decide +kernel
theorem dX3_goes_8 : decode cX3_goes 8 = .ok (.istore_n 3, 1) := by decide +kernel
theorem dX3_goes_9 : decode cX3_goes 9 = .ok (.aload_n 0, 1) := by decide +kernel
theorem dX3_goes_10 : decode cX3_goes 10 = .ok (.getfield 7, 3) := by decide +kernel
theorem dX3_goes_13 : decode cX3_goes 13 = .ok (.bipush 36, 2) := by decide +kernel
theorem dX3_goes_15 : decode cX3_goes 15 = .ok (.iload_n 1, 1) := by decide +kernel
theorem dX3_goes_16 : decode cX3_goes 16 = .ok (.iadd, 1) := by decide +kernel
theorem dX3_goes_17 : decode cX3_goes 17 = .ok (.iaload, 1) := by decide +kernel
theorem dX3_goes_18 : decode cX3_goes 18 = .ok (.istore 4, 2) := by decide +kernel
theorem dX3_goes_20 : decode cX3_goes 20 = .ok (.aload_n 0, 1) := by decide +kernel
theorem dX3_goes_21 : decode cX3_goes 21 = .ok (.iload_n 1, 1) := by decide +kernel
theorem dX3_goes_22 : decode cX3_goes 22 = .ok (.iload_n 2, 1) := by decide +kernel
theorem dX3_goes_23 : decode cX3_goes 23 = .ok (.invokevirtual 87, 3) := by decide +kernel
theorem dX3_goes_26 : decode cX3_goes 26 = .ok (.istore 5, 2) := by decide +kernel
theorem dX3_goes_28 : decode cX3_goes 28 = .ok (.aload_n 0, 1) := by decide +kernel
theorem dX3_goes_29 : decode cX3_goes 29 = .ok (.getfield 7, 3) := by decide +kernel
theorem dX3_goes_32 : decode cX3_goes 32 = .ok (.bipush 72, 2) := by decide +kernel
theorem dX3_goes_34 : decode cX3_goes 34 = .ok (.iload_n 1, 1) := by decide +kernel
theorem dX3_goes_35 : decode cX3_goes 35 = .ok (.iadd, 1) := by decide +kernel
theorem dX3_goes_36 : decode cX3_goes 36 = .ok (.iaload, 1) := by decide +kernel
theorem dX3_goes_37 : decode cX3_goes 37 = .ok (.iload 5, 2) := by decide +kernel
theorem dX3_goes_39 : decode cX3_goes 39 = .ok (.isub, 1) := by decide +kernel
theorem dX3_goes_40 : decode cX3_goes 40 = .ok (.istore 6, 2) := by decide +kernel
theorem dX3_goes_42 : decode cX3_goes 42 = .ok (.aload_n 0, 1) := by decide +kernel
theorem dX3_goes_43 : decode cX3_goes 43 = .ok (.getfield 7, 3) := by decide +kernel
theorem dX3_goes_46 : decode cX3_goes 46 = .ok (.sipush 155, 3) := by decide +kernel
theorem dX3_goes_49 : decode cX3_goes 49 = .ok (.dup2, 1) := by decide +kernel
theorem dX3_goes_50 : decode cX3_goes 50 = .ok (.iaload, 1) := by decide +kernel
theorem dX3_goes_51 : decode cX3_goes 51 = .ok (.iload 5, 2) := by decide +kernel
theorem dX3_goes_53 : decode cX3_goes 53 = .ok (.iadd, 1) := by decide +kernel
theorem dX3_goes_54 : decode cX3_goes 54 = .ok (.iastore, 1) := by decide +kernel
theorem dX3_goes_55 : decode cX3_goes 55 = .ok (.aload_n 0, 1) := by decide +kernel
theorem dX3_goes_56 : decode cX3_goes 56 = .ok (.getfield 7, 3) := by decide +kernel
theorem dX3_goes_59 : decode cX3_goes 59 = .ok (.iconst 0, 1) := by decide +kernel
theorem dX3_goes_60 : decode cX3_goes 60 = .ok (.iload_n 2, 1) := by decide +kernel
theorem dX3_goes_61 : decode cX3_goes 61 = .ok (.iadd, 1) := by decide +kernel
theorem dX3_goes_62 : decode cX3_goes 62 = .ok (.iaload, 1) := by decide +kernel
theorem dX3_goes_63 : decode cX3_goes 63 = .ok (.iconst (-1), 1) := by decide +kernel
theorem dX3_goes_64 : decode cX3_goes 64 = .ok (.if_icmp .eq 127, 3) := by decide +kernel
theorem dX3_goes_67 : decode cX3_goes 67 = .ok (.aload_n 0, 1) := by decide +kernel
theorem dX3_goes_68 : decode cX3_goes 68 = .ok (.getfield 7, 3) := by decide +kernel
theorem dX3_goes_71 : decode cX3_goes 71 = .ok (.bipush 72, 2) := by decide +kernel
theorem dX3_goes_73 : decode cX3_goes 73 = .ok (.iload_n 2, 1) := by decide +kernel
theorem dX3_goes_74 : decode cX3_goes 74 = .ok (.iadd, 1) := by decide +kernel
theorem dX3_goes_75 : decode cX3_goes 75 = .ok (.iaload, 1) := by decide +kernel
theorem dX3_goes_76 : decode cX3_goes 76 = .ok (.istore 7, 2) := by decide +kernel
theorem dX3_goes_78 : decode cX3_goes 78 = .ok (.iload 7, 2) := by decide +kernel
theorem dX3_goes_80 : decode cX3_goes 80 = .ok (.iconst 2, 1) := by decide +kernel
theorem dX3_goes_81 : decode cX3_goes 81 = .ok (.idiv, 1) := by decide +kernel
theorem dX3_goes_82 : decode cX3_goes 82 = .ok (.aload_n 0, 1) := by decide +kernel
theorem dX3_goes_83 : decode cX3_goes 83 = .ok (.getfield 7, 3) := by decide +kernel
theorem dX3_goes_86 : decode cX3_goes 86 = .ok (.sipush 150, 3) := by decide +kernel
theorem dX3_goes_89 : decode cX3_goes 89 = .ok (.iaload, 1) := by decide +kernel
theorem dX3_goes_90 : decode cX3_goes 90 = .ok (.iadd, 1) := by decide +kernel
theorem dX3_goes_91 : decode cX3_goes 91 = .ok (.istore 8, 2) := by decide +kernel
theorem dX3_goes_93 : decode cX3_goes 93 = .ok (.aload_n 0, 1) := by decide +kernel
theorem dX3_goes_94 : decode cX3_goes 94 = .ok (.getfield 7, 3) := by decide +kernel
theorem dX3_goes_97 : decode cX3_goes 97 = .ok (.sipush 149, 3) := by decide +kernel
theorem dX3_goes_100 : decode cX3_goes 100 = .ok (.iaload, 1) := by decide +kernel
theorem dX3_goes_101 : decode cX3_goes 101 = .ok (.iload 6, 2) := by decide +kernel
theorem dX3_goes_103 : decode cX3_goes 103 = .ok (.iload 8, 2) := by decide +kernel
theorem dX3_goes_105 : decode cX3_goes 105 = .ok (.iadd, 1) := by decide +kernel
theorem dX3_goes_106 : decode cX3_goes 106 = .ok (.invokestatic 94, 3) := by decide +kernel
theorem dX3_goes_109 : decode cX3_goes 109 = .ok (.istore 9, 2) := by decide +kernel
theorem dX3_goes_111 : decode cX3_goes 111 = .ok (.aload_n 0, 1) := by decide +kernel
theorem dX3_goes_112 : decode cX3_goes 112 = .ok (.getfield 7, 3) := by decide +kernel
theorem dX3_goes_115 : decode cX3_goes 115 = .ok (.sipush 154, 3) := by decide +kernel
theorem dX3_goes_118 : decode cX3_goes 118 = .ok (.dup2, 1) := by decide +kernel
theorem dX3_goes_119 : decode cX3_goes 119 = .ok (.iaload, 1) := by decide +kernel
theorem dX3_goes_120 : decode cX3_goes 120 = .ok (.aload_n 0, 1) := by decide +kernel
theorem dX3_goes_121 : decode cX3_goes 121 = .ok (.getfield 7, 3) := by decide +kernel
theorem dX3_goes_124 : decode cX3_goes 124 = .ok (.sipush 150, 3) := by decide +kernel
theorem dX3_goes_127 : decode cX3_goes 127 = .ok (.iaload, 1) := by decide +kernel
theorem dX3_goes_128 : decode cX3_goes 128 = .ok (.iadd, 1) := by decide +kernel
theorem dX3_goes_129 : decode cX3_goes 129 = .ok (.iastore, 1) := by decide +kernel
theorem dX3_goes_130 : decode cX3_goes 130 = .ok (.aload_n 0, 1) := by decide +kernel
theorem dX3_goes_131 : decode cX3_goes 131 = .ok (.getfield 7, 3) := by decide +kernel
theorem dX3_goes_134 : decode cX3_goes 134 = .ok (.sipush 156, 3) := by decide +kernel
theorem dX3_goes_137 : decode cX3_goes 137 = .ok (.dup2, 1) := by decide +kernel
theorem dX3_goes_138 : decode cX3_goes 138 = .ok (.iaload, 1) := by decide +kernel
theorem dX3_goes_139 : decode cX3_goes 139 = .ok (.iload 7, 2) := by decide +kernel
theorem dX3_goes_141 : decode cX3_goes 141 = .ok (.iload 7, 2) := by decide +kernel
theorem dX3_goes_143 : decode cX3_goes 143 = .ok (.iconst 2, 1) := by decide +kernel
theorem dX3_goes_144 : decode cX3_goes 144 = .ok (.idiv, 1) := by decide +kernel
theorem dX3_goes_145 : decode cX3_goes 145 = .ok (.isub, 1) := by decide +kernel
theorem dX3_goes_146 : decode cX3_goes 146 = .ok (.iload 6, 2) := by decide +kernel
theorem dX3_goes_148 : decode cX3_goes 148 = .ok (.iadd, 1) := by decide +kernel
theorem dX3_goes_149 : decode cX3_goes 149 = .ok (.iload 8, 2) := by decide +kernel
theorem dX3_goes_151 : decode cX3_goes 151 = .ok (.iadd, 1) := by decide +kernel
theorem dX3_goes_152 : decode cX3_goes 152 = .ok (.iload 9, 2) := by decide +kernel
theorem dX3_goes_154 : decode cX3_goes 154 = .ok (.isub, 1) := by decide +kernel
theorem dX3_goes_155 : decode cX3_goes 155 = .ok (.iadd, 1) := by decide +kernel
theorem dX3_goes_156 : decode cX3_goes 156 = .ok (.iastore, 1) := by decide +kernel
theorem dX3_goes_157 : decode cX3_goes 157 = .ok (.iload 9, 2) := by decide +kernel
theorem dX3_goes_159 : decode cX3_goes 159 = .ok (.istore 6, 2) := by decide +kernel
theorem dX3_goes_161 : decode cX3_goes 161 = .ok (.aload_n 0, 1) := by decide +kernel
theorem dX3_goes_162 : decode cX3_goes 162 = .ok (.getfield 7, 3) := by decide +kernel
theorem dX3_goes_165 : decode cX3_goes 165 = .ok (.bipush 36, 2) := by decide +kernel
theorem dX3_goes_167 : decode cX3_goes 167 = .ok (.iload_n 2, 1) := by decide +kernel
theorem dX3_goes_168 : decode cX3_goes 168 = .ok (.iadd, 1) := by decide +kernel
theorem dX3_goes_169 : decode cX3_goes 169 = .ok (.iaload, 1) := by decide +kernel
theorem dX3_goes_170 : decode cX3_goes 170 = .ok (.ifCond .ne 21, 3) := by decide +kernel
theorem dX3_goes_173 : decode cX3_goes 173 = .ok (.aload_n 0, 1) := by decide +kernel
theorem dX3_goes_174 : decode cX3_goes 174 = .ok (.getfield 7, 3) := by decide +kernel
theorem dX3_goes_177 : decode cX3_goes 177 = .ok (.sipush 145, 3) := by decide +kernel
theorem dX3_goes_180 : decode cX3_goes 180 = .ok (.iconst 1, 1) := by decide +kernel
theorem dX3_goes_181 : decode cX3_goes 181 = .ok (.iastore, 1) := by decide +kernel
theorem dX3_goes_182 : decode cX3_goes 182 = .ok (.aload_n 0, 1) := by decide +kernel
theorem dX3_goes_183 : decode cX3_goes 183 = .ok (.getfield 7, 3) := by decide +kernel
theorem dX3_goes_186 : decode cX3_goes 186 = .ok (.sipush 146, 3) := by decide +kernel
theorem dX3_goes_189 : decode cX3_goes 189 = .ok (.iload_n 3, 1) := by decide +kernel
theorem dX3_goes_190 : decode cX3_goes 190 = .ok (.iastore, 1) := by decide +kernel
theorem dX3_goes_191 : decode cX3_goes 191 = .ok (.iload_n 2, 1) := by decide +kernel
theorem dX3_goes_192 : decode cX3_goes 192 = .ok (.bipush 6, 2) := by decide +kernel
theorem dX3_goes_194 : decode cX3_goes 194 = .ok (.idiv, 1) := by decide +kernel
theorem dX3_goes_195 : decode cX3_goes 195 = .ok (.iconst 5, 1) := by decide +kernel
theorem dX3_goes_196 : decode cX3_goes 196 = .ok (.iconst 5, 1) := by decide +kernel
theorem dX3_goes_197 : decode cX3_goes 197 = .ok (.iload_n 3, 1) := by decide +kernel
theorem dX3_goes_198 : decode cX3_goes 198 = .ok (.imul, 1) := by decide +kernel
theorem dX3_goes_199 : decode cX3_goes 199 = .ok (.isub, 1) := by decide +kernel
theorem dX3_goes_200 : decode cX3_goes 200 = .ok (.if_icmp .ne 7, 3) := by decide +kernel
theorem dX3_goes_203 : decode cX3_goes 203 = .ok (.iconst 1, 1) := by decide +kernel
theorem dX3_goes_204 : decode cX3_goes 204 = .ok (.goto 4, 3) := by decide +kernel
theorem dX3_goes_207 : decode cX3_goes 207 = .ok (.iconst 0, 1) := by decide +kernel
theorem dX3_goes_208 : decode cX3_goes 208 = .ok (.istore 7, 2) := by decide +kernel
theorem dX3_goes_210 : decode cX3_goes 210 = .ok (.aload_n 0, 1) := by decide +kernel
theorem dX3_goes_211 : decode cX3_goes 211 = .ok (.iload_n 1, 1) := by decide +kernel
theorem dX3_goes_212 : decode cX3_goes 212 = .ok (.iconst (-1), 1) := by decide +kernel
theorem dX3_goes_213 : decode cX3_goes 213 = .ok (.iconst 0, 1) := by decide +kernel
theorem dX3_goes_214 : decode cX3_goes 214 = .ok (.iconst 0, 1) := by decide +kernel
theorem dX3_goes_215 : decode cX3_goes 215 = .ok (.invokevirtual 43, 3) := by decide +kernel
theorem dX3_goes_218 : decode cX3_goes 218 = .ok (.aload_n 0, 1) := by decide +kernel
theorem dX3_goes_219 : decode cX3_goes 219 = .ok (.iload_n 2, 1) := by decide +kernel
theorem dX3_goes_220 : decode cX3_goes 220 = .ok (.iload_n 3, 1) := by decide +kernel
theorem dX3_goes_221 : decode cX3_goes 221 = .ok (.iload 4, 2) := by decide +kernel
theorem dX3_goes_223 : decode cX3_goes 223 = .ok (.iconst 4, 1) := by decide +kernel
theorem dX3_goes_224 : decode cX3_goes 224 = .ok (.if_icmp .ne 12, 3) := by decide +kernel
theorem dX3_goes_227 : decode cX3_goes 227 = .ok (.iload 7, 2) := by decide +kernel
theorem dX3_goes_229 : decode cX3_goes 229 = .ok (.ifCond .eq 7, 3) := by decide +kernel
theorem dX3_goes_232 : decode cX3_goes 232 = .ok (.iconst 1, 1) := by decide +kernel
theorem dX3_goes_233 : decode cX3_goes 233 = .ok (.goto 5, 3) := by decide +kernel
theorem dX3_goes_236 : decode cX3_goes 236 = .ok (.iload 4, 2) := by decide +kernel
theorem dX3_goes_238 : decode cX3_goes 238 = .ok (.iload 6, 2) := by decide +kernel
theorem dX3_goes_240 : decode cX3_goes 240 = .ok (.invokevirtual 43, 3) := by decide +kernel
theorem dX3_goes_243 : decode cX3_goes 243 = .ok (.return_, 1) := by decide +kernel
theorem dX3_turns_0 : decode cX3_turns 0 = .ok (.aload_n 0, 1) := by decide +kernel
theorem dX3_turns_1 : decode cX3_turns 1 = .ok (.getfield 7, 3) := by decide +kernel
theorem dX3_turns_4 : decode cX3_turns 4 = .ok (.sipush 144, 3) := by decide +kernel
theorem dX3_turns_7 : decode cX3_turns 7 = .ok (.iconst 1, 1) := by decide +kernel
theorem dX3_turns_8 : decode cX3_turns 8 = .ok (.aload_n 0, 1) := by decide +kernel
theorem dX3_turns_9 : decode cX3_turns 9 = .ok (.getfield 7, 3) := by decide +kernel
theorem dX3_turns_12 : decode cX3_turns 12 = .ok (.sipush 144, 3) := by decide +kernel
theorem dX3_turns_15 : decode cX3_turns 15 = .ok (.iaload, 1) := by decide +kernel
theorem dX3_turns_16 : decode cX3_turns 16 = .ok (.isub, 1) := by decide +kernel
theorem dX3_turns_17 : decode cX3_turns 17 = .ok (.iastore, 1) := by decide +kernel
theorem dX3_turns_18 : decode cX3_turns 18 = .ok (.iconst 0, 1) := by decide +kernel
theorem dX3_turns_19 : decode cX3_turns 19 = .ok (.istore_n 1, 1) := by decide +kernel
theorem dX3_turns_20 : decode cX3_turns 20 = .ok (.iload_n 1, 1) := by decide +kernel
theorem dX3_turns_21 : decode cX3_turns 21 = .ok (.bipush 36, 2) := by decide +kernel
theorem dX3_turns_23 : decode cX3_turns 23 = .ok (.if_icmp .ge 96, 3) := by decide +kernel
theorem dX3_turns_26 : decode cX3_turns 26 = .ok (.aload_n 0, 1) := by decide +kernel
theorem dX3_turns_27 : decode cX3_turns 27 = .ok (.getfield 7, 3) := by decide +kernel
theorem dX3_turns_30 : decode cX3_turns 30 = .ok (.bipush 108, 2) := by decide +kernel
theorem dX3_turns_32 : decode cX3_turns 32 = .ok (.iload_n 1, 1) := by decide +kernel
theorem dX3_turns_33 : decode cX3_turns 33 = .ok (.iadd, 1) := by decide +kernel
theorem dX3_turns_34 : decode cX3_turns 34 = .ok (.iaload, 1) := by decide +kernel
theorem dX3_turns_35 : decode cX3_turns 35 = .ok (.iconst 1, 1) := by decide +kernel
theorem dX3_turns_36 : decode cX3_turns 36 = .ok (.if_icmp .ne 77, 3) := by decide +kernel
theorem dX3_turns_39 : decode cX3_turns 39 = .ok (.aload_n 0, 1) := by decide +kernel
theorem dX3_turns_40 : decode cX3_turns 40 = .ok (.getfield 7, 3) := by decide +kernel
theorem dX3_turns_43 : decode cX3_turns 43 = .ok (.iconst 0, 1) := by decide +kernel
theorem dX3_turns_44 : decode cX3_turns 44 = .ok (.iload_n 1, 1) := by decide +kernel
theorem dX3_turns_45 : decode cX3_turns 45 = .ok (.iadd, 1) := by decide +kernel
theorem dX3_turns_46 : decode cX3_turns 46 = .ok (.iaload, 1) := by decide +kernel
theorem dX3_turns_47 : decode cX3_turns 47 = .ok (.aload_n 0, 1) := by decide +kernel
theorem dX3_turns_48 : decode cX3_turns 48 = .ok (.getfield 7, 3) := by decide +kernel
theorem dX3_turns_51 : decode cX3_turns 51 = .ok (.sipush 144, 3) := by decide +kernel
theorem dX3_turns_54 : decode cX3_turns 54 = .ok (.iaload, 1) := by decide +kernel
theorem dX3_turns_55 : decode cX3_turns 55 = .ok (.if_icmp .ne 58, 3) := by decide +kernel
theorem dX3_turns_58 : decode cX3_turns 58 = .ok (.aload_n 0, 1) := by decide +kernel
theorem dX3_turns_59 : decode cX3_turns 59 = .ok (.getfield 7, 3) := by decide +kernel
theorem dX3_turns_62 : decode cX3_turns 62 = .ok (.sipush 151, 3) := by decide +kernel
theorem dX3_turns_65 : decode cX3_turns 65 = .ok (.iaload, 1) := by decide +kernel
theorem dX3_turns_66 : decode cX3_turns 66 = .ok (.aload_n 0, 1) := by decide +kernel
theorem dX3_turns_67 : decode cX3_turns 67 = .ok (.getfield 7, 3) := by decide +kernel
theorem dX3_turns_70 : decode cX3_turns 70 = .ok (.sipush 149, 3) := by decide +kernel
theorem dX3_turns_73 : decode cX3_turns 73 = .ok (.iaload, 1) := by decide +kernel
theorem dX3_turns_74 : decode cX3_turns 74 = .ok (.aload_n 0, 1) := by decide +kernel
theorem dX3_turns_75 : decode cX3_turns 75 = .ok (.getfield 7, 3) := by decide +kernel
theorem dX3_turns_78 : decode cX3_turns 78 = .ok (.bipush 72, 2) := by decide +kernel
theorem dX3_turns_80 : decode cX3_turns 80 = .ok (.iload_n 1, 1) := by decide +kernel
theorem dX3_turns_81 : decode cX3_turns 81 = .ok (.iadd, 1) := by decide +kernel
theorem dX3_turns_82 : decode cX3_turns 82 = .ok (.iaload, 1) := by decide +kernel
theorem dX3_turns_83 : decode cX3_turns 83 = .ok (.isub, 1) := by decide +kernel
theorem dX3_turns_84 : decode cX3_turns 84 = .ok (.invokestatic 94, 3) := by decide +kernel
theorem dX3_turns_87 : decode cX3_turns 87 = .ok (.istore_n 2, 1) := by decide +kernel
theorem dX3_turns_88 : decode cX3_turns 88 = .ok (.aload_n 0, 1) := by decide +kernel
theorem dX3_turns_89 : decode cX3_turns 89 = .ok (.getfield 7, 3) := by decide +kernel
theorem dX3_turns_92 : decode cX3_turns 92 = .ok (.bipush 72, 2) := by decide +kernel
theorem dX3_turns_94 : decode cX3_turns 94 = .ok (.iload_n 1, 1) := by decide +kernel
theorem dX3_turns_95 : decode cX3_turns 95 = .ok (.iadd, 1) := by decide +kernel
theorem dX3_turns_96 : decode cX3_turns 96 = .ok (.dup2, 1) := by decide +kernel
theorem dX3_turns_97 : decode cX3_turns 97 = .ok (.iaload, 1) := by decide +kernel
theorem dX3_turns_98 : decode cX3_turns 98 = .ok (.iload_n 2, 1) := by decide +kernel
theorem dX3_turns_99 : decode cX3_turns 99 = .ok (.iadd, 1) := by decide +kernel
theorem dX3_turns_100 : decode cX3_turns 100 = .ok (.iastore, 1) := by decide +kernel
theorem dX3_turns_101 : decode cX3_turns 101 = .ok (.aload_n 0, 1) := by decide +kernel
theorem dX3_turns_102 : decode cX3_turns 102 = .ok (.getfield 7, 3) := by decide +kernel
theorem dX3_turns_105 : decode cX3_turns 105 = .ok (.sipush 153, 3) := by decide +kernel
theorem dX3_turns_108 : decode cX3_turns 108 = .ok (.dup2, 1) := by decide +kernel
theorem dX3_turns_109 : decode cX3_turns 109 = .ok (.iaload, 1) := by decide +kernel
theorem dX3_turns_110 : decode cX3_turns 110 = .ok (.iload_n 2, 1) := by decide +kernel
theorem dX3_turns_111 : decode cX3_turns 111 = .ok (.iadd, 1) := by decide +kernel
theorem dX3_turns_112 : decode cX3_turns 112 = .ok (.iastore, 1) := by decide +kernel
theorem dX3_turns_113 : decode cX3_turns 113 = .ok (.iinc 1 1, 3) := by decide +kernel
theorem dX3_turns_116 : decode cX3_turns 116 = .ok (.goto (-96), 3) := by decide +kernel
theorem dX3_turns_119 : decode cX3_turns 119 = .ok (.return_, 1) := by decide +kernel
theorem dX3_makes_0 : decode cX3_makes 0 = .ok (.aload_n 0, 1) := by decide +kernel
theorem dX3_makes_1 : decode cX3_makes 1 = .ok (.iload_n 1, 1) := by decide +kernel
theorem dX3_makes_2 : decode cX3_makes 2 = .ok (.iload_n 2, 1) := by decide +kernel
theorem dX3_makes_3 : decode cX3_makes 3 = .ok (.invokevirtual 97, 3) := by decide +kernel
theorem dX3_makes_6 : decode cX3_makes 6 = .ok (.aload_n 0, 1) := by decide +kernel
theorem dX3_makes_7 : decode cX3_makes 7 = .ok (.getfield 7, 3) := by decide +kernel
theorem dX3_makes_10 : decode cX3_makes 10 = .ok (.sipush 147, 3) := by decide +kernel
theorem dX3_makes_13 : decode cX3_makes 13 = .ok (.dup2, 1) := by decide +kernel
theorem dX3_makes_14 : decode cX3_makes 14 = .ok (.iaload, 1) := by decide +kernel
theorem dX3_makes_15 : decode cX3_makes 15 = .ok (.iconst 1, 1) := by decide +kernel
theorem dX3_makes_16 : decode cX3_makes 16 = .ok (.iadd, 1) := by decide +kernel
theorem dX3_makes_17 : decode cX3_makes 17 = .ok (.iastore, 1) := by decide +kernel
theorem dX3_makes_18 : decode cX3_makes 18 = .ok (.aload_n 0, 1) := by decide +kernel
theorem dX3_makes_19 : decode cX3_makes 19 = .ok (.getfield 7, 3) := by decide +kernel
theorem dX3_makes_22 : decode cX3_makes 22 = .ok (.sipush 148, 3) := by decide +kernel
theorem dX3_makes_25 : decode cX3_makes 25 = .ok (.iconst 0, 1) := by decide +kernel
theorem dX3_makes_26 : decode cX3_makes 26 = .ok (.iastore, 1) := by decide +kernel
theorem dX3_makes_27 : decode cX3_makes 27 = .ok (.aload_n 0, 1) := by decide +kernel
theorem dX3_makes_28 : decode cX3_makes 28 = .ok (.getfield 7, 3) := by decide +kernel
theorem dX3_makes_31 : decode cX3_makes 31 = .ok (.sipush 145, 3) := by decide +kernel
theorem dX3_makes_34 : decode cX3_makes 34 = .ok (.iaload, 1) := by decide +kernel
theorem dX3_makes_35 : decode cX3_makes 35 = .ok (.ifCond .ne 7, 3) := by decide +kernel
theorem dX3_makes_38 : decode cX3_makes 38 = .ok (.aload_n 0, 1) := by decide +kernel
theorem dX3_makes_39 : decode cX3_makes 39 = .ok (.invokevirtual 101, 3) := by decide +kernel
theorem dX3_makes_42 : decode cX3_makes 42 = .ok (.return_, 1) := by decide +kernel
theorem dX3_passes_0 : decode cX3_passes 0 = .ok (.aload_n 0, 1) := by decide +kernel
theorem dX3_passes_1 : decode cX3_passes 1 = .ok (.getfield 7, 3) := by decide +kernel
theorem dX3_passes_4 : decode cX3_passes 4 = .ok (.sipush 147, 3) := by decide +kernel
theorem dX3_passes_7 : decode cX3_passes 7 = .ok (.dup2, 1) := by decide +kernel
theorem dX3_passes_8 : decode cX3_passes 8 = .ok (.iaload, 1) := by decide +kernel
theorem dX3_passes_9 : decode cX3_passes 9 = .ok (.iconst 1, 1) := by decide +kernel
theorem dX3_passes_10 : decode cX3_passes 10 = .ok (.iadd, 1) := by decide +kernel
theorem dX3_passes_11 : decode cX3_passes 11 = .ok (.iastore, 1) := by decide +kernel
theorem dX3_passes_12 : decode cX3_passes 12 = .ok (.aload_n 0, 1) := by decide +kernel
theorem dX3_passes_13 : decode cX3_passes 13 = .ok (.getfield 7, 3) := by decide +kernel
theorem dX3_passes_16 : decode cX3_passes 16 = .ok (.sipush 148, 3) := by decide +kernel
theorem dX3_passes_19 : decode cX3_passes 19 = .ok (.iaload, 1) := by decide +kernel
theorem dX3_passes_20 : decode cX3_passes 20 = .ok (.iconst 1, 1) := by decide +kernel
theorem dX3_passes_21 : decode cX3_passes 21 = .ok (.if_icmp .ne 52, 3) := by decide +kernel
theorem dX3_passes_24 : decode cX3_passes 24 = .ok (.aload_n 0, 1) := by decide +kernel
theorem dX3_passes_25 : decode cX3_passes 25 = .ok (.getfield 7, 3) := by decide +kernel
theorem dX3_passes_28 : decode cX3_passes 28 = .ok (.sipush 145, 3) := by decide +kernel
theorem dX3_passes_31 : decode cX3_passes 31 = .ok (.iconst 2, 1) := by decide +kernel
theorem dX3_passes_32 : decode cX3_passes 32 = .ok (.iastore, 1) := by decide +kernel
theorem dX3_passes_33 : decode cX3_passes 33 = .ok (.aload_n 0, 1) := by decide +kernel
theorem dX3_passes_34 : decode cX3_passes 34 = .ok (.iconst 0, 1) := by decide +kernel
theorem dX3_passes_35 : decode cX3_passes 35 = .ok (.invokevirtual 39, 3) := by decide +kernel
theorem dX3_passes_38 : decode cX3_passes 38 = .ok (.aload_n 0, 1) := by decide +kernel
theorem dX3_passes_39 : decode cX3_passes 39 = .ok (.iconst 1, 1) := by decide +kernel
theorem dX3_passes_40 : decode cX3_passes 40 = .ok (.invokevirtual 39, 3) := by decide +kernel
theorem dX3_passes_43 : decode cX3_passes 43 = .ok (.isub, 1) := by decide +kernel
theorem dX3_passes_44 : decode cX3_passes 44 = .ok (.istore_n 1, 1) := by decide +kernel
theorem dX3_passes_45 : decode cX3_passes 45 = .ok (.aload_n 0, 1) := by decide +kernel
theorem dX3_passes_46 : decode cX3_passes 46 = .ok (.getfield 7, 3) := by decide +kernel
theorem dX3_passes_49 : decode cX3_passes 49 = .ok (.sipush 146, 3) := by decide +kernel
theorem dX3_passes_52 : decode cX3_passes 52 = .ok (.iload_n 1, 1) := by decide +kernel
theorem dX3_passes_53 : decode cX3_passes 53 = .ok (.ifCond .le 7, 3) := by decide +kernel
theorem dX3_passes_56 : decode cX3_passes 56 = .ok (.iconst 0, 1) := by decide +kernel
theorem dX3_passes_57 : decode cX3_passes 57 = .ok (.goto 12, 3) := by decide +kernel
theorem dX3_passes_60 : decode cX3_passes 60 = .ok (.iload_n 1, 1) := by decide +kernel
theorem dX3_passes_61 : decode cX3_passes 61 = .ok (.ifCond .ge 7, 3) := by decide +kernel
theorem dX3_passes_64 : decode cX3_passes 64 = .ok (.iconst 1, 1) := by decide +kernel
theorem dX3_passes_65 : decode cX3_passes 65 = .ok (.goto 4, 3) := by decide +kernel
theorem dX3_passes_68 : decode cX3_passes 68 = .ok (.iconst (-1), 1) := by decide +kernel
theorem dX3_passes_69 : decode cX3_passes 69 = .ok (.iastore, 1) := by decide +kernel
theorem dX3_passes_70 : decode cX3_passes 70 = .ok (.goto 16, 3) := by decide +kernel
theorem dX3_passes_73 : decode cX3_passes 73 = .ok (.aload_n 0, 1) := by decide +kernel
theorem dX3_passes_74 : decode cX3_passes 74 = .ok (.getfield 7, 3) := by decide +kernel
theorem dX3_passes_77 : decode cX3_passes 77 = .ok (.sipush 148, 3) := by decide +kernel
theorem dX3_passes_80 : decode cX3_passes 80 = .ok (.iconst 1, 1) := by decide +kernel
theorem dX3_passes_81 : decode cX3_passes 81 = .ok (.iastore, 1) := by decide +kernel
theorem dX3_passes_82 : decode cX3_passes 82 = .ok (.aload_n 0, 1) := by decide +kernel
theorem dX3_passes_83 : decode cX3_passes 83 = .ok (.invokevirtual 101, 3) := by decide +kernel
theorem dX3_passes_86 : decode cX3_passes 86 = .ok (.return_, 1) := by decide +kernel
theorem dX3_refuses_0 : decode cX3_refuses 0 = .ok (.aload_n 0, 1) := by decide +kernel
theorem dX3_refuses_1 : decode cX3_refuses 1 = .ok (.getfield 7, 3) := by decide +kernel
theorem dX3_refuses_4 : decode cX3_refuses 4 = .ok (.sipush 145, 3) := by decide +kernel
theorem dX3_refuses_7 : decode cX3_refuses 7 = .ok (.iaload, 1) := by decide +kernel
theorem dX3_refuses_8 : decode cX3_refuses 8 = .ok (.ifCond .le 5, 3) := by decide +kernel
theorem dX3_refuses_11 : decode cX3_refuses 11 = .ok (.iconst 2, 1) := by decide +kernel
theorem dX3_refuses_12 : decode cX3_refuses 12 = .ok (.ireturn, 1) := by decide +kernel
theorem dX3_refuses_13 : decode cX3_refuses 13 = .ok (.aload_n 0, 1) := by decide +kernel
theorem dX3_refuses_14 : decode cX3_refuses 14 = .ok (.getfield 7, 3) := by decide +kernel
theorem dX3_refuses_17 : decode cX3_refuses 17 = .ok (.iconst 0, 1) := by decide +kernel
theorem dX3_refuses_18 : decode cX3_refuses 18 = .ok (.iload_n 1, 1) := by decide +kernel
theorem dX3_refuses_19 : decode cX3_refuses 19 = .ok (.iadd, 1) := by decide +kernel
theorem dX3_refuses_20 : decode cX3_refuses 20 = .ok (.iaload, 1) := by decide +kernel
theorem dX3_refuses_21 : decode cX3_refuses 21 = .ok (.iconst (-1), 1) := by decide +kernel
theorem dX3_refuses_22 : decode cX3_refuses 22 = .ok (.if_icmp .ne 5, 3) := by decide +kernel
theorem dX3_refuses_25 : decode cX3_refuses 25 = .ok (.iconst 3, 1) := by decide +kernel
theorem dX3_refuses_26 : decode cX3_refuses 26 = .ok (.ireturn, 1) := by decide +kernel
theorem dX3_refuses_27 : decode cX3_refuses 27 = .ok (.aload_n 0, 1) := by decide +kernel
theorem dX3_refuses_28 : decode cX3_refuses 28 = .ok (.getfield 7, 3) := by decide +kernel
theorem dX3_refuses_31 : decode cX3_refuses 31 = .ok (.iconst 0, 1) := by decide +kernel
theorem dX3_refuses_32 : decode cX3_refuses 32 = .ok (.iload_n 1, 1) := by decide +kernel
theorem dX3_refuses_33 : decode cX3_refuses 33 = .ok (.iadd, 1) := by decide +kernel
theorem dX3_refuses_34 : decode cX3_refuses 34 = .ok (.iaload, 1) := by decide +kernel
theorem dX3_refuses_35 : decode cX3_refuses 35 = .ok (.aload_n 0, 1) := by decide +kernel
theorem dX3_refuses_36 : decode cX3_refuses 36 = .ok (.getfield 7, 3) := by decide +kernel
theorem dX3_refuses_39 : decode cX3_refuses 39 = .ok (.sipush 144, 3) := by decide +kernel
theorem dX3_refuses_42 : decode cX3_refuses 42 = .ok (.iaload, 1) := by decide +kernel
theorem dX3_refuses_43 : decode cX3_refuses 43 = .ok (.if_icmp .eq 5, 3) := by decide +kernel
theorem dX3_refuses_46 : decode cX3_refuses 46 = .ok (.iconst 4, 1) := by decide +kernel
theorem dX3_refuses_47 : decode cX3_refuses 47 = .ok (.ireturn, 1) := by decide +kernel
theorem dX3_refuses_48 : decode cX3_refuses 48 = .ok (.aload_n 0, 1) := by decide +kernel
theorem dX3_refuses_49 : decode cX3_refuses 49 = .ok (.getfield 7, 3) := by decide +kernel
theorem dX3_refuses_52 : decode cX3_refuses 52 = .ok (.iconst 0, 1) := by decide +kernel
theorem dX3_refuses_53 : decode cX3_refuses 53 = .ok (.iload_n 2, 1) := by decide +kernel
theorem dX3_refuses_54 : decode cX3_refuses 54 = .ok (.iadd, 1) := by decide +kernel
theorem dX3_refuses_55 : decode cX3_refuses 55 = .ok (.iaload, 1) := by decide +kernel
theorem dX3_refuses_56 : decode cX3_refuses 56 = .ok (.aload_n 0, 1) := by decide +kernel
theorem dX3_refuses_57 : decode cX3_refuses 57 = .ok (.getfield 7, 3) := by decide +kernel
theorem dX3_refuses_60 : decode cX3_refuses 60 = .ok (.sipush 144, 3) := by decide +kernel
theorem dX3_refuses_63 : decode cX3_refuses 63 = .ok (.iaload, 1) := by decide +kernel
theorem dX3_refuses_64 : decode cX3_refuses 64 = .ok (.if_icmp .ne 5, 3) := by decide +kernel
theorem dX3_refuses_67 : decode cX3_refuses 67 = .ok (.iconst 5, 1) := by decide +kernel
theorem dX3_refuses_68 : decode cX3_refuses 68 = .ok (.ireturn, 1) := by decide +kernel
theorem dX3_refuses_69 : decode cX3_refuses 69 = .ok (.aload_n 0, 1) := by decide +kernel
theorem dX3_refuses_70 : decode cX3_refuses 70 = .ok (.iload_n 1, 1) := by decide +kernel
theorem dX3_refuses_71 : decode cX3_refuses 71 = .ok (.iload_n 2, 1) := by decide +kernel
theorem dX3_refuses_72 : decode cX3_refuses 72 = .ok (.invokevirtual 87, 3) := by decide +kernel
theorem dX3_refuses_75 : decode cX3_refuses 75 = .ok (.ifCond .ge 8, 3) := by decide +kernel
theorem dX3_refuses_78 : decode cX3_refuses 78 = .ok (.bipush 6, 2) := by decide +kernel
theorem dX3_refuses_80 : decode cX3_refuses 80 = .ok (.goto 18, 3) := by decide +kernel
theorem dX3_refuses_83 : decode cX3_refuses 83 = .ok (.aload_n 0, 1) := by decide +kernel
theorem dX3_refuses_84 : decode cX3_refuses 84 = .ok (.iload_n 1, 1) := by decide +kernel
theorem dX3_refuses_85 : decode cX3_refuses 85 = .ok (.iload_n 2, 1) := by decide +kernel
theorem dX3_refuses_86 : decode cX3_refuses 86 = .ok (.invokevirtual 91, 3) := by decide +kernel
theorem dX3_refuses_89 : decode cX3_refuses 89 = .ok (.ifCond .eq 7, 3) := by decide +kernel
theorem dX3_refuses_92 : decode cX3_refuses 92 = .ok (.iconst 0, 1) := by decide +kernel
theorem dX3_refuses_93 : decode cX3_refuses 93 = .ok (.goto 5, 3) := by decide +kernel
theorem dX3_refuses_96 : decode cX3_refuses 96 = .ok (.bipush 7, 2) := by decide +kernel
theorem dX3_refuses_98 : decode cX3_refuses 98 = .ok (.ireturn, 1) := by decide +kernel
theorem dX3_refusesPass_0 : decode cX3_refusesPass 0 = .ok (.aload_n 0, 1) := by decide +kernel
theorem dX3_refusesPass_1 : decode cX3_refusesPass 1 = .ok (.getfield 7, 3) := by decide +kernel
theorem dX3_refusesPass_4 : decode cX3_refusesPass 4 = .ok (.sipush 145, 3) := by decide +kernel
theorem dX3_refusesPass_7 : decode cX3_refusesPass 7 = .ok (.iaload, 1) := by decide +kernel
theorem dX3_refusesPass_8 : decode cX3_refusesPass 8 = .ok (.ifCond .le 7, 3) := by decide +kernel
theorem dX3_refusesPass_11 : decode cX3_refusesPass 11 = .ok (.iconst 2, 1) := by decide +kernel
theorem dX3_refusesPass_12 : decode cX3_refusesPass 12 = .ok (.goto 24, 3) := by decide +kernel
theorem dX3_refusesPass_15 : decode cX3_refusesPass 15 = .ok (.aload_n 0, 1) := by decide +kernel
theorem dX3_refusesPass_16 : decode cX3_refusesPass 16 = .ok (.aload_n 0, 1) := by decide +kernel
theorem dX3_refusesPass_17 : decode cX3_refusesPass 17 = .ok (.getfield 7, 3) := by decide +kernel
theorem dX3_refusesPass_20 : decode cX3_refusesPass 20 = .ok (.sipush 144, 3) := by decide +kernel
theorem dX3_refusesPass_23 : decode cX3_refusesPass 23 = .ok (.iaload, 1) := by decide +kernel
theorem dX3_refusesPass_24 : decode cX3_refusesPass 24 = .ok (.invokevirtual 104, 3) := by decide +kernel
theorem dX3_refusesPass_27 : decode cX3_refusesPass 27 = .ok (.ifCond .le 8, 3) := by decide +kernel
theorem dX3_refusesPass_30 : decode cX3_refusesPass 30 = .ok (.bipush 8, 2) := by decide +kernel
theorem dX3_refusesPass_32 : decode cX3_refusesPass 32 = .ok (.goto 4, 3) := by decide +kernel
theorem dX3_refusesPass_35 : decode cX3_refusesPass 35 = .ok (.iconst 0, 1) := by decide +kernel
theorem dX3_refusesPass_36 : decode cX3_refusesPass 36 = .ok (.ireturn, 1) := by decide +kernel
theorem dX3_move_0 : decode cX3_move 0 = .ok (.iload_n 1, 1) := by decide +kernel
theorem dX3_move_1 : decode cX3_move 1 = .ok (.invokestatic 58, 3) := by decide +kernel
theorem dX3_move_4 : decode cX3_move 4 = .ok (.ifCond .eq 10, 3) := by decide +kernel
theorem dX3_move_7 : decode cX3_move 7 = .ok (.iload_n 2, 1) := by decide +kernel
theorem dX3_move_8 : decode cX3_move 8 = .ok (.invokestatic 58, 3) := by decide +kernel
theorem dX3_move_11 : decode cX3_move 11 = .ok (.ifCond .ne 5, 3) := by decide +kernel
theorem dX3_move_14 : decode cX3_move 14 = .ok (.iconst (-1), 1) := by decide +kernel
theorem dX3_move_15 : decode cX3_move 15 = .ok (.ireturn, 1) := by decide +kernel
theorem dX3_move_16 : decode cX3_move 16 = .ok (.aload_n 0, 1) := by decide +kernel
theorem dX3_move_17 : decode cX3_move 17 = .ok (.iload_n 1, 1) := by decide +kernel
theorem dX3_move_18 : decode cX3_move 18 = .ok (.iload_n 2, 1) := by decide +kernel
theorem dX3_move_19 : decode cX3_move 19 = .ok (.invokevirtual 107, 3) := by decide +kernel
theorem dX3_move_22 : decode cX3_move 22 = .ok (.ifCond .eq 6, 3) := by decide +kernel
theorem dX3_move_25 : decode cX3_move 25 = .ok (.bipush (-2), 2) := by decide +kernel
theorem dX3_move_27 : decode cX3_move 27 = .ok (.ireturn, 1) := by decide +kernel
theorem dX3_move_28 : decode cX3_move 28 = .ok (.aload_n 0, 1) := by decide +kernel
theorem dX3_move_29 : decode cX3_move 29 = .ok (.invokevirtual 51, 3) := by decide +kernel
theorem dX3_move_32 : decode cX3_move 32 = .ok (.aload_n 0, 1) := by decide +kernel
theorem dX3_move_33 : decode cX3_move 33 = .ok (.iload_n 1, 1) := by decide +kernel
theorem dX3_move_34 : decode cX3_move 34 = .ok (.iload_n 2, 1) := by decide +kernel
theorem dX3_move_35 : decode cX3_move 35 = .ok (.invokevirtual 87, 3) := by decide +kernel
theorem dX3_move_38 : decode cX3_move 38 = .ok (.istore_n 3, 1) := by decide +kernel
theorem dX3_move_39 : decode cX3_move 39 = .ok (.aload_n 0, 1) := by decide +kernel
theorem dX3_move_40 : decode cX3_move 40 = .ok (.iload_n 1, 1) := by decide +kernel
theorem dX3_move_41 : decode cX3_move 41 = .ok (.iload_n 2, 1) := by decide +kernel
theorem dX3_move_42 : decode cX3_move 42 = .ok (.invokevirtual 110, 3) := by decide +kernel
theorem dX3_move_45 : decode cX3_move 45 = .ok (.iload_n 3, 1) := by decide +kernel
theorem dX3_move_46 : decode cX3_move 46 = .ok (.ireturn, 1) := by decide +kernel
theorem dX3_pass_0 : decode cX3_pass 0 = .ok (.aload_n 0, 1) := by decide +kernel
theorem dX3_pass_1 : decode cX3_pass 1 = .ok (.invokevirtual 113, 3) := by decide +kernel
theorem dX3_pass_4 : decode cX3_pass 4 = .ok (.ifCond .eq 6, 3) := by decide +kernel
theorem dX3_pass_7 : decode cX3_pass 7 = .ok (.bipush (-2), 2) := by decide +kernel
theorem dX3_pass_9 : decode cX3_pass 9 = .ok (.ireturn, 1) := by decide +kernel
theorem dX3_pass_10 : decode cX3_pass 10 = .ok (.aload_n 0, 1) := by decide +kernel
theorem dX3_pass_11 : decode cX3_pass 11 = .ok (.invokevirtual 51, 3) := by decide +kernel
theorem dX3_pass_14 : decode cX3_pass 14 = .ok (.aload_n 0, 1) := by decide +kernel
theorem dX3_pass_15 : decode cX3_pass 15 = .ok (.invokevirtual 116, 3) := by decide +kernel
theorem dX3_pass_18 : decode cX3_pass 18 = .ok (.aload_n 0, 1) := by decide +kernel
theorem dX3_pass_19 : decode cX3_pass 19 = .ok (.getfield 7, 3) := by decide +kernel
theorem dX3_pass_22 : decode cX3_pass 22 = .ok (.sipush 145, 3) := by decide +kernel
theorem dX3_pass_25 : decode cX3_pass 25 = .ok (.iaload, 1) := by decide +kernel
theorem dX3_pass_26 : decode cX3_pass 26 = .ok (.ifCond .le 7, 3) := by decide +kernel
theorem dX3_pass_29 : decode cX3_pass 29 = .ok (.iconst 1, 1) := by decide +kernel
theorem dX3_pass_30 : decode cX3_pass 30 = .ok (.goto 4, 3) := by decide +kernel
theorem dX3_pass_33 : decode cX3_pass 33 = .ok (.iconst 0, 1) := by decide +kernel
theorem dX3_pass_34 : decode cX3_pass 34 = .ok (.ireturn, 1) := by decide +kernel
theorem dX3_refusal_0 : decode cX3_refusal 0 = .ok (.iload_n 1, 1) := by decide +kernel
theorem dX3_refusal_1 : decode cX3_refusal 1 = .ok (.invokestatic 58, 3) := by decide +kernel
theorem dX3_refusal_4 : decode cX3_refusal 4 = .ok (.ifCond .eq 19, 3) := by decide +kernel
theorem dX3_refusal_7 : decode cX3_refusal 7 = .ok (.iload_n 2, 1) := by decide +kernel
theorem dX3_refusal_8 : decode cX3_refusal 8 = .ok (.invokestatic 58, 3) := by decide +kernel
theorem dX3_refusal_11 : decode cX3_refusal 11 = .ok (.ifCond .eq 12, 3) := by decide +kernel
theorem dX3_refusal_14 : decode cX3_refusal 14 = .ok (.aload_n 0, 1) := by decide +kernel
theorem dX3_refusal_15 : decode cX3_refusal 15 = .ok (.iload_n 1, 1) := by decide +kernel
theorem dX3_refusal_16 : decode cX3_refusal 16 = .ok (.iload_n 2, 1) := by decide +kernel
theorem dX3_refusal_17 : decode cX3_refusal 17 = .ok (.invokevirtual 107, 3) := by decide +kernel
theorem dX3_refusal_20 : decode cX3_refusal 20 = .ok (.goto 4, 3) := by decide +kernel
theorem dX3_refusal_23 : decode cX3_refusal 23 = .ok (.iconst (-1), 1) := by decide +kernel
theorem dX3_refusal_24 : decode cX3_refusal 24 = .ok (.ireturn, 1) := by decide +kernel
theorem dX3_cost_0 : decode cX3_cost 0 = .ok (.iload_n 1, 1) := by decide +kernel
theorem dX3_cost_1 : decode cX3_cost 1 = .ok (.invokestatic 58, 3) := by decide +kernel
theorem dX3_cost_4 : decode cX3_cost 4 = .ok (.ifCond .eq 10, 3) := by decide +kernel
theorem dX3_cost_7 : decode cX3_cost 7 = .ok (.iload_n 2, 1) := by decide +kernel
theorem dX3_cost_8 : decode cX3_cost 8 = .ok (.invokestatic 58, 3) := by decide +kernel
theorem dX3_cost_11 : decode cX3_cost 11 = .ok (.ifCond .ne 5, 3) := by decide +kernel
theorem dX3_cost_14 : decode cX3_cost 14 = .ok (.iconst (-1), 1) := by decide +kernel
theorem dX3_cost_15 : decode cX3_cost 15 = .ok (.ireturn, 1) := by decide +kernel
theorem dX3_cost_16 : decode cX3_cost 16 = .ok (.aload_n 0, 1) := by decide +kernel
theorem dX3_cost_17 : decode cX3_cost 17 = .ok (.getfield 7, 3) := by decide +kernel
theorem dX3_cost_20 : decode cX3_cost 20 = .ok (.iconst 0, 1) := by decide +kernel
theorem dX3_cost_21 : decode cX3_cost 21 = .ok (.iload_n 1, 1) := by decide +kernel
theorem dX3_cost_22 : decode cX3_cost 22 = .ok (.iadd, 1) := by decide +kernel
theorem dX3_cost_23 : decode cX3_cost 23 = .ok (.iaload, 1) := by decide +kernel
theorem dX3_cost_24 : decode cX3_cost 24 = .ok (.iconst (-1), 1) := by decide +kernel
theorem dX3_cost_25 : decode cX3_cost 25 = .ok (.if_icmp .ne 7, 3) := by decide +kernel
theorem dX3_cost_28 : decode cX3_cost 28 = .ok (.iconst (-1), 1) := by decide +kernel
theorem dX3_cost_29 : decode cX3_cost 29 = .ok (.goto 9, 3) := by decide +kernel
theorem dX3_cost_32 : decode cX3_cost 32 = .ok (.aload_n 0, 1) := by decide +kernel
theorem dX3_cost_33 : decode cX3_cost 33 = .ok (.iload_n 1, 1) := by decide +kernel
theorem dX3_cost_34 : decode cX3_cost 34 = .ok (.iload_n 2, 1) := by decide +kernel
theorem dX3_cost_35 : decode cX3_cost 35 = .ok (.invokevirtual 87, 3) := by decide +kernel
theorem dX3_cost_38 : decode cX3_cost 38 = .ok (.istore_n 3, 1) := by decide +kernel
theorem dX3_cost_39 : decode cX3_cost 39 = .ok (.iload_n 3, 1) := by decide +kernel
theorem dX3_cost_40 : decode cX3_cost 40 = .ok (.ifCond .ge 8, 3) := by decide +kernel
theorem dX3_cost_43 : decode cX3_cost 43 = .ok (.bipush (-4), 2) := by decide +kernel
theorem dX3_cost_45 : decode cX3_cost 45 = .ok (.goto 4, 3) := by decide +kernel
theorem dX3_cost_48 : decode cX3_cost 48 = .ok (.iload_n 3, 1) := by decide +kernel
theorem dX3_cost_49 : decode cX3_cost 49 = .ok (.ireturn, 1) := by decide +kernel
theorem dX3_moves_0 : decode cX3_moves 0 = .ok (.iload_n 1, 1) := by decide +kernel
theorem dX3_moves_1 : decode cX3_moves 1 = .ok (.invokestatic 119, 3) := by decide +kernel
theorem dX3_moves_4 : decode cX3_moves 4 = .ok (.ifCond .eq 11, 3) := by decide +kernel
theorem dX3_moves_7 : decode cX3_moves 7 = .ok (.aload_n 0, 1) := by decide +kernel
theorem dX3_moves_8 : decode cX3_moves 8 = .ok (.iload_n 1, 1) := by decide +kernel
theorem dX3_moves_9 : decode cX3_moves 9 = .ok (.invokevirtual 104, 3) := by decide +kernel
theorem dX3_moves_12 : decode cX3_moves 12 = .ok (.goto 4, 3) := by decide +kernel
theorem dX3_moves_15 : decode cX3_moves 15 = .ok (.iconst (-1), 1) := by decide +kernel
theorem dX3_moves_16 : decode cX3_moves 16 = .ok (.ireturn, 1) := by decide +kernel
theorem dX3_listed_0 : decode cX3_listed 0 = .ok (.iload_n 1, 1) := by decide +kernel
theorem dX3_listed_1 : decode cX3_listed 1 = .ok (.invokestatic 119, 3) := by decide +kernel
theorem dX3_listed_4 : decode cX3_listed 4 = .ok (.ifCond .eq 7, 3) := by decide +kernel
theorem dX3_listed_7 : decode cX3_listed 7 = .ok (.iload_n 2, 1) := by decide +kernel
theorem dX3_listed_8 : decode cX3_listed 8 = .ok (.ifCond .ge 5, 3) := by decide +kernel
theorem dX3_listed_11 : decode cX3_listed 11 = .ok (.iconst (-1), 1) := by decide +kernel
theorem dX3_listed_12 : decode cX3_listed 12 = .ok (.ireturn, 1) := by decide +kernel
theorem dX3_listed_13 : decode cX3_listed 13 = .ok (.aload_n 0, 1) := by decide +kernel
theorem dX3_listed_14 : decode cX3_listed 14 = .ok (.iload_n 1, 1) := by decide +kernel
theorem dX3_listed_15 : decode cX3_listed 15 = .ok (.iload_n 2, 1) := by decide +kernel
theorem dX3_listed_16 : decode cX3_listed 16 = .ok (.invokevirtual 122, 3) := by decide +kernel
theorem dX3_listed_19 : decode cX3_listed 19 = .ok (.istore_n 3, 1) := by decide +kernel
theorem dX3_listed_20 : decode cX3_listed 20 = .ok (.iload_n 3, 1) := by decide +kernel
theorem dX3_listed_21 : decode cX3_listed 21 = .ok (.ifCond .ge 8, 3) := by decide +kernel
theorem dX3_listed_24 : decode cX3_listed 24 = .ok (.bipush (-4), 2) := by decide +kernel
theorem dX3_listed_26 : decode cX3_listed 26 = .ok (.goto 4, 3) := by decide +kernel
theorem dX3_listed_29 : decode cX3_listed 29 = .ok (.iload_n 3, 1) := by decide +kernel
theorem dX3_listed_30 : decode cX3_listed 30 = .ok (.ireturn, 1) := by decide +kernel
theorem dX3_struck_0 : decode cX3_struck 0 = .ok (.iload_n 1, 1) := by decide +kernel
theorem dX3_struck_1 : decode cX3_struck 1 = .ok (.invokestatic 58, 3) := by decide +kernel
theorem dX3_struck_4 : decode cX3_struck 4 = .ok (.ifCond .eq 10, 3) := by decide +kernel
theorem dX3_struck_7 : decode cX3_struck 7 = .ok (.iload_n 2, 1) := by decide +kernel
theorem dX3_struck_8 : decode cX3_struck 8 = .ok (.invokestatic 119, 3) := by decide +kernel
theorem dX3_struck_11 : decode cX3_struck 11 = .ok (.ifCond .ne 5, 3) := by decide +kernel
theorem dX3_struck_14 : decode cX3_struck 14 = .ok (.iconst (-1), 1) := by decide +kernel
theorem dX3_struck_15 : decode cX3_struck 15 = .ok (.ireturn, 1) := by decide +kernel
theorem dX3_struck_16 : decode cX3_struck 16 = .ok (.aload_n 0, 1) := by decide +kernel
theorem dX3_struck_17 : decode cX3_struck 17 = .ok (.invokevirtual 125, 3) := by decide +kernel
theorem dX3_struck_20 : decode cX3_struck 20 = .ok (.aload_n 0, 1) := by decide +kernel
theorem dX3_struck_21 : decode cX3_struck 21 = .ok (.iload_n 1, 1) := by decide +kernel
theorem dX3_struck_22 : decode cX3_struck 22 = .ok (.iconst 1, 1) := by decide +kernel
theorem dX3_struck_23 : decode cX3_struck 23 = .ok (.iload_n 2, 1) := by decide +kernel
theorem dX3_struck_24 : decode cX3_struck 24 = .ok (.isub, 1) := by decide +kernel
theorem dX3_struck_25 : decode cX3_struck 25 = .ok (.iconst 1, 1) := by decide +kernel
theorem dX3_struck_26 : decode cX3_struck 26 = .ok (.iconst 0, 1) := by decide +kernel
theorem dX3_struck_27 : decode cX3_struck 27 = .ok (.invokevirtual 43, 3) := by decide +kernel
theorem dX3_struck_30 : decode cX3_struck 30 = .ok (.iconst 0, 1) := by decide +kernel
theorem dX3_struck_31 : decode cX3_struck 31 = .ok (.istore_n 3, 1) := by decide +kernel
theorem dX3_struck_32 : decode cX3_struck 32 = .ok (.iconst 0, 1) := by decide +kernel
theorem dX3_struck_33 : decode cX3_struck 33 = .ok (.istore 4, 2) := by decide +kernel
theorem dX3_struck_35 : decode cX3_struck 35 = .ok (.iload 4, 2) := by decide +kernel
theorem dX3_struck_37 : decode cX3_struck 37 = .ok (.bipush 36, 2) := by decide +kernel
theorem dX3_struck_39 : decode cX3_struck 39 = .ok (.if_icmp .ge 40, 3) := by decide +kernel
theorem dX3_struck_42 : decode cX3_struck 42 = .ok (.iload_n 3, 1) := by decide +kernel
theorem dX3_struck_43 : decode cX3_struck 43 = .ok (.aload_n 0, 1) := by decide +kernel
theorem dX3_struck_44 : decode cX3_struck 44 = .ok (.getfield 7, 3) := by decide +kernel
theorem dX3_struck_47 : decode cX3_struck 47 = .ok (.iconst 0, 1) := by decide +kernel
theorem dX3_struck_48 : decode cX3_struck 48 = .ok (.iload 4, 2) := by decide +kernel
theorem dX3_struck_50 : decode cX3_struck 50 = .ok (.iadd, 1) := by decide +kernel
theorem dX3_struck_51 : decode cX3_struck 51 = .ok (.iaload, 1) := by decide +kernel
theorem dX3_struck_52 : decode cX3_struck 52 = .ok (.iload_n 2, 1) := by decide +kernel
theorem dX3_struck_53 : decode cX3_struck 53 = .ok (.if_icmp .ne 17, 3) := by decide +kernel
theorem dX3_struck_56 : decode cX3_struck 56 = .ok (.aload_n 0, 1) := by decide +kernel
theorem dX3_struck_57 : decode cX3_struck 57 = .ok (.iload 4, 2) := by decide +kernel
theorem dX3_struck_59 : decode cX3_struck 59 = .ok (.iload_n 1, 1) := by decide +kernel
theorem dX3_struck_60 : decode cX3_struck 60 = .ok (.invokevirtual 91, 3) := by decide +kernel
theorem dX3_struck_63 : decode cX3_struck 63 = .ok (.ifCond .eq 7, 3) := by decide +kernel
theorem dX3_struck_66 : decode cX3_struck 66 = .ok (.iconst 1, 1) := by decide +kernel
theorem dX3_struck_67 : decode cX3_struck 67 = .ok (.goto 4, 3) := by decide +kernel
theorem dX3_struck_70 : decode cX3_struck 70 = .ok (.iconst 0, 1) := by decide +kernel
theorem dX3_struck_71 : decode cX3_struck 71 = .ok (.iadd, 1) := by decide +kernel
theorem dX3_struck_72 : decode cX3_struck 72 = .ok (.istore_n 3, 1) := by decide +kernel
theorem dX3_struck_73 : decode cX3_struck 73 = .ok (.iinc 4 1, 3) := by decide +kernel
theorem dX3_struck_76 : decode cX3_struck 76 = .ok (.goto (-41), 3) := by decide +kernel
theorem dX3_struck_79 : decode cX3_struck 79 = .ok (.aload_n 0, 1) := by decide +kernel
theorem dX3_struck_80 : decode cX3_struck 80 = .ok (.invokevirtual 128, 3) := by decide +kernel
theorem dX3_struck_83 : decode cX3_struck 83 = .ok (.iload_n 3, 1) := by decide +kernel
theorem dX3_struck_84 : decode cX3_struck 84 = .ok (.ireturn, 1) := by decide +kernel
theorem dX3_goesOn_0 : decode cX3_goesOn 0 = .ok (.iconst 0, 1) := by decide +kernel
theorem dX3_goesOn_1 : decode cX3_goesOn 1 = .ok (.istore_n 3, 1) := by decide +kernel
theorem dX3_goesOn_2 : decode cX3_goesOn 2 = .ok (.iload_n 3, 1) := by decide +kernel
theorem dX3_goesOn_3 : decode cX3_goesOn 3 = .ok (.bipush 36, 2) := by decide +kernel
theorem dX3_goesOn_5 : decode cX3_goesOn 5 = .ok (.if_icmp .ge 135, 3) := by decide +kernel
theorem dX3_goesOn_8 : decode cX3_goesOn 8 = .ok (.aload_n 0, 1) := by decide +kernel
theorem dX3_goesOn_9 : decode cX3_goesOn 9 = .ok (.getfield 25, 3) := by decide +kernel
theorem dX3_goesOn_12 : decode cX3_goesOn 12 = .ok (.iload_n 3, 1) := by decide +kernel
theorem dX3_goesOn_13 : decode cX3_goesOn 13 = .ok (.aload_n 0, 1) := by decide +kernel
theorem dX3_goesOn_14 : decode cX3_goesOn 14 = .ok (.getfield 22, 3) := by decide +kernel
theorem dX3_goesOn_17 : decode cX3_goesOn 17 = .ok (.iload_n 3, 1) := by decide +kernel
theorem dX3_goesOn_18 : decode cX3_goesOn 18 = .ok (.iaload, 1) := by decide +kernel
theorem dX3_goesOn_19 : decode cX3_goesOn 19 = .ok (.iastore, 1) := by decide +kernel
theorem dX3_goesOn_20 : decode cX3_goesOn 20 = .ok (.iconst 0, 1) := by decide +kernel
theorem dX3_goesOn_21 : decode cX3_goesOn 21 = .ok (.istore 4, 2) := by decide +kernel
theorem dX3_goesOn_23 : decode cX3_goesOn 23 = .ok (.iload 4, 2) := by decide +kernel
theorem dX3_goesOn_25 : decode cX3_goesOn 25 = .ok (.bipush 36, 2) := by decide +kernel
theorem dX3_goesOn_27 : decode cX3_goesOn 27 = .ok (.if_icmp .ge 107, 3) := by decide +kernel
theorem dX3_goesOn_30 : decode cX3_goesOn 30 = .ok (.aload_n 0, 1) := by decide +kernel
theorem dX3_goesOn_31 : decode cX3_goesOn 31 = .ok (.getfield 7, 3) := by decide +kernel
theorem dX3_goesOn_34 : decode cX3_goesOn 34 = .ok (.iconst 0, 1) := by decide +kernel
theorem dX3_goesOn_35 : decode cX3_goesOn 35 = .ok (.iload_n 3, 1) := by decide +kernel
theorem dX3_goesOn_36 : decode cX3_goesOn 36 = .ok (.iadd, 1) := by decide +kernel
theorem dX3_goesOn_37 : decode cX3_goesOn 37 = .ok (.iaload, 1) := by decide +kernel
theorem dX3_goesOn_38 : decode cX3_goesOn 38 = .ok (.iconst (-1), 1) := by decide +kernel
theorem dX3_goesOn_39 : decode cX3_goesOn 39 = .ok (.if_icmp .ne 95, 3) := by decide +kernel
theorem dX3_goesOn_42 : decode cX3_goesOn 42 = .ok (.aload_n 0, 1) := by decide +kernel
theorem dX3_goesOn_43 : decode cX3_goesOn 43 = .ok (.getfield 22, 3) := by decide +kernel
theorem dX3_goesOn_46 : decode cX3_goesOn 46 = .ok (.iload 4, 2) := by decide +kernel
theorem dX3_goesOn_48 : decode cX3_goesOn 48 = .ok (.iaload, 1) := by decide +kernel
theorem dX3_goesOn_49 : decode cX3_goesOn 49 = .ok (.ifCond .ge 7, 3) := by decide +kernel
theorem dX3_goesOn_52 : decode cX3_goesOn 52 = .ok (.iconst (-1), 1) := by decide +kernel
theorem dX3_goesOn_53 : decode cX3_goesOn 53 = .ok (.goto 12, 3) := by decide +kernel
theorem dX3_goesOn_56 : decode cX3_goesOn 56 = .ok (.aload_n 0, 1) := by decide +kernel
theorem dX3_goesOn_57 : decode cX3_goesOn 57 = .ok (.iload_n 1, 1) := by decide +kernel
theorem dX3_goesOn_58 : decode cX3_goesOn 58 = .ok (.iload_n 2, 1) := by decide +kernel
theorem dX3_goesOn_59 : decode cX3_goesOn 59 = .ok (.iload 4, 2) := by decide +kernel
theorem dX3_goesOn_61 : decode cX3_goesOn 61 = .ok (.iload_n 3, 1) := by decide +kernel
theorem dX3_goesOn_62 : decode cX3_goesOn 62 = .ok (.invokevirtual 83, 3) := by decide +kernel
theorem dX3_goesOn_65 : decode cX3_goesOn 65 = .ok (.istore 5, 2) := by decide +kernel
theorem dX3_goesOn_67 : decode cX3_goesOn 67 = .ok (.iload 5, 2) := by decide +kernel
theorem dX3_goesOn_69 : decode cX3_goesOn 69 = .ok (.ifCond .lt 26, 3) := by decide +kernel
theorem dX3_goesOn_72 : decode cX3_goesOn 72 = .ok (.aload_n 0, 1) := by decide +kernel
theorem dX3_goesOn_73 : decode cX3_goesOn 73 = .ok (.getfield 22, 3) := by decide +kernel
theorem dX3_goesOn_76 : decode cX3_goesOn 76 = .ok (.iload 4, 2) := by decide +kernel
theorem dX3_goesOn_78 : decode cX3_goesOn 78 = .ok (.iaload, 1) := by decide +kernel
theorem dX3_goesOn_79 : decode cX3_goesOn 79 = .ok (.iload 5, 2) := by decide +kernel
theorem dX3_goesOn_81 : decode cX3_goesOn 81 = .ok (.isub, 1) := by decide +kernel
theorem dX3_goesOn_82 : decode cX3_goesOn 82 = .ok (.aload_n 0, 1) := by decide +kernel
theorem dX3_goesOn_83 : decode cX3_goesOn 83 = .ok (.getfield 25, 3) := by decide +kernel
theorem dX3_goesOn_86 : decode cX3_goesOn 86 = .ok (.iload_n 3, 1) := by decide +kernel
theorem dX3_goesOn_87 : decode cX3_goesOn 87 = .ok (.iaload, 1) := by decide +kernel
theorem dX3_goesOn_88 : decode cX3_goesOn 88 = .ok (.if_icmp .le 7, 3) := by decide +kernel
theorem dX3_goesOn_91 : decode cX3_goesOn 91 = .ok (.iconst 1, 1) := by decide +kernel
theorem dX3_goesOn_92 : decode cX3_goesOn 92 = .ok (.goto 4, 3) := by decide +kernel
theorem dX3_goesOn_95 : decode cX3_goesOn 95 = .ok (.iconst 0, 1) := by decide +kernel
theorem dX3_goesOn_96 : decode cX3_goesOn 96 = .ok (.istore 6, 2) := by decide +kernel
theorem dX3_goesOn_98 : decode cX3_goesOn 98 = .ok (.aload_n 0, 1) := by decide +kernel
theorem dX3_goesOn_99 : decode cX3_goesOn 99 = .ok (.getfield 25, 3) := by decide +kernel
theorem dX3_goesOn_102 : decode cX3_goesOn 102 = .ok (.iload_n 3, 1) := by decide +kernel
theorem dX3_goesOn_103 : decode cX3_goesOn 103 = .ok (.iload 6, 2) := by decide +kernel
theorem dX3_goesOn_105 : decode cX3_goesOn 105 = .ok (.ifCond .eq 16, 3) := by decide +kernel
theorem dX3_goesOn_108 : decode cX3_goesOn 108 = .ok (.aload_n 0, 1) := by decide +kernel
theorem dX3_goesOn_109 : decode cX3_goesOn 109 = .ok (.getfield 22, 3) := by decide +kernel
theorem dX3_goesOn_112 : decode cX3_goesOn 112 = .ok (.iload 4, 2) := by decide +kernel
theorem dX3_goesOn_114 : decode cX3_goesOn 114 = .ok (.iaload, 1) := by decide +kernel
theorem dX3_goesOn_115 : decode cX3_goesOn 115 = .ok (.iload 5, 2) := by decide +kernel
theorem dX3_goesOn_117 : decode cX3_goesOn 117 = .ok (.isub, 1) := by decide +kernel
theorem dX3_goesOn_118 : decode cX3_goesOn 118 = .ok (.goto 9, 3) := by decide +kernel
theorem dX3_goesOn_121 : decode cX3_goesOn 121 = .ok (.aload_n 0, 1) := by decide +kernel
theorem dX3_goesOn_122 : decode cX3_goesOn 122 = .ok (.getfield 25, 3) := by decide +kernel
theorem dX3_goesOn_125 : decode cX3_goesOn 125 = .ok (.iload_n 3, 1) := by decide +kernel
theorem dX3_goesOn_126 : decode cX3_goesOn 126 = .ok (.iaload, 1) := by decide +kernel
theorem dX3_goesOn_127 : decode cX3_goesOn 127 = .ok (.iastore, 1) := by decide +kernel
theorem dX3_goesOn_128 : decode cX3_goesOn 128 = .ok (.iinc 4 1, 3) := by decide +kernel
theorem dX3_goesOn_131 : decode cX3_goesOn 131 = .ok (.goto (-108), 3) := by decide +kernel
theorem dX3_goesOn_134 : decode cX3_goesOn 134 = .ok (.iinc 3 1, 3) := by decide +kernel
theorem dX3_goesOn_137 : decode cX3_goesOn 137 = .ok (.goto (-135), 3) := by decide +kernel
theorem dX3_goesOn_140 : decode cX3_goesOn 140 = .ok (.iconst 0, 1) := by decide +kernel
theorem dX3_goesOn_141 : decode cX3_goesOn 141 = .ok (.istore_n 3, 1) := by decide +kernel
theorem dX3_goesOn_142 : decode cX3_goesOn 142 = .ok (.iload_n 3, 1) := by decide +kernel
theorem dX3_goesOn_143 : decode cX3_goesOn 143 = .ok (.bipush 36, 2) := by decide +kernel
theorem dX3_goesOn_145 : decode cX3_goesOn 145 = .ok (.if_icmp .ge 21, 3) := by decide +kernel
theorem dX3_goesOn_148 : decode cX3_goesOn 148 = .ok (.aload_n 0, 1) := by decide +kernel
theorem dX3_goesOn_149 : decode cX3_goesOn 149 = .ok (.getfield 22, 3) := by decide +kernel
theorem dX3_goesOn_152 : decode cX3_goesOn 152 = .ok (.iload_n 3, 1) := by decide +kernel
theorem dX3_goesOn_153 : decode cX3_goesOn 153 = .ok (.aload_n 0, 1) := by decide +kernel
theorem dX3_goesOn_154 : decode cX3_goesOn 154 = .ok (.getfield 25, 3) := by decide +kernel
theorem dX3_goesOn_157 : decode cX3_goesOn 157 = .ok (.iload_n 3, 1) := by decide +kernel
theorem dX3_goesOn_158 : decode cX3_goesOn 158 = .ok (.iaload, 1) := by decide +kernel
theorem dX3_goesOn_159 : decode cX3_goesOn 159 = .ok (.iastore, 1) := by decide +kernel
theorem dX3_goesOn_160 : decode cX3_goesOn 160 = .ok (.iinc 3 1, 3) := by decide +kernel
theorem dX3_goesOn_163 : decode cX3_goesOn 163 = .ok (.goto (-21), 3) := by decide +kernel
theorem dX3_goesOn_166 : decode cX3_goesOn 166 = .ok (.return_, 1) := by decide +kernel
theorem dX3_reach_0 : decode cX3_reach 0 = .ok (.iload_n 1, 1) := by decide +kernel
theorem dX3_reach_1 : decode cX3_reach 1 = .ok (.invokestatic 58, 3) := by decide +kernel
theorem dX3_reach_4 : decode cX3_reach 4 = .ok (.ifCond .eq 13, 3) := by decide +kernel
theorem dX3_reach_7 : decode cX3_reach 7 = .ok (.iload_n 2, 1) := by decide +kernel
theorem dX3_reach_8 : decode cX3_reach 8 = .ok (.iconst 0, 1) := by decide +kernel
theorem dX3_reach_9 : decode cX3_reach 9 = .ok (.bipush 12, 2) := by decide +kernel
theorem dX3_reach_11 : decode cX3_reach 11 = .ok (.invokestatic 31, 3) := by decide +kernel
theorem dX3_reach_14 : decode cX3_reach 14 = .ok (.ifCond .ne 5, 3) := by decide +kernel
theorem dX3_reach_17 : decode cX3_reach 17 = .ok (.iconst (-1), 1) := by decide +kernel
theorem dX3_reach_18 : decode cX3_reach 18 = .ok (.ireturn, 1) := by decide +kernel
theorem dX3_reach_19 : decode cX3_reach 19 = .ok (.aload_n 0, 1) := by decide +kernel
theorem dX3_reach_20 : decode cX3_reach 20 = .ok (.getfield 7, 3) := by decide +kernel
theorem dX3_reach_23 : decode cX3_reach 23 = .ok (.iconst 0, 1) := by decide +kernel
theorem dX3_reach_24 : decode cX3_reach 24 = .ok (.iload_n 1, 1) := by decide +kernel
theorem dX3_reach_25 : decode cX3_reach 25 = .ok (.iadd, 1) := by decide +kernel
theorem dX3_reach_26 : decode cX3_reach 26 = .ok (.iaload, 1) := by decide +kernel
theorem dX3_reach_27 : decode cX3_reach 27 = .ok (.istore_n 3, 1) := by decide +kernel
theorem dX3_reach_28 : decode cX3_reach 28 = .ok (.aload_n 0, 1) := by decide +kernel
theorem dX3_reach_29 : decode cX3_reach 29 = .ok (.getfield 7, 3) := by decide +kernel
theorem dX3_reach_32 : decode cX3_reach 32 = .ok (.bipush 36, 2) := by decide +kernel
theorem dX3_reach_34 : decode cX3_reach 34 = .ok (.iload_n 1, 1) := by decide +kernel
theorem dX3_reach_35 : decode cX3_reach 35 = .ok (.iadd, 1) := by decide +kernel
theorem dX3_reach_36 : decode cX3_reach 36 = .ok (.iaload, 1) := by decide +kernel
theorem dX3_reach_37 : decode cX3_reach 37 = .ok (.istore 4, 2) := by decide +kernel
theorem dX3_reach_39 : decode cX3_reach 39 = .ok (.iload_n 3, 1) := by decide +kernel
theorem dX3_reach_40 : decode cX3_reach 40 = .ok (.iconst (-1), 1) := by decide +kernel
theorem dX3_reach_41 : decode cX3_reach 41 = .ok (.if_icmp .ne 6, 3) := by decide +kernel
theorem dX3_reach_44 : decode cX3_reach 44 = .ok (.bipush (-4), 2) := by decide +kernel
theorem dX3_reach_46 : decode cX3_reach 46 = .ok (.ireturn, 1) := by decide +kernel
theorem dX3_reach_47 : decode cX3_reach 47 = .ok (.aload_n 0, 1) := by decide +kernel
theorem dX3_reach_48 : decode cX3_reach 48 = .ok (.invokevirtual 125, 3) := by decide +kernel
theorem dX3_reach_51 : decode cX3_reach 51 = .ok (.iconst 0, 1) := by decide +kernel
theorem dX3_reach_52 : decode cX3_reach 52 = .ok (.istore 5, 2) := by decide +kernel
theorem dX3_reach_54 : decode cX3_reach 54 = .ok (.iload 5, 2) := by decide +kernel
theorem dX3_reach_56 : decode cX3_reach 56 = .ok (.bipush 36, 2) := by decide +kernel
theorem dX3_reach_58 : decode cX3_reach 58 = .ok (.if_icmp .ge 35, 3) := by decide +kernel
theorem dX3_reach_61 : decode cX3_reach 61 = .ok (.aload_n 0, 1) := by decide +kernel
theorem dX3_reach_62 : decode cX3_reach 62 = .ok (.getfield 22, 3) := by decide +kernel
theorem dX3_reach_65 : decode cX3_reach 65 = .ok (.iload 5, 2) := by decide +kernel
theorem dX3_reach_67 : decode cX3_reach 67 = .ok (.iload 5, 2) := by decide +kernel
theorem dX3_reach_69 : decode cX3_reach 69 = .ok (.iload_n 1, 1) := by decide +kernel
theorem dX3_reach_70 : decode cX3_reach 70 = .ok (.if_icmp .ne 15, 3) := by decide +kernel
theorem dX3_reach_73 : decode cX3_reach 73 = .ok (.aload_n 0, 1) := by decide +kernel
theorem dX3_reach_74 : decode cX3_reach 74 = .ok (.getfield 7, 3) := by decide +kernel
theorem dX3_reach_77 : decode cX3_reach 77 = .ok (.bipush 72, 2) := by decide +kernel
theorem dX3_reach_79 : decode cX3_reach 79 = .ok (.iload_n 1, 1) := by decide +kernel
theorem dX3_reach_80 : decode cX3_reach 80 = .ok (.iadd, 1) := by decide +kernel
theorem dX3_reach_81 : decode cX3_reach 81 = .ok (.iaload, 1) := by decide +kernel
theorem dX3_reach_82 : decode cX3_reach 82 = .ok (.goto 4, 3) := by decide +kernel
theorem dX3_reach_85 : decode cX3_reach 85 = .ok (.iconst (-1), 1) := by decide +kernel
theorem dX3_reach_86 : decode cX3_reach 86 = .ok (.iastore, 1) := by decide +kernel
theorem dX3_reach_87 : decode cX3_reach 87 = .ok (.iinc 5 1, 3) := by decide +kernel
theorem dX3_reach_90 : decode cX3_reach 90 = .ok (.goto (-36), 3) := by decide +kernel
theorem dX3_reach_93 : decode cX3_reach 93 = .ok (.aload_n 0, 1) := by decide +kernel
theorem dX3_reach_94 : decode cX3_reach 94 = .ok (.iload_n 1, 1) := by decide +kernel
theorem dX3_reach_95 : decode cX3_reach 95 = .ok (.iconst (-1), 1) := by decide +kernel
theorem dX3_reach_96 : decode cX3_reach 96 = .ok (.iconst 0, 1) := by decide +kernel
theorem dX3_reach_97 : decode cX3_reach 97 = .ok (.iconst 0, 1) := by decide +kernel
theorem dX3_reach_98 : decode cX3_reach 98 = .ok (.invokevirtual 43, 3) := by decide +kernel
theorem dX3_reach_101 : decode cX3_reach 101 = .ok (.iconst 0, 1) := by decide +kernel
theorem dX3_reach_102 : decode cX3_reach 102 = .ok (.istore 5, 2) := by decide +kernel
theorem dX3_reach_104 : decode cX3_reach 104 = .ok (.iload 5, 2) := by decide +kernel
theorem dX3_reach_106 : decode cX3_reach 106 = .ok (.iload_n 2, 1) := by decide +kernel
theorem dX3_reach_107 : decode cX3_reach 107 = .ok (.if_icmp .ge 16, 3) := by decide +kernel
theorem dX3_reach_110 : decode cX3_reach 110 = .ok (.aload_n 0, 1) := by decide +kernel
theorem dX3_reach_111 : decode cX3_reach 111 = .ok (.iload_n 3, 1) := by decide +kernel
theorem dX3_reach_112 : decode cX3_reach 112 = .ok (.iload 4, 2) := by decide +kernel
theorem dX3_reach_114 : decode cX3_reach 114 = .ok (.invokevirtual 131, 3) := by decide +kernel
theorem dX3_reach_117 : decode cX3_reach 117 = .ok (.iinc 5 1, 3) := by decide +kernel
theorem dX3_reach_120 : decode cX3_reach 120 = .ok (.goto (-16), 3) := by decide +kernel
theorem dX3_reach_123 : decode cX3_reach 123 = .ok (.aload_n 0, 1) := by decide +kernel
theorem dX3_reach_124 : decode cX3_reach 124 = .ok (.invokevirtual 128, 3) := by decide +kernel
theorem dX3_reach_127 : decode cX3_reach 127 = .ok (.iconst 0, 1) := by decide +kernel
theorem dX3_reach_128 : decode cX3_reach 128 = .ok (.istore 5, 2) := by decide +kernel
theorem dX3_reach_130 : decode cX3_reach 130 = .ok (.iconst 0, 1) := by decide +kernel
theorem dX3_reach_131 : decode cX3_reach 131 = .ok (.istore 6, 2) := by decide +kernel
theorem dX3_reach_133 : decode cX3_reach 133 = .ok (.iload 6, 2) := by decide +kernel
theorem dX3_reach_135 : decode cX3_reach 135 = .ok (.bipush 36, 2) := by decide +kernel
theorem dX3_reach_137 : decode cX3_reach 137 = .ok (.if_icmp .ge 29, 3) := by decide +kernel
theorem dX3_reach_140 : decode cX3_reach 140 = .ok (.iload 5, 2) := by decide +kernel
theorem dX3_reach_142 : decode cX3_reach 142 = .ok (.aload_n 0, 1) := by decide +kernel
theorem dX3_reach_143 : decode cX3_reach 143 = .ok (.getfield 22, 3) := by decide +kernel
theorem dX3_reach_146 : decode cX3_reach 146 = .ok (.iload 6, 2) := by decide +kernel
theorem dX3_reach_148 : decode cX3_reach 148 = .ok (.iaload, 1) := by decide +kernel
theorem dX3_reach_149 : decode cX3_reach 149 = .ok (.ifCond .lt 7, 3) := by decide +kernel
theorem dX3_reach_152 : decode cX3_reach 152 = .ok (.iconst 1, 1) := by decide +kernel
theorem dX3_reach_153 : decode cX3_reach 153 = .ok (.goto 4, 3) := by decide +kernel
theorem dX3_reach_156 : decode cX3_reach 156 = .ok (.iconst 0, 1) := by decide +kernel
theorem dX3_reach_157 : decode cX3_reach 157 = .ok (.iadd, 1) := by decide +kernel
theorem dX3_reach_158 : decode cX3_reach 158 = .ok (.istore 5, 2) := by decide +kernel
theorem dX3_reach_160 : decode cX3_reach 160 = .ok (.iinc 6 1, 3) := by decide +kernel
theorem dX3_reach_163 : decode cX3_reach 163 = .ok (.goto (-30), 3) := by decide +kernel
theorem dX3_reach_166 : decode cX3_reach 166 = .ok (.iload 5, 2) := by decide +kernel
theorem dX3_reach_168 : decode cX3_reach 168 = .ok (.ireturn, 1) := by decide +kernel
theorem dX3_repliesTo_0 : decode cX3_repliesTo 0 = .ok (.aload_n 0, 1) := by decide +kernel
theorem dX3_repliesTo_1 : decode cX3_repliesTo 1 = .ok (.iload_n 1, 1) := by decide +kernel
theorem dX3_repliesTo_2 : decode cX3_repliesTo 2 = .ok (.bipush 36, 2) := by decide +kernel
theorem dX3_repliesTo_4 : decode cX3_repliesTo 4 = .ok (.idiv, 1) := by decide +kernel
theorem dX3_repliesTo_5 : decode cX3_repliesTo 5 = .ok (.iload_n 1, 1) := by decide +kernel
theorem dX3_repliesTo_6 : decode cX3_repliesTo 6 = .ok (.bipush 36, 2) := by decide +kernel
theorem dX3_repliesTo_8 : decode cX3_repliesTo 8 = .ok (.irem, 1) := by decide +kernel
theorem dX3_repliesTo_9 : decode cX3_repliesTo 9 = .ok (.invokevirtual 110, 3) := by decide +kernel
theorem dX3_repliesTo_12 : decode cX3_repliesTo 12 = .ok (.aload_n 0, 1) := by decide +kernel
theorem dX3_repliesTo_13 : decode cX3_repliesTo 13 = .ok (.getfield 7, 3) := by decide +kernel
theorem dX3_repliesTo_16 : decode cX3_repliesTo 16 = .ok (.sipush 145, 3) := by decide +kernel
theorem dX3_repliesTo_19 : decode cX3_repliesTo 19 = .ok (.iaload, 1) := by decide +kernel
theorem dX3_repliesTo_20 : decode cX3_repliesTo 20 = .ok (.ifCond .le 7, 3) := by decide +kernel
theorem dX3_repliesTo_23 : decode cX3_repliesTo 23 = .ok (.iconst 0, 1) := by decide +kernel
theorem dX3_repliesTo_24 : decode cX3_repliesTo 24 = .ok (.goto 15, 3) := by decide +kernel
theorem dX3_repliesTo_27 : decode cX3_repliesTo 27 = .ok (.aload_n 0, 1) := by decide +kernel
theorem dX3_repliesTo_28 : decode cX3_repliesTo 28 = .ok (.aload_n 0, 1) := by decide +kernel
theorem dX3_repliesTo_29 : decode cX3_repliesTo 29 = .ok (.getfield 7, 3) := by decide +kernel
theorem dX3_repliesTo_32 : decode cX3_repliesTo 32 = .ok (.sipush 144, 3) := by decide +kernel
theorem dX3_repliesTo_35 : decode cX3_repliesTo 35 = .ok (.iaload, 1) := by decide +kernel
theorem dX3_repliesTo_36 : decode cX3_repliesTo 36 = .ok (.invokevirtual 104, 3) := by decide +kernel
theorem dX3_repliesTo_39 : decode cX3_repliesTo 39 = .ok (.istore_n 2, 1) := by decide +kernel
theorem dX3_repliesTo_40 : decode cX3_repliesTo 40 = .ok (.iload_n 2, 1) := by decide +kernel
theorem dX3_repliesTo_41 : decode cX3_repliesTo 41 = .ok (.ifCond .ne 7, 3) := by decide +kernel
theorem dX3_repliesTo_44 : decode cX3_repliesTo 44 = .ok (.iconst 1, 1) := by decide +kernel
theorem dX3_repliesTo_45 : decode cX3_repliesTo 45 = .ok (.goto 4, 3) := by decide +kernel
theorem dX3_repliesTo_48 : decode cX3_repliesTo 48 = .ok (.iload_n 2, 1) := by decide +kernel
theorem dX3_repliesTo_49 : decode cX3_repliesTo 49 = .ok (.ireturn, 1) := by decide +kernel
theorem dX3_replies_0 : decode cX3_replies 0 = .ok (.iconst 0, 1) := by decide +kernel
theorem dX3_replies_1 : decode cX3_replies 1 = .ok (.istore_n 1, 1) := by decide +kernel
theorem dX3_replies_2 : decode cX3_replies 2 = .ok (.aload_n 0, 1) := by decide +kernel
theorem dX3_replies_3 : decode cX3_replies 3 = .ok (.getfield 7, 3) := by decide +kernel
theorem dX3_replies_6 : decode cX3_replies 6 = .ok (.sipush 145, 3) := by decide +kernel
theorem dX3_replies_9 : decode cX3_replies 9 = .ok (.iaload, 1) := by decide +kernel
theorem dX3_replies_10 : decode cX3_replies 10 = .ok (.ifCond .le 7, 3) := by decide +kernel
theorem dX3_replies_13 : decode cX3_replies 13 = .ok (.iconst 0, 1) := by decide +kernel
theorem dX3_replies_14 : decode cX3_replies 14 = .ok (.goto 15, 3) := by decide +kernel
theorem dX3_replies_17 : decode cX3_replies 17 = .ok (.aload_n 0, 1) := by decide +kernel
theorem dX3_replies_18 : decode cX3_replies 18 = .ok (.aload_n 0, 1) := by decide +kernel
theorem dX3_replies_19 : decode cX3_replies 19 = .ok (.getfield 7, 3) := by decide +kernel
theorem dX3_replies_22 : decode cX3_replies 22 = .ok (.sipush 144, 3) := by decide +kernel
theorem dX3_replies_25 : decode cX3_replies 25 = .ok (.iaload, 1) := by decide +kernel
theorem dX3_replies_26 : decode cX3_replies 26 = .ok (.invokevirtual 104, 3) := by decide +kernel
theorem dX3_replies_29 : decode cX3_replies 29 = .ok (.istore_n 2, 1) := by decide +kernel
theorem dX3_replies_30 : decode cX3_replies 30 = .ok (.aload_n 0, 1) := by decide +kernel
theorem dX3_replies_31 : decode cX3_replies 31 = .ok (.invokevirtual 125, 3) := by decide +kernel
theorem dX3_replies_34 : decode cX3_replies 34 = .ok (.iconst 0, 1) := by decide +kernel
theorem dX3_replies_35 : decode cX3_replies 35 = .ok (.istore_n 3, 1) := by decide +kernel
theorem dX3_replies_36 : decode cX3_replies 36 = .ok (.iload_n 3, 1) := by decide +kernel
theorem dX3_replies_37 : decode cX3_replies 37 = .ok (.iload_n 2, 1) := by decide +kernel
theorem dX3_replies_38 : decode cX3_replies 38 = .ok (.if_icmp .ge 33, 3) := by decide +kernel
theorem dX3_replies_41 : decode cX3_replies 41 = .ok (.iload_n 1, 1) := by decide +kernel
theorem dX3_replies_42 : decode cX3_replies 42 = .ok (.aload_n 0, 1) := by decide +kernel
theorem dX3_replies_43 : decode cX3_replies 43 = .ok (.aload_n 0, 1) := by decide +kernel
theorem dX3_replies_44 : decode cX3_replies 44 = .ok (.aload_n 0, 1) := by decide +kernel
theorem dX3_replies_45 : decode cX3_replies 45 = .ok (.getfield 7, 3) := by decide +kernel
theorem dX3_replies_48 : decode cX3_replies 48 = .ok (.sipush 144, 3) := by decide +kernel
theorem dX3_replies_51 : decode cX3_replies 51 = .ok (.iaload, 1) := by decide +kernel
theorem dX3_replies_52 : decode cX3_replies 52 = .ok (.iload_n 3, 1) := by decide +kernel
theorem dX3_replies_53 : decode cX3_replies 53 = .ok (.invokevirtual 122, 3) := by decide +kernel
theorem dX3_replies_56 : decode cX3_replies 56 = .ok (.invokevirtual 134, 3) := by decide +kernel
theorem dX3_replies_59 : decode cX3_replies 59 = .ok (.iadd, 1) := by decide +kernel
theorem dX3_replies_60 : decode cX3_replies 60 = .ok (.istore_n 1, 1) := by decide +kernel
theorem dX3_replies_61 : decode cX3_replies 61 = .ok (.aload_n 0, 1) := by decide +kernel
theorem dX3_replies_62 : decode cX3_replies 62 = .ok (.invokevirtual 128, 3) := by decide +kernel
theorem dX3_replies_65 : decode cX3_replies 65 = .ok (.iinc 3 1, 3) := by decide +kernel
theorem dX3_replies_68 : decode cX3_replies 68 = .ok (.goto (-32), 3) := by decide +kernel
theorem dX3_replies_71 : decode cX3_replies 71 = .ok (.iload_n 1, 1) := by decide +kernel
theorem dX3_replies_72 : decode cX3_replies 72 = .ok (.ireturn, 1) := by decide +kernel
theorem dX3_goodFor_0 : decode cX3_goodFor 0 = .ok (.aload_n 0, 1) := by decide +kernel
theorem dX3_goodFor_1 : decode cX3_goodFor 1 = .ok (.iload_n 1, 1) := by decide +kernel
theorem dX3_goodFor_2 : decode cX3_goodFor 2 = .ok (.invokevirtual 39, 3) := by decide +kernel
theorem dX3_goodFor_5 : decode cX3_goodFor 5 = .ok (.aload_n 0, 1) := by decide +kernel
theorem dX3_goodFor_6 : decode cX3_goodFor 6 = .ok (.iconst 1, 1) := by decide +kernel
theorem dX3_goodFor_7 : decode cX3_goodFor 7 = .ok (.iload_n 1, 1) := by decide +kernel
theorem dX3_goodFor_8 : decode cX3_goodFor 8 = .ok (.isub, 1) := by decide +kernel
theorem dX3_goodFor_9 : decode cX3_goodFor 9 = .ok (.invokevirtual 39, 3) := by decide +kernel
theorem dX3_goodFor_12 : decode cX3_goodFor 12 = .ok (.isub, 1) := by decide +kernel
theorem dX3_goodFor_13 : decode cX3_goodFor 13 = .ok (.aload_n 0, 1) := by decide +kernel
theorem dX3_goodFor_14 : decode cX3_goodFor 14 = .ok (.getfield 7, 3) := by decide +kernel
theorem dX3_goodFor_17 : decode cX3_goodFor 17 = .ok (.sipush 145, 3) := by decide +kernel
theorem dX3_goodFor_20 : decode cX3_goodFor 20 = .ok (.iaload, 1) := by decide +kernel
theorem dX3_goodFor_21 : decode cX3_goodFor 21 = .ok (.ifCond .le 9, 3) := by decide +kernel
theorem dX3_goodFor_24 : decode cX3_goodFor 24 = .ok (.sipush 10000, 3) := by decide +kernel
theorem dX3_goodFor_27 : decode cX3_goodFor 27 = .ok (.goto 4, 3) := by decide +kernel
theorem dX3_goodFor_30 : decode cX3_goodFor 30 = .ok (.iconst 0, 1) := by decide +kernel
theorem dX3_goodFor_31 : decode cX3_goodFor 31 = .ok (.iadd, 1) := by decide +kernel
theorem dX3_goodFor_32 : decode cX3_goodFor 32 = .ok (.ireturn, 1) := by decide +kernel
theorem dX3_best_0 : decode cX3_best 0 = .ok (.aload_n 0, 1) := by decide +kernel
theorem dX3_best_1 : decode cX3_best 1 = .ok (.getfield 7, 3) := by decide +kernel
theorem dX3_best_4 : decode cX3_best 4 = .ok (.sipush 145, 3) := by decide +kernel
theorem dX3_best_7 : decode cX3_best 7 = .ok (.iaload, 1) := by decide +kernel
theorem dX3_best_8 : decode cX3_best 8 = .ok (.ifCond .le 7, 3) := by decide +kernel
theorem dX3_best_11 : decode cX3_best 11 = .ok (.iconst 0, 1) := by decide +kernel
theorem dX3_best_12 : decode cX3_best 12 = .ok (.goto 15, 3) := by decide +kernel
theorem dX3_best_15 : decode cX3_best 15 = .ok (.aload_n 0, 1) := by decide +kernel
theorem dX3_best_16 : decode cX3_best 16 = .ok (.aload_n 0, 1) := by decide +kernel
theorem dX3_best_17 : decode cX3_best 17 = .ok (.getfield 7, 3) := by decide +kernel
theorem dX3_best_20 : decode cX3_best 20 = .ok (.sipush 144, 3) := by decide +kernel
theorem dX3_best_23 : decode cX3_best 23 = .ok (.iaload, 1) := by decide +kernel
theorem dX3_best_24 : decode cX3_best 24 = .ok (.invokevirtual 104, 3) := by decide +kernel
theorem dX3_best_27 : decode cX3_best 27 = .ok (.istore_n 1, 1) := by decide +kernel
theorem dX3_best_28 : decode cX3_best 28 = .ok (.bipush (-4), 2) := by decide +kernel
theorem dX3_best_30 : decode cX3_best 30 = .ok (.istore_n 2, 1) := by decide +kernel
theorem dX3_best_31 : decode cX3_best 31 = .ok (.iconst 0, 1) := by decide +kernel
theorem dX3_best_32 : decode cX3_best 32 = .ok (.istore_n 3, 1) := by decide +kernel
theorem dX3_best_33 : decode cX3_best 33 = .ok (.aload_n 0, 1) := by decide +kernel
theorem dX3_best_34 : decode cX3_best 34 = .ok (.invokevirtual 125, 3) := by decide +kernel
theorem dX3_best_37 : decode cX3_best 37 = .ok (.iconst 0, 1) := by decide +kernel
theorem dX3_best_38 : decode cX3_best 38 = .ok (.istore 4, 2) := by decide +kernel
theorem dX3_best_40 : decode cX3_best 40 = .ok (.iload 4, 2) := by decide +kernel
theorem dX3_best_42 : decode cX3_best 42 = .ok (.iload_n 1, 1) := by decide +kernel
theorem dX3_best_43 : decode cX3_best 43 = .ok (.if_icmp .ge 96, 3) := by decide +kernel
theorem dX3_best_46 : decode cX3_best 46 = .ok (.aload_n 0, 1) := by decide +kernel
theorem dX3_best_47 : decode cX3_best 47 = .ok (.getfield 7, 3) := by decide +kernel
theorem dX3_best_50 : decode cX3_best 50 = .ok (.sipush 144, 3) := by decide +kernel
theorem dX3_best_53 : decode cX3_best 53 = .ok (.iaload, 1) := by decide +kernel
theorem dX3_best_54 : decode cX3_best 54 = .ok (.istore 5, 2) := by decide +kernel
theorem dX3_best_56 : decode cX3_best 56 = .ok (.aload_n 0, 1) := by decide +kernel
theorem dX3_best_57 : decode cX3_best 57 = .ok (.iload 5, 2) := by decide +kernel
theorem dX3_best_59 : decode cX3_best 59 = .ok (.iload 4, 2) := by decide +kernel
theorem dX3_best_61 : decode cX3_best 61 = .ok (.invokevirtual 122, 3) := by decide +kernel
theorem dX3_best_64 : decode cX3_best 64 = .ok (.istore 6, 2) := by decide +kernel
theorem dX3_best_66 : decode cX3_best 66 = .ok (.aload_n 0, 1) := by decide +kernel
theorem dX3_best_67 : decode cX3_best 67 = .ok (.iload 6, 2) := by decide +kernel
theorem dX3_best_69 : decode cX3_best 69 = .ok (.bipush 36, 2) := by decide +kernel
theorem dX3_best_71 : decode cX3_best 71 = .ok (.idiv, 1) := by decide +kernel
theorem dX3_best_72 : decode cX3_best 72 = .ok (.iload 6, 2) := by decide +kernel
theorem dX3_best_74 : decode cX3_best 74 = .ok (.bipush 36, 2) := by decide +kernel
theorem dX3_best_76 : decode cX3_best 76 = .ok (.irem, 1) := by decide +kernel
theorem dX3_best_77 : decode cX3_best 77 = .ok (.invokevirtual 97, 3) := by decide +kernel
theorem dX3_best_80 : decode cX3_best 80 = .ok (.aload_n 0, 1) := by decide +kernel
theorem dX3_best_81 : decode cX3_best 81 = .ok (.iload 5, 2) := by decide +kernel
theorem dX3_best_83 : decode cX3_best 83 = .ok (.invokevirtual 137, 3) := by decide +kernel
theorem dX3_best_86 : decode cX3_best 86 = .ok (.istore 7, 2) := by decide +kernel
theorem dX3_best_88 : decode cX3_best 88 = .ok (.aload_n 0, 1) := by decide +kernel
theorem dX3_best_89 : decode cX3_best 89 = .ok (.invokevirtual 128, 3) := by decide +kernel
theorem dX3_best_92 : decode cX3_best 92 = .ok (.iload_n 2, 1) := by decide +kernel
theorem dX3_best_93 : decode cX3_best 93 = .ok (.ifCond .lt 9, 3) := by decide +kernel
theorem dX3_best_96 : decode cX3_best 96 = .ok (.iload 7, 2) := by decide +kernel
theorem dX3_best_98 : decode cX3_best 98 = .ok (.iload_n 3, 1) := by decide +kernel
theorem dX3_best_99 : decode cX3_best 99 = .ok (.if_icmp .le 7, 3) := by decide +kernel
theorem dX3_best_102 : decode cX3_best 102 = .ok (.iconst 1, 1) := by decide +kernel
theorem dX3_best_103 : decode cX3_best 103 = .ok (.goto 4, 3) := by decide +kernel
theorem dX3_best_106 : decode cX3_best 106 = .ok (.iconst 0, 1) := by decide +kernel
theorem dX3_best_107 : decode cX3_best 107 = .ok (.istore 8, 2) := by decide +kernel
theorem dX3_best_109 : decode cX3_best 109 = .ok (.iload 8, 2) := by decide +kernel
theorem dX3_best_111 : decode cX3_best 111 = .ok (.ifCond .eq 8, 3) := by decide +kernel
theorem dX3_best_114 : decode cX3_best 114 = .ok (.iload 6, 2) := by decide +kernel
theorem dX3_best_116 : decode cX3_best 116 = .ok (.goto 4, 3) := by decide +kernel
theorem dX3_best_119 : decode cX3_best 119 = .ok (.iload_n 2, 1) := by decide +kernel
theorem dX3_best_120 : decode cX3_best 120 = .ok (.istore_n 2, 1) := by decide +kernel
theorem dX3_best_121 : decode cX3_best 121 = .ok (.iload 8, 2) := by decide +kernel
theorem dX3_best_123 : decode cX3_best 123 = .ok (.ifCond .eq 8, 3) := by decide +kernel
theorem dX3_best_126 : decode cX3_best 126 = .ok (.iload 7, 2) := by decide +kernel
theorem dX3_best_128 : decode cX3_best 128 = .ok (.goto 4, 3) := by decide +kernel
theorem dX3_best_131 : decode cX3_best 131 = .ok (.iload_n 3, 1) := by decide +kernel
theorem dX3_best_132 : decode cX3_best 132 = .ok (.istore_n 3, 1) := by decide +kernel
theorem dX3_best_133 : decode cX3_best 133 = .ok (.iinc 4 1, 3) := by decide +kernel
theorem dX3_best_136 : decode cX3_best 136 = .ok (.goto (-96), 3) := by decide +kernel
theorem dX3_best_139 : decode cX3_best 139 = .ok (.iload_n 2, 1) := by decide +kernel
theorem dX3_best_140 : decode cX3_best 140 = .ok (.ireturn, 1) := by decide +kernel
theorem dX3_type_0 : decode cX3_type 0 = .ok (.iload_n 1, 1) := by decide +kernel
theorem dX3_type_1 : decode cX3_type 1 = .ok (.bipush 32, 2) := by decide +kernel
theorem dX3_type_3 : decode cX3_type 3 = .ok (.bipush 126, 2) := by decide +kernel
theorem dX3_type_5 : decode cX3_type 5 = .ok (.invokestatic 31, 3) := by decide +kernel
theorem dX3_type_8 : decode cX3_type 8 = .ok (.ifCond .ne 5, 3) := by decide +kernel
theorem dX3_type_11 : decode cX3_type 11 = .ok (.iconst (-1), 1) := by decide +kernel
theorem dX3_type_12 : decode cX3_type 12 = .ok (.ireturn, 1) := by decide +kernel
theorem dX3_type_13 : decode cX3_type 13 = .ok (.aload_n 0, 1) := by decide +kernel
theorem dX3_type_14 : decode cX3_type 14 = .ok (.getfield 71, 3) := by decide +kernel
theorem dX3_type_17 : decode cX3_type 17 = .ok (.bipush 80, 2) := by decide +kernel
theorem dX3_type_19 : decode cX3_type 19 = .ok (.if_icmp .ne 6, 3) := by decide +kernel
theorem dX3_type_22 : decode cX3_type 22 = .ok (.bipush (-3), 2) := by decide +kernel
theorem dX3_type_24 : decode cX3_type 24 = .ok (.ireturn, 1) := by decide +kernel
theorem dX3_type_25 : decode cX3_type 25 = .ok (.aload_n 0, 1) := by decide +kernel
theorem dX3_type_26 : decode cX3_type 26 = .ok (.getfield 19, 3) := by decide +kernel
theorem dX3_type_29 : decode cX3_type 29 = .ok (.aload_n 0, 1) := by decide +kernel
theorem dX3_type_30 : decode cX3_type 30 = .ok (.getfield 71, 3) := by decide +kernel
theorem dX3_type_33 : decode cX3_type 33 = .ok (.iload_n 1, 1) := by decide +kernel
theorem dX3_type_34 : decode cX3_type 34 = .ok (.iastore, 1) := by decide +kernel
theorem dX3_type_35 : decode cX3_type 35 = .ok (.aload_n 0, 1) := by decide +kernel
theorem dX3_type_36 : decode cX3_type 36 = .ok (.dup, 1) := by decide +kernel
theorem dX3_type_37 : decode cX3_type 37 = .ok (.getfield 71, 3) := by decide +kernel
theorem dX3_type_40 : decode cX3_type 40 = .ok (.iconst 1, 1) := by decide +kernel
theorem dX3_type_41 : decode cX3_type 41 = .ok (.iadd, 1) := by decide +kernel
theorem dX3_type_42 : decode cX3_type 42 = .ok (.putfield 71, 3) := by decide +kernel
theorem dX3_type_45 : decode cX3_type 45 = .ok (.aload_n 0, 1) := by decide +kernel
theorem dX3_type_46 : decode cX3_type 46 = .ok (.getfield 71, 3) := by decide +kernel
theorem dX3_type_49 : decode cX3_type 49 = .ok (.ireturn, 1) := by decide +kernel
theorem dX3_clearText_0 : decode cX3_clearText 0 = .ok (.aload_n 0, 1) := by decide +kernel
theorem dX3_clearText_1 : decode cX3_clearText 1 = .ok (.getfield 71, 3) := by decide +kernel
theorem dX3_clearText_4 : decode cX3_clearText 4 = .ok (.istore_n 1, 1) := by decide +kernel
theorem dX3_clearText_5 : decode cX3_clearText 5 = .ok (.aload_n 0, 1) := by decide +kernel
theorem dX3_clearText_6 : decode cX3_clearText 6 = .ok (.iconst 0, 1) := by decide +kernel
theorem dX3_clearText_7 : decode cX3_clearText 7 = .ok (.putfield 71, 3) := by decide +kernel
theorem dX3_clearText_10 : decode cX3_clearText 10 = .ok (.iload_n 1, 1) := by decide +kernel
theorem dX3_clearText_11 : decode cX3_clearText 11 = .ok (.ireturn, 1) := by decide +kernel
theorem dX3_takes_0 : decode cX3_takes 0 = .ok (.aload_n 0, 1) := by decide +kernel
theorem dX3_takes_1 : decode cX3_takes 1 = .ok (.getfield 140, 3) := by decide +kernel
theorem dX3_takes_4 : decode cX3_takes 4 = .ok (.aload_n 0, 1) := by decide +kernel
theorem dX3_takes_5 : decode cX3_takes 5 = .ok (.getfield 71, 3) := by decide +kernel
theorem dX3_takes_8 : decode cX3_takes 8 = .ok (.if_icmp .ge 20, 3) := by decide +kernel
theorem dX3_takes_11 : decode cX3_takes 11 = .ok (.aload_n 0, 1) := by decide +kernel
theorem dX3_takes_12 : decode cX3_takes 12 = .ok (.getfield 19, 3) := by decide +kernel
theorem dX3_takes_15 : decode cX3_takes 15 = .ok (.aload_n 0, 1) := by decide +kernel
theorem dX3_takes_16 : decode cX3_takes 16 = .ok (.getfield 140, 3) := by decide +kernel
theorem dX3_takes_19 : decode cX3_takes 19 = .ok (.iaload, 1) := by decide +kernel
theorem dX3_takes_20 : decode cX3_takes 20 = .ok (.iload_n 1, 1) := by decide +kernel
theorem dX3_takes_21 : decode cX3_takes 21 = .ok (.if_icmp .ne 7, 3) := by decide +kernel
theorem dX3_takes_24 : decode cX3_takes 24 = .ok (.iconst 1, 1) := by decide +kernel
theorem dX3_takes_25 : decode cX3_takes 25 = .ok (.goto 4, 3) := by decide +kernel
theorem dX3_takes_28 : decode cX3_takes 28 = .ok (.iconst 0, 1) := by decide +kernel
theorem dX3_takes_29 : decode cX3_takes 29 = .ok (.istore_n 2, 1) := by decide +kernel
theorem dX3_takes_30 : decode cX3_takes 30 = .ok (.aload_n 0, 1) := by decide +kernel
theorem dX3_takes_31 : decode cX3_takes 31 = .ok (.dup, 1) := by decide +kernel
theorem dX3_takes_32 : decode cX3_takes 32 = .ok (.getfield 140, 3) := by decide +kernel
theorem dX3_takes_35 : decode cX3_takes 35 = .ok (.iload_n 2, 1) := by decide +kernel
theorem dX3_takes_36 : decode cX3_takes 36 = .ok (.ifCond .eq 7, 3) := by decide +kernel
theorem dX3_takes_39 : decode cX3_takes 39 = .ok (.iconst 1, 1) := by decide +kernel
theorem dX3_takes_40 : decode cX3_takes 40 = .ok (.goto 4, 3) := by decide +kernel
theorem dX3_takes_43 : decode cX3_takes 43 = .ok (.iconst 0, 1) := by decide +kernel
theorem dX3_takes_44 : decode cX3_takes 44 = .ok (.iadd, 1) := by decide +kernel
theorem dX3_takes_45 : decode cX3_takes 45 = .ok (.putfield 140, 3) := by decide +kernel
theorem dX3_takes_48 : decode cX3_takes 48 = .ok (.iload_n 2, 1) := by decide +kernel
theorem dX3_takes_49 : decode cX3_takes 49 = .ok (.ireturn, 1) := by decide +kernel
theorem dX3_takesCell_0 : decode cX3_takesCell 0 = .ok (.aload_n 0, 1) := by decide +kernel
theorem dX3_takesCell_1 : decode cX3_takesCell 1 = .ok (.getfield 140, 3) := by decide +kernel
theorem dX3_takesCell_4 : decode cX3_takesCell 4 = .ok (.iconst 1, 1) := by decide +kernel
theorem dX3_takesCell_5 : decode cX3_takesCell 5 = .ok (.iadd, 1) := by decide +kernel
theorem dX3_takesCell_6 : decode cX3_takesCell 6 = .ok (.aload_n 0, 1) := by decide +kernel
theorem dX3_takesCell_7 : decode cX3_takesCell 7 = .ok (.getfield 71, 3) := by decide +kernel
theorem dX3_takesCell_10 : decode cX3_takesCell 10 = .ok (.if_icmp .ge 43, 3) := by decide +kernel
theorem dX3_takesCell_13 : decode cX3_takesCell 13 = .ok (.aload_n 0, 1) := by decide +kernel
theorem dX3_takesCell_14 : decode cX3_takesCell 14 = .ok (.getfield 19, 3) := by decide +kernel
theorem dX3_takesCell_17 : decode cX3_takesCell 17 = .ok (.aload_n 0, 1) := by decide +kernel
theorem dX3_takesCell_18 : decode cX3_takesCell 18 = .ok (.getfield 140, 3) := by decide +kernel
theorem dX3_takesCell_21 : decode cX3_takesCell 21 = .ok (.iaload, 1) := by decide +kernel
theorem dX3_takesCell_22 : decode cX3_takesCell 22 = .ok (.bipush 97, 2) := by decide +kernel
theorem dX3_takesCell_24 : decode cX3_takesCell 24 = .ok (.bipush 102, 2) := by decide +kernel
theorem dX3_takesCell_26 : decode cX3_takesCell 26 = .ok (.invokestatic 31, 3) := by decide +kernel
theorem dX3_takesCell_29 : decode cX3_takesCell 29 = .ok (.ifCond .eq 24, 3) := by decide +kernel
theorem dX3_takesCell_32 : decode cX3_takesCell 32 = .ok (.aload_n 0, 1) := by decide +kernel
theorem dX3_takesCell_33 : decode cX3_takesCell 33 = .ok (.getfield 19, 3) := by decide +kernel
theorem dX3_takesCell_36 : decode cX3_takesCell 36 = .ok (.aload_n 0, 1) := by decide +kernel
theorem dX3_takesCell_37 : decode cX3_takesCell 37 = .ok (.getfield 140, 3) := by decide +kernel
theorem dX3_takesCell_40 : decode cX3_takesCell 40 = .ok (.iconst 1, 1) := by decide +kernel
theorem dX3_takesCell_41 : decode cX3_takesCell 41 = .ok (.iadd, 1) := by decide +kernel
theorem dX3_takesCell_42 : decode cX3_takesCell 42 = .ok (.iaload, 1) := by decide +kernel
theorem dX3_takesCell_43 : decode cX3_takesCell 43 = .ok (.bipush 49, 2) := by decide +kernel
theorem dX3_takesCell_45 : decode cX3_takesCell 45 = .ok (.bipush 54, 2) := by decide +kernel
theorem dX3_takesCell_47 : decode cX3_takesCell 47 = .ok (.invokestatic 31, 3) := by decide +kernel
theorem dX3_takesCell_50 : decode cX3_takesCell 50 = .ok (.ifCond .ne 5, 3) := by decide +kernel
theorem dX3_takesCell_53 : decode cX3_takesCell 53 = .ok (.iconst (-1), 1) := by decide +kernel
theorem dX3_takesCell_54 : decode cX3_takesCell 54 = .ok (.ireturn, 1) := by decide +kernel
theorem dX3_takesCell_55 : decode cX3_takesCell 55 = .ok (.bipush 6, 2) := by decide +kernel
theorem dX3_takesCell_57 : decode cX3_takesCell 57 = .ok (.aload_n 0, 1) := by decide +kernel
theorem dX3_takesCell_58 : decode cX3_takesCell 58 = .ok (.getfield 19, 3) := by decide +kernel
theorem dX3_takesCell_61 : decode cX3_takesCell 61 = .ok (.aload_n 0, 1) := by decide +kernel
theorem dX3_takesCell_62 : decode cX3_takesCell 62 = .ok (.getfield 140, 3) := by decide +kernel
theorem dX3_takesCell_65 : decode cX3_takesCell 65 = .ok (.iconst 1, 1) := by decide +kernel
theorem dX3_takesCell_66 : decode cX3_takesCell 66 = .ok (.iadd, 1) := by decide +kernel
theorem dX3_takesCell_67 : decode cX3_takesCell 67 = .ok (.iaload, 1) := by decide +kernel
theorem dX3_takesCell_68 : decode cX3_takesCell 68 = .ok (.bipush 49, 2) := by decide +kernel
theorem dX3_takesCell_70 : decode cX3_takesCell 70 = .ok (.isub, 1) := by decide +kernel
theorem dX3_takesCell_71 : decode cX3_takesCell 71 = .ok (.imul, 1) := by decide +kernel
theorem dX3_takesCell_72 : decode cX3_takesCell 72 = .ok (.aload_n 0, 1) := by decide +kernel
theorem dX3_takesCell_73 : decode cX3_takesCell 73 = .ok (.getfield 19, 3) := by decide +kernel
theorem dX3_takesCell_76 : decode cX3_takesCell 76 = .ok (.aload_n 0, 1) := by decide +kernel
theorem dX3_takesCell_77 : decode cX3_takesCell 77 = .ok (.getfield 140, 3) := by decide +kernel
theorem dX3_takesCell_80 : decode cX3_takesCell 80 = .ok (.iaload, 1) := by decide +kernel
theorem dX3_takesCell_81 : decode cX3_takesCell 81 = .ok (.iadd, 1) := by decide +kernel
theorem dX3_takesCell_82 : decode cX3_takesCell 82 = .ok (.bipush 97, 2) := by decide +kernel
theorem dX3_takesCell_84 : decode cX3_takesCell 84 = .ok (.isub, 1) := by decide +kernel
theorem dX3_takesCell_85 : decode cX3_takesCell 85 = .ok (.istore_n 1, 1) := by decide +kernel
theorem dX3_takesCell_86 : decode cX3_takesCell 86 = .ok (.aload_n 0, 1) := by decide +kernel
theorem dX3_takesCell_87 : decode cX3_takesCell 87 = .ok (.dup, 1) := by decide +kernel
theorem dX3_takesCell_88 : decode cX3_takesCell 88 = .ok (.getfield 140, 3) := by decide +kernel
theorem dX3_takesCell_91 : decode cX3_takesCell 91 = .ok (.iconst 2, 1) := by decide +kernel
theorem dX3_takesCell_92 : decode cX3_takesCell 92 = .ok (.iadd, 1) := by decide +kernel
theorem dX3_takesCell_93 : decode cX3_takesCell 93 = .ok (.putfield 140, 3) := by decide +kernel
theorem dX3_takesCell_96 : decode cX3_takesCell 96 = .ok (.iload_n 1, 1) := by decide +kernel
theorem dX3_takesCell_97 : decode cX3_takesCell 97 = .ok (.ireturn, 1) := by decide +kernel
theorem dX3_isFormed_0 : decode cX3_isFormed 0 = .ok (.aload_n 0, 1) := by decide +kernel
theorem dX3_isFormed_1 : decode cX3_isFormed 1 = .ok (.iconst (-1), 1) := by decide +kernel
theorem dX3_isFormed_2 : decode cX3_isFormed 2 = .ok (.putfield 143, 3) := by decide +kernel
theorem dX3_isFormed_5 : decode cX3_isFormed 5 = .ok (.aload_n 0, 1) := by decide +kernel
theorem dX3_isFormed_6 : decode cX3_isFormed 6 = .ok (.bipush 45, 2) := by decide +kernel
theorem dX3_isFormed_8 : decode cX3_isFormed 8 = .ok (.invokevirtual 146, 3) := by decide +kernel
theorem dX3_isFormed_11 : decode cX3_isFormed 11 = .ok (.ifCond .eq 10, 3) := by decide +kernel
theorem dX3_isFormed_14 : decode cX3_isFormed 14 = .ok (.aload_n 0, 1) := by decide +kernel
theorem dX3_isFormed_15 : decode cX3_isFormed 15 = .ok (.bipush 59, 2) := by decide +kernel
theorem dX3_isFormed_17 : decode cX3_isFormed 17 = .ok (.invokevirtual 146, 3) := by decide +kernel
theorem dX3_isFormed_20 : decode cX3_isFormed 20 = .ok (.ireturn, 1) := by decide +kernel
theorem dX3_isFormed_21 : decode cX3_isFormed 21 = .ok (.aload_n 0, 1) := by decide +kernel
theorem dX3_isFormed_22 : decode cX3_isFormed 22 = .ok (.aload_n 0, 1) := by decide +kernel
theorem dX3_isFormed_23 : decode cX3_isFormed 23 = .ok (.invokevirtual 149, 3) := by decide +kernel
theorem dX3_isFormed_26 : decode cX3_isFormed 26 = .ok (.putfield 143, 3) := by decide +kernel
theorem dX3_isFormed_29 : decode cX3_isFormed 29 = .ok (.aload_n 0, 1) := by decide +kernel
theorem dX3_isFormed_30 : decode cX3_isFormed 30 = .ok (.aload_n 0, 1) := by decide +kernel
theorem dX3_isFormed_31 : decode cX3_isFormed 31 = .ok (.getfield 143, 3) := by decide +kernel
theorem dX3_isFormed_34 : decode cX3_isFormed 34 = .ok (.ifCond .ge 7, 3) := by decide +kernel
theorem dX3_isFormed_37 : decode cX3_isFormed 37 = .ok (.iconst (-1), 1) := by decide +kernel
theorem dX3_isFormed_38 : decode cX3_isFormed 38 = .ok (.goto 7, 3) := by decide +kernel
theorem dX3_isFormed_41 : decode cX3_isFormed 41 = .ok (.aload_n 0, 1) := by decide +kernel
theorem dX3_isFormed_42 : decode cX3_isFormed 42 = .ok (.invokevirtual 149, 3) := by decide +kernel
theorem dX3_isFormed_45 : decode cX3_isFormed 45 = .ok (.putfield 152, 3) := by decide +kernel
theorem dX3_isFormed_48 : decode cX3_isFormed 48 = .ok (.aload_n 0, 1) := by decide +kernel
theorem dX3_isFormed_49 : decode cX3_isFormed 49 = .ok (.getfield 152, 3) := by decide +kernel
theorem dX3_isFormed_52 : decode cX3_isFormed 52 = .ok (.ifCond .lt 16, 3) := by decide +kernel
theorem dX3_isFormed_55 : decode cX3_isFormed 55 = .ok (.aload_n 0, 1) := by decide +kernel
theorem dX3_isFormed_56 : decode cX3_isFormed 56 = .ok (.bipush 59, 2) := by decide +kernel
theorem dX3_isFormed_58 : decode cX3_isFormed 58 = .ok (.invokevirtual 146, 3) := by decide +kernel
theorem dX3_isFormed_61 : decode cX3_isFormed 61 = .ok (.ifCond .eq 7, 3) := by decide +kernel
theorem dX3_isFormed_64 : decode cX3_isFormed 64 = .ok (.iconst 1, 1) := by decide +kernel
theorem dX3_isFormed_65 : decode cX3_isFormed 65 = .ok (.goto 4, 3) := by decide +kernel
theorem dX3_isFormed_68 : decode cX3_isFormed 68 = .ok (.iconst 0, 1) := by decide +kernel
theorem dX3_isFormed_69 : decode cX3_isFormed 69 = .ok (.ireturn, 1) := by decide +kernel
theorem dX3_does_0 : decode cX3_does 0 = .ok (.aload_n 0, 1) := by decide +kernel
theorem dX3_does_1 : decode cX3_does 1 = .ok (.getfield 143, 3) := by decide +kernel
theorem dX3_does_4 : decode cX3_does 4 = .ok (.ifCond .ge 10, 3) := by decide +kernel
theorem dX3_does_7 : decode cX3_does 7 = .ok (.aload_n 0, 1) := by decide +kernel
theorem dX3_does_8 : decode cX3_does 8 = .ok (.invokevirtual 113, 3) := by decide +kernel
theorem dX3_does_11 : decode cX3_does 11 = .ok (.goto 15, 3) := by decide +kernel
theorem dX3_does_14 : decode cX3_does 14 = .ok (.aload_n 0, 1) := by decide +kernel
theorem dX3_does_15 : decode cX3_does 15 = .ok (.aload_n 0, 1) := by decide +kernel
theorem dX3_does_16 : decode cX3_does 16 = .ok (.getfield 143, 3) := by decide +kernel
theorem dX3_does_19 : decode cX3_does 19 = .ok (.aload_n 0, 1) := by decide +kernel
theorem dX3_does_20 : decode cX3_does 20 = .ok (.getfield 152, 3) := by decide +kernel
theorem dX3_does_23 : decode cX3_does 23 = .ok (.invokevirtual 107, 3) := by decide +kernel
theorem dX3_does_26 : decode cX3_does 26 = .ok (.istore_n 1, 1) := by decide +kernel
theorem dX3_does_27 : decode cX3_does 27 = .ok (.iload_n 1, 1) := by decide +kernel
theorem dX3_does_28 : decode cX3_does 28 = .ok (.ifCond .ne 17, 3) := by decide +kernel
theorem dX3_does_31 : decode cX3_does 31 = .ok (.aload_n 0, 1) := by decide +kernel
theorem dX3_does_32 : decode cX3_does 32 = .ok (.getfield 143, 3) := by decide +kernel
theorem dX3_does_35 : decode cX3_does 35 = .ok (.ifCond .ge 10, 3) := by decide +kernel
theorem dX3_does_38 : decode cX3_does 38 = .ok (.aload_n 0, 1) := by decide +kernel
theorem dX3_does_39 : decode cX3_does 39 = .ok (.invokevirtual 116, 3) := by decide +kernel
theorem dX3_does_42 : decode cX3_does 42 = .ok (.goto 19, 3) := by decide +kernel
theorem dX3_does_45 : decode cX3_does 45 = .ok (.iload_n 1, 1) := by decide +kernel
theorem dX3_does_46 : decode cX3_does 46 = .ok (.ifCond .ne 15, 3) := by decide +kernel
theorem dX3_does_49 : decode cX3_does 49 = .ok (.aload_n 0, 1) := by decide +kernel
theorem dX3_does_50 : decode cX3_does 50 = .ok (.aload_n 0, 1) := by decide +kernel
theorem dX3_does_51 : decode cX3_does 51 = .ok (.getfield 143, 3) := by decide +kernel
theorem dX3_does_54 : decode cX3_does 54 = .ok (.aload_n 0, 1) := by decide +kernel
theorem dX3_does_55 : decode cX3_does 55 = .ok (.getfield 152, 3) := by decide +kernel
theorem dX3_does_58 : decode cX3_does 58 = .ok (.invokevirtual 110, 3) := by decide +kernel
theorem dX3_does_61 : decode cX3_does 61 = .ok (.iload_n 1, 1) := by decide +kernel
theorem dX3_does_62 : decode cX3_does 62 = .ok (.ireturn, 1) := by decide +kernel
theorem dX3_reasonOfText_0 : decode cX3_reasonOfText 0 = .ok (.aload_n 0, 1) := by decide +kernel
theorem dX3_reasonOfText_1 : decode cX3_reasonOfText 1 = .ok (.iconst 0, 1) := by decide +kernel
theorem dX3_reasonOfText_2 : decode cX3_reasonOfText 2 = .ok (.putfield 140, 3) := by decide +kernel
theorem dX3_reasonOfText_5 : decode cX3_reasonOfText 5 = .ok (.aload_n 0, 1) := by decide +kernel
theorem dX3_reasonOfText_6 : decode cX3_reasonOfText 6 = .ok (.iconst 0, 1) := by decide +kernel
theorem dX3_reasonOfText_7 : decode cX3_reasonOfText 7 = .ok (.putfield 155, 3) := by decide +kernel
theorem dX3_reasonOfText_10 : decode cX3_reasonOfText 10 = .ok (.iconst 0, 1) := by decide +kernel
theorem dX3_reasonOfText_11 : decode cX3_reasonOfText 11 = .ok (.istore_n 1, 1) := by decide +kernel
theorem dX3_reasonOfText_12 : decode cX3_reasonOfText 12 = .ok (.aload_n 0, 1) := by decide +kernel
theorem dX3_reasonOfText_13 : decode cX3_reasonOfText 13 = .ok (.getfield 140, 3) := by decide +kernel
theorem dX3_reasonOfText_16 : decode cX3_reasonOfText 16 = .ok (.aload_n 0, 1) := by decide +kernel
theorem dX3_reasonOfText_17 : decode cX3_reasonOfText 17 = .ok (.getfield 71, 3) := by decide +kernel
theorem dX3_reasonOfText_20 : decode cX3_reasonOfText 20 = .ok (.if_icmp .ge 44, 3) := by decide +kernel
theorem dX3_reasonOfText_23 : decode cX3_reasonOfText 23 = .ok (.iload_n 1, 1) := by decide +kernel
theorem dX3_reasonOfText_24 : decode cX3_reasonOfText 24 = .ok (.ifCond .ne 40, 3) := by decide +kernel
theorem dX3_reasonOfText_27 : decode cX3_reasonOfText 27 = .ok (.aload_n 0, 1) := by decide +kernel
theorem dX3_reasonOfText_28 : decode cX3_reasonOfText 28 = .ok (.aload_n 0, 1) := by decide +kernel
theorem dX3_reasonOfText_29 : decode cX3_reasonOfText 29 = .ok (.getfield 140, 3) := by decide +kernel
theorem dX3_reasonOfText_32 : decode cX3_reasonOfText 32 = .ok (.putfield 158, 3) := by decide +kernel
theorem dX3_reasonOfText_35 : decode cX3_reasonOfText 35 = .ok (.aload_n 0, 1) := by decide +kernel
theorem dX3_reasonOfText_36 : decode cX3_reasonOfText 36 = .ok (.invokevirtual 161, 3) := by decide +kernel
theorem dX3_reasonOfText_39 : decode cX3_reasonOfText 39 = .ok (.ifCond .eq 10, 3) := by decide +kernel
theorem dX3_reasonOfText_42 : decode cX3_reasonOfText 42 = .ok (.aload_n 0, 1) := by decide +kernel
theorem dX3_reasonOfText_43 : decode cX3_reasonOfText 43 = .ok (.invokevirtual 165, 3) := by decide +kernel
theorem dX3_reasonOfText_46 : decode cX3_reasonOfText 46 = .ok (.goto 4, 3) := by decide +kernel
theorem dX3_reasonOfText_49 : decode cX3_reasonOfText 49 = .ok (.iconst 1, 1) := by decide +kernel
theorem dX3_reasonOfText_50 : decode cX3_reasonOfText 50 = .ok (.istore_n 1, 1) := by decide +kernel
theorem dX3_reasonOfText_51 : decode cX3_reasonOfText 51 = .ok (.aload_n 0, 1) := by decide +kernel
theorem dX3_reasonOfText_52 : decode cX3_reasonOfText 52 = .ok (.dup, 1) := by decide +kernel
theorem dX3_reasonOfText_53 : decode cX3_reasonOfText 53 = .ok (.getfield 155, 3) := by decide +kernel
theorem dX3_reasonOfText_56 : decode cX3_reasonOfText 56 = .ok (.iconst 1, 1) := by decide +kernel
theorem dX3_reasonOfText_57 : decode cX3_reasonOfText 57 = .ok (.iadd, 1) := by decide +kernel
theorem dX3_reasonOfText_58 : decode cX3_reasonOfText 58 = .ok (.putfield 155, 3) := by decide +kernel
theorem dX3_reasonOfText_61 : decode cX3_reasonOfText 61 = .ok (.goto (-49), 3) := by decide +kernel
theorem dX3_reasonOfText_64 : decode cX3_reasonOfText 64 = .ok (.iload_n 1, 1) := by decide +kernel
theorem dX3_reasonOfText_65 : decode cX3_reasonOfText 65 = .ok (.ireturn, 1) := by decide +kernel
theorem dX3_fault_0 : decode cX3_fault 0 = .ok (.iload_n 1, 1) := by decide +kernel
theorem dX3_fault_1 : decode cX3_fault 1 = .ok (.iconst 0, 1) := by decide +kernel
theorem dX3_fault_2 : decode cX3_fault 2 = .ok (.iconst 1, 1) := by decide +kernel
theorem dX3_fault_3 : decode cX3_fault 3 = .ok (.invokestatic 31, 3) := by decide +kernel
theorem dX3_fault_6 : decode cX3_fault 6 = .ok (.ifCond .ne 5, 3) := by decide +kernel
theorem dX3_fault_9 : decode cX3_fault 9 = .ok (.iconst (-1), 1) := by decide +kernel
theorem dX3_fault_10 : decode cX3_fault 10 = .ok (.ireturn, 1) := by decide +kernel
theorem dX3_fault_11 : decode cX3_fault 11 = .ok (.aload_n 0, 1) := by decide +kernel
theorem dX3_fault_12 : decode cX3_fault 12 = .ok (.invokevirtual 125, 3) := by decide +kernel
theorem dX3_fault_15 : decode cX3_fault 15 = .ok (.aload_n 0, 1) := by decide +kernel
theorem dX3_fault_16 : decode cX3_fault 16 = .ok (.invokevirtual 168, 3) := by decide +kernel
theorem dX3_fault_19 : decode cX3_fault 19 = .ok (.istore_n 2, 1) := by decide +kernel
theorem dX3_fault_20 : decode cX3_fault 20 = .ok (.aload_n 0, 1) := by decide +kernel
theorem dX3_fault_21 : decode cX3_fault 21 = .ok (.invokevirtual 128, 3) := by decide +kernel
theorem dX3_fault_24 : decode cX3_fault 24 = .ok (.iload_n 2, 1) := by decide +kernel
theorem dX3_fault_25 : decode cX3_fault 25 = .ok (.ifCond .ne 8, 3) := by decide +kernel
theorem dX3_fault_28 : decode cX3_fault 28 = .ok (.bipush (-4), 2) := by decide +kernel
theorem dX3_fault_30 : decode cX3_fault 30 = .ok (.goto 15, 3) := by decide +kernel
theorem dX3_fault_33 : decode cX3_fault 33 = .ok (.iload_n 1, 1) := by decide +kernel
theorem dX3_fault_34 : decode cX3_fault 34 = .ok (.ifCond .ne 10, 3) := by decide +kernel
theorem dX3_fault_37 : decode cX3_fault 37 = .ok (.aload_n 0, 1) := by decide +kernel
theorem dX3_fault_38 : decode cX3_fault 38 = .ok (.getfield 158, 3) := by decide +kernel
theorem dX3_fault_41 : decode cX3_fault 41 = .ok (.goto 4, 3) := by decide +kernel
theorem dX3_fault_44 : decode cX3_fault 44 = .ok (.iload_n 2, 1) := by decide +kernel
theorem dX3_fault_45 : decode cX3_fault 45 = .ok (.ireturn, 1) := by decide +kernel
theorem dX3_play_0 : decode cX3_play 0 = .ok (.aload_n 0, 1) := by decide +kernel
theorem dX3_play_1 : decode cX3_play 1 = .ok (.invokevirtual 125, 3) := by decide +kernel
theorem dX3_play_4 : decode cX3_play 4 = .ok (.aload_n 0, 1) := by decide +kernel
theorem dX3_play_5 : decode cX3_play 5 = .ok (.invokevirtual 168, 3) := by decide +kernel
theorem dX3_play_8 : decode cX3_play 8 = .ok (.istore_n 1, 1) := by decide +kernel
theorem dX3_play_9 : decode cX3_play 9 = .ok (.aload_n 0, 1) := by decide +kernel
theorem dX3_play_10 : decode cX3_play 10 = .ok (.invokevirtual 128, 3) := by decide +kernel
theorem dX3_play_13 : decode cX3_play 13 = .ok (.iload_n 1, 1) := by decide +kernel
theorem dX3_play_14 : decode cX3_play 14 = .ok (.ifCond .eq 6, 3) := by decide +kernel
theorem dX3_play_17 : decode cX3_play 17 = .ok (.bipush (-2), 2) := by decide +kernel
theorem dX3_play_19 : decode cX3_play 19 = .ok (.ireturn, 1) := by decide +kernel
theorem dX3_play_20 : decode cX3_play 20 = .ok (.aload_n 0, 1) := by decide +kernel
theorem dX3_play_21 : decode cX3_play 21 = .ok (.invokevirtual 51, 3) := by decide +kernel
theorem dX3_play_24 : decode cX3_play 24 = .ok (.aload_n 0, 1) := by decide +kernel
theorem dX3_play_25 : decode cX3_play 25 = .ok (.invokevirtual 168, 3) := by decide +kernel
theorem dX3_play_28 : decode cX3_play 28 = .ok (.istore_n 2, 1) := by decide +kernel
theorem dX3_play_29 : decode cX3_play 29 = .ok (.aload_n 0, 1) := by decide +kernel
theorem dX3_play_30 : decode cX3_play 30 = .ok (.getfield 155, 3) := by decide +kernel
theorem dX3_play_33 : decode cX3_play 33 = .ok (.ireturn, 1) := by decide +kernel
theorem dJ6_compare_7cf53_0 : decode cJ6_compare_7cf53 0 = .ok (.iload_n 0, 1) := by decide +kernel
theorem dJ6_compare_7cf53_1 : decode cJ6_compare_7cf53 1 = .ok (.iload_n 1, 1) := by decide +kernel
theorem dJ6_compare_7cf53_2 : decode cJ6_compare_7cf53 2 = .ok (.if_icmp .ge 7, 3) := by decide +kernel
theorem dJ6_compare_7cf53_5 : decode cJ6_compare_7cf53 5 = .ok (.iconst (-1), 1) := by decide +kernel
theorem dJ6_compare_7cf53_6 : decode cJ6_compare_7cf53 6 = .ok (.goto 13, 3) := by decide +kernel
theorem dJ6_compare_7cf53_9 : decode cJ6_compare_7cf53 9 = .ok (.iload_n 0, 1) := by decide +kernel
theorem dJ6_compare_7cf53_10 : decode cJ6_compare_7cf53 10 = .ok (.iload_n 1, 1) := by decide +kernel
theorem dJ6_compare_7cf53_11 : decode cJ6_compare_7cf53 11 = .ok (.if_icmp .ne 7, 3) := by decide +kernel
theorem dJ6_compare_7cf53_14 : decode cJ6_compare_7cf53 14 = .ok (.iconst 0, 1) := by decide +kernel
theorem dJ6_compare_7cf53_15 : decode cJ6_compare_7cf53 15 = .ok (.goto 4, 3) := by decide +kernel
theorem dJ6_compare_7cf53_18 : decode cJ6_compare_7cf53 18 = .ok (.iconst 1, 1) := by decide +kernel
theorem dJ6_compare_7cf53_19 : decode cJ6_compare_7cf53 19 = .ok (.ireturn, 1) := by decide +kernel
theorem dJ9_abs_0f7a4_0 : decode cJ9_abs_0f7a4 0 = .ok (.iload_n 0, 1) := by decide +kernel
theorem dJ9_abs_0f7a4_1 : decode cJ9_abs_0f7a4 1 = .ok (.ifCond .ge 8, 3) := by decide +kernel
theorem dJ9_abs_0f7a4_4 : decode cJ9_abs_0f7a4 4 = .ok (.iload_n 0, 1) := by decide +kernel
theorem dJ9_abs_0f7a4_5 : decode cJ9_abs_0f7a4 5 = .ok (.ineg, 1) := by decide +kernel
theorem dJ9_abs_0f7a4_6 : decode cJ9_abs_0f7a4 6 = .ok (.goto 4, 3) := by decide +kernel
theorem dJ9_abs_0f7a4_9 : decode cJ9_abs_0f7a4 9 = .ok (.iload_n 0, 1) := by decide +kernel
theorem dJ9_abs_0f7a4_10 : decode cJ9_abs_0f7a4 10 = .ok (.ireturn, 1) := by decide +kernel
theorem dJ9_max_7cf53_0 : decode cJ9_max_7cf53 0 = .ok (.iload_n 0, 1) := by decide +kernel
theorem dJ9_max_7cf53_1 : decode cJ9_max_7cf53 1 = .ok (.iload_n 1, 1) := by decide +kernel
theorem dJ9_max_7cf53_2 : decode cJ9_max_7cf53 2 = .ok (.if_icmp .lt 7, 3) := by decide +kernel
theorem dJ9_max_7cf53_5 : decode cJ9_max_7cf53 5 = .ok (.iload_n 0, 1) := by decide +kernel
theorem dJ9_max_7cf53_6 : decode cJ9_max_7cf53 6 = .ok (.goto 4, 3) := by decide +kernel
theorem dJ9_max_7cf53_9 : decode cJ9_max_7cf53 9 = .ok (.iload_n 1, 1) := by decide +kernel
theorem dJ9_max_7cf53_10 : decode cJ9_max_7cf53 10 = .ok (.ireturn, 1) := by decide +kernel
theorem dJ9_min_7cf53_0 : decode cJ9_min_7cf53 0 = .ok (.iload_n 0, 1) := by decide +kernel
theorem dJ9_min_7cf53_1 : decode cJ9_min_7cf53 1 = .ok (.iload_n 1, 1) := by decide +kernel
theorem dJ9_min_7cf53_2 : decode cJ9_min_7cf53 2 = .ok (.if_icmp .gt 7, 3) := by decide +kernel
theorem dJ9_min_7cf53_5 : decode cJ9_min_7cf53 5 = .ok (.iload_n 0, 1) := by decide +kernel
theorem dJ9_min_7cf53_6 : decode cJ9_min_7cf53 6 = .ok (.goto 4, 3) := by decide +kernel
theorem dJ9_min_7cf53_9 : decode cJ9_min_7cf53 9 = .ok (.iload_n 1, 1) := by decide +kernel
theorem dJ9_min_7cf53_10 : decode cJ9_min_7cf53 10 = .ok (.ireturn, 1) := by decide +kernel
theorem dL_law_0 : decode cL_law 0 = .ok (.new 7, 3) := by decide +kernel
theorem dL_law_3 : decode cL_law 3 = .ok (.dup, 1) := by decide +kernel
theorem dL_law_4 : decode cL_law 4 = .ok (.invokespecial 9, 3) := by decide +kernel
theorem dL_law_7 : decode cL_law 7 = .ok (.astore_n 1, 1) := by decide +kernel
theorem dL_law_8 : decode cL_law 8 = .ok (.new 10, 3) := by decide +kernel
theorem dL_law_11 : decode cL_law 11 = .ok (.dup, 1) := by decide +kernel
theorem dL_law_12 : decode cL_law 12 = .ok (.invokespecial 12, 3) := by decide +kernel
theorem dL_law_15 : decode cL_law 15 = .ok (.astore_n 2, 1) := by decide +kernel
theorem dL_law_16 : decode cL_law 16 = .ok (.iconst 0, 1) := by decide +kernel
theorem dL_law_17 : decode cL_law 17 = .ok (.istore_n 3, 1) := by decide +kernel
theorem dL_law_18 : decode cL_law 18 = .ok (.iload_n 3, 1) := by decide +kernel
theorem dL_law_19 : decode cL_law 19 = .ok (.aload_n 0, 1) := by decide +kernel
theorem dL_law_20 : decode cL_law 20 = .ok (.arraylength, 1) := by decide +kernel
theorem dL_law_21 : decode cL_law 21 = .ok (.iconst 5, 1) := by decide +kernel
theorem dL_law_22 : decode cL_law 22 = .ok (.isub, 1) := by decide +kernel
theorem dL_law_23 : decode cL_law 23 = .ok (.if_icmp .gt 638, 3) := by decide +kernel
theorem dL_law_26 : decode cL_law 26 = .ok (.aload_n 0, 1) := by decide +kernel
theorem dL_law_27 : decode cL_law 27 = .ok (.iload_n 3, 1) := by decide +kernel
theorem dL_law_28 : decode cL_law 28 = .ok (.iaload, 1) := by decide +kernel
theorem dL_law_29 : decode cL_law 29 = .ok (.bipush 31, 2) := by decide +kernel
theorem dL_law_31 : decode cL_law 31 = .ok (.iand, 1) := by decide +kernel
theorem dL_law_32 : decode cL_law 32 = .ok (.tableswitch 623 0 20 #[100, 113, 146, 199, 222, 255, 278, 291, 324, 337, 370, 403, 426, 459, 492, 525, 538, 551, 574, 587, 610], 100) := by decide +kernel
theorem dL_law_132 : decode cL_law 132 = .ok (.aload_n 1, 1) := by decide +kernel
theorem dL_law_133 : decode cL_law 133 = .ok (.invokevirtual 13, 3) := by decide +kernel
theorem dL_law_136 : decode cL_law 136 = .ok (.aload_n 2, 1) := by decide +kernel
theorem dL_law_137 : decode cL_law 137 = .ok (.invokevirtual 17, 3) := by decide +kernel
theorem dL_law_140 : decode cL_law 140 = .ok (.if_icmp .eq 515, 3) := by decide +kernel
theorem dL_law_143 : decode cL_law 143 = .ok (.iconst 0, 1) := by decide +kernel
theorem dL_law_144 : decode cL_law 144 = .ok (.ireturn, 1) := by decide +kernel
theorem dL_law_145 : decode cL_law 145 = .ok (.aload_n 1, 1) := by decide +kernel
theorem dL_law_146 : decode cL_law 146 = .ok (.aload_n 0, 1) := by decide +kernel
theorem dL_law_147 : decode cL_law 147 = .ok (.iload_n 3, 1) := by decide +kernel
theorem dL_law_148 : decode cL_law 148 = .ok (.iconst 1, 1) := by decide +kernel
theorem dL_law_149 : decode cL_law 149 = .ok (.iadd, 1) := by decide +kernel
theorem dL_law_150 : decode cL_law 150 = .ok (.iaload, 1) := by decide +kernel
theorem dL_law_151 : decode cL_law 151 = .ok (.aload_n 0, 1) := by decide +kernel
theorem dL_law_152 : decode cL_law 152 = .ok (.iload_n 3, 1) := by decide +kernel
theorem dL_law_153 : decode cL_law 153 = .ok (.iconst 2, 1) := by decide +kernel
theorem dL_law_154 : decode cL_law 154 = .ok (.iadd, 1) := by decide +kernel
theorem dL_law_155 : decode cL_law 155 = .ok (.iaload, 1) := by decide +kernel
theorem dL_law_156 : decode cL_law 156 = .ok (.invokevirtual 18, 3) := by decide +kernel
theorem dL_law_159 : decode cL_law 159 = .ok (.aload_n 2, 1) := by decide +kernel
theorem dL_law_160 : decode cL_law 160 = .ok (.aload_n 0, 1) := by decide +kernel
theorem dL_law_161 : decode cL_law 161 = .ok (.iload_n 3, 1) := by decide +kernel
theorem dL_law_162 : decode cL_law 162 = .ok (.iconst 1, 1) := by decide +kernel
theorem dL_law_163 : decode cL_law 163 = .ok (.iadd, 1) := by decide +kernel
theorem dL_law_164 : decode cL_law 164 = .ok (.iaload, 1) := by decide +kernel
theorem dL_law_165 : decode cL_law 165 = .ok (.aload_n 0, 1) := by decide +kernel
theorem dL_law_166 : decode cL_law 166 = .ok (.iload_n 3, 1) := by decide +kernel
theorem dL_law_167 : decode cL_law 167 = .ok (.iconst 2, 1) := by decide +kernel
theorem dL_law_168 : decode cL_law 168 = .ok (.iadd, 1) := by decide +kernel
theorem dL_law_169 : decode cL_law 169 = .ok (.iaload, 1) := by decide +kernel
theorem dL_law_170 : decode cL_law 170 = .ok (.invokevirtual 22, 3) := by decide +kernel
theorem dL_law_173 : decode cL_law 173 = .ok (.if_icmp .eq 482, 3) := by decide +kernel
theorem dL_law_176 : decode cL_law 176 = .ok (.iconst 0, 1) := by decide +kernel
theorem dL_law_177 : decode cL_law 177 = .ok (.ireturn, 1) := by decide +kernel
theorem dL_law_178 : decode cL_law 178 = .ok (.aload_n 1, 1) := by decide +kernel
theorem dL_law_179 : decode cL_law 179 = .ok (.aload_n 0, 1) := by decide +kernel
theorem dL_law_180 : decode cL_law 180 = .ok (.iload_n 3, 1) := by decide +kernel
theorem dL_law_181 : decode cL_law 181 = .ok (.iconst 1, 1) := by decide +kernel
theorem dL_law_182 : decode cL_law 182 = .ok (.iadd, 1) := by decide +kernel
theorem dL_law_183 : decode cL_law 183 = .ok (.iaload, 1) := by decide +kernel
theorem dL_law_184 : decode cL_law 184 = .ok (.aload_n 0, 1) := by decide +kernel
theorem dL_law_185 : decode cL_law 185 = .ok (.iload_n 3, 1) := by decide +kernel
theorem dL_law_186 : decode cL_law 186 = .ok (.iconst 2, 1) := by decide +kernel
theorem dL_law_187 : decode cL_law 187 = .ok (.iadd, 1) := by decide +kernel
theorem dL_law_188 : decode cL_law 188 = .ok (.iaload, 1) := by decide +kernel
theorem dL_law_189 : decode cL_law 189 = .ok (.aload_n 0, 1) := by decide +kernel
theorem dL_law_190 : decode cL_law 190 = .ok (.iload_n 3, 1) := by decide +kernel
theorem dL_law_191 : decode cL_law 191 = .ok (.iconst 3, 1) := by decide +kernel
theorem dL_law_192 : decode cL_law 192 = .ok (.iadd, 1) := by decide +kernel
theorem dL_law_193 : decode cL_law 193 = .ok (.iaload, 1) := by decide +kernel
theorem dL_law_194 : decode cL_law 194 = .ok (.aload_n 0, 1) := by decide +kernel
theorem dL_law_195 : decode cL_law 195 = .ok (.iload_n 3, 1) := by decide +kernel
theorem dL_law_196 : decode cL_law 196 = .ok (.iconst 4, 1) := by decide +kernel
theorem dL_law_197 : decode cL_law 197 = .ok (.iadd, 1) := by decide +kernel
theorem dL_law_198 : decode cL_law 198 = .ok (.iaload, 1) := by decide +kernel
theorem dL_law_199 : decode cL_law 199 = .ok (.invokevirtual 23, 3) := by decide +kernel
theorem dL_law_202 : decode cL_law 202 = .ok (.aload_n 2, 1) := by decide +kernel
theorem dL_law_203 : decode cL_law 203 = .ok (.aload_n 0, 1) := by decide +kernel
theorem dL_law_204 : decode cL_law 204 = .ok (.iload_n 3, 1) := by decide +kernel
theorem dL_law_205 : decode cL_law 205 = .ok (.iconst 1, 1) := by decide +kernel
theorem dL_law_206 : decode cL_law 206 = .ok (.iadd, 1) := by decide +kernel
theorem dL_law_207 : decode cL_law 207 = .ok (.iaload, 1) := by decide +kernel
theorem dL_law_208 : decode cL_law 208 = .ok (.aload_n 0, 1) := by decide +kernel
theorem dL_law_209 : decode cL_law 209 = .ok (.iload_n 3, 1) := by decide +kernel
theorem dL_law_210 : decode cL_law 210 = .ok (.iconst 2, 1) := by decide +kernel
theorem dL_law_211 : decode cL_law 211 = .ok (.iadd, 1) := by decide +kernel
theorem dL_law_212 : decode cL_law 212 = .ok (.iaload, 1) := by decide +kernel
theorem dL_law_213 : decode cL_law 213 = .ok (.aload_n 0, 1) := by decide +kernel
theorem dL_law_214 : decode cL_law 214 = .ok (.iload_n 3, 1) := by decide +kernel
theorem dL_law_215 : decode cL_law 215 = .ok (.iconst 3, 1) := by decide +kernel
theorem dL_law_216 : decode cL_law 216 = .ok (.iadd, 1) := by decide +kernel
theorem dL_law_217 : decode cL_law 217 = .ok (.iaload, 1) := by decide +kernel
theorem dL_law_218 : decode cL_law 218 = .ok (.aload_n 0, 1) := by decide +kernel
theorem dL_law_219 : decode cL_law 219 = .ok (.iload_n 3, 1) := by decide +kernel
theorem dL_law_220 : decode cL_law 220 = .ok (.iconst 4, 1) := by decide +kernel
theorem dL_law_221 : decode cL_law 221 = .ok (.iadd, 1) := by decide +kernel
theorem dL_law_222 : decode cL_law 222 = .ok (.iaload, 1) := by decide +kernel
theorem dL_law_223 : decode cL_law 223 = .ok (.invokevirtual 27, 3) := by decide +kernel
theorem dL_law_226 : decode cL_law 226 = .ok (.if_icmp .eq 429, 3) := by decide +kernel
theorem dL_law_229 : decode cL_law 229 = .ok (.iconst 0, 1) := by decide +kernel
theorem dL_law_230 : decode cL_law 230 = .ok (.ireturn, 1) := by decide +kernel
theorem dL_law_231 : decode cL_law 231 = .ok (.aload_n 1, 1) := by decide +kernel
theorem dL_law_232 : decode cL_law 232 = .ok (.aload_n 0, 1) := by decide +kernel
theorem dL_law_233 : decode cL_law 233 = .ok (.iload_n 3, 1) := by decide +kernel
theorem dL_law_234 : decode cL_law 234 = .ok (.iconst 1, 1) := by decide +kernel
theorem dL_law_235 : decode cL_law 235 = .ok (.iadd, 1) := by decide +kernel
theorem dL_law_236 : decode cL_law 236 = .ok (.iaload, 1) := by decide +kernel
theorem dL_law_237 : decode cL_law 237 = .ok (.invokevirtual 28, 3) := by decide +kernel
theorem dL_law_240 : decode cL_law 240 = .ok (.aload_n 2, 1) := by decide +kernel
theorem dL_law_241 : decode cL_law 241 = .ok (.aload_n 0, 1) := by decide +kernel
theorem dL_law_242 : decode cL_law 242 = .ok (.iload_n 3, 1) := by decide +kernel
theorem dL_law_243 : decode cL_law 243 = .ok (.iconst 1, 1) := by decide +kernel
theorem dL_law_244 : decode cL_law 244 = .ok (.iadd, 1) := by decide +kernel
theorem dL_law_245 : decode cL_law 245 = .ok (.iaload, 1) := by decide +kernel
theorem dL_law_246 : decode cL_law 246 = .ok (.invokevirtual 32, 3) := by decide +kernel
theorem dL_law_249 : decode cL_law 249 = .ok (.if_icmp .eq 406, 3) := by decide +kernel
theorem dL_law_252 : decode cL_law 252 = .ok (.iconst 0, 1) := by decide +kernel
theorem dL_law_253 : decode cL_law 253 = .ok (.ireturn, 1) := by decide +kernel
theorem dL_law_254 : decode cL_law 254 = .ok (.aload_n 1, 1) := by decide +kernel
theorem dL_law_255 : decode cL_law 255 = .ok (.aload_n 0, 1) := by decide +kernel
theorem dL_law_256 : decode cL_law 256 = .ok (.iload_n 3, 1) := by decide +kernel
theorem dL_law_257 : decode cL_law 257 = .ok (.iconst 1, 1) := by decide +kernel
theorem dL_law_258 : decode cL_law 258 = .ok (.iadd, 1) := by decide +kernel
theorem dL_law_259 : decode cL_law 259 = .ok (.iaload, 1) := by decide +kernel
theorem dL_law_260 : decode cL_law 260 = .ok (.aload_n 0, 1) := by decide +kernel
theorem dL_law_261 : decode cL_law 261 = .ok (.iload_n 3, 1) := by decide +kernel
theorem dL_law_262 : decode cL_law 262 = .ok (.iconst 2, 1) := by decide +kernel
theorem dL_law_263 : decode cL_law 263 = .ok (.iadd, 1) := by decide +kernel
theorem dL_law_264 : decode cL_law 264 = .ok (.iaload, 1) := by decide +kernel
theorem dL_law_265 : decode cL_law 265 = .ok (.invokevirtual 33, 3) := by decide +kernel
theorem dL_law_268 : decode cL_law 268 = .ok (.aload_n 2, 1) := by decide +kernel
theorem dL_law_269 : decode cL_law 269 = .ok (.aload_n 0, 1) := by decide +kernel
theorem dL_law_270 : decode cL_law 270 = .ok (.iload_n 3, 1) := by decide +kernel
theorem dL_law_271 : decode cL_law 271 = .ok (.iconst 1, 1) := by decide +kernel
theorem dL_law_272 : decode cL_law 272 = .ok (.iadd, 1) := by decide +kernel
theorem dL_law_273 : decode cL_law 273 = .ok (.iaload, 1) := by decide +kernel
theorem dL_law_274 : decode cL_law 274 = .ok (.aload_n 0, 1) := by decide +kernel
theorem dL_law_275 : decode cL_law 275 = .ok (.iload_n 3, 1) := by decide +kernel
theorem dL_law_276 : decode cL_law 276 = .ok (.iconst 2, 1) := by decide +kernel
theorem dL_law_277 : decode cL_law 277 = .ok (.iadd, 1) := by decide +kernel
theorem dL_law_278 : decode cL_law 278 = .ok (.iaload, 1) := by decide +kernel
theorem dL_law_279 : decode cL_law 279 = .ok (.invokevirtual 36, 3) := by decide +kernel
theorem dL_law_282 : decode cL_law 282 = .ok (.if_icmp .eq 373, 3) := by decide +kernel
theorem dL_law_285 : decode cL_law 285 = .ok (.iconst 0, 1) := by decide +kernel
theorem dL_law_286 : decode cL_law 286 = .ok (.ireturn, 1) := by decide +kernel
theorem dL_law_287 : decode cL_law 287 = .ok (.aload_n 1, 1) := by decide +kernel
theorem dL_law_288 : decode cL_law 288 = .ok (.aload_n 0, 1) := by decide +kernel
theorem dL_law_289 : decode cL_law 289 = .ok (.iload_n 3, 1) := by decide +kernel
theorem dL_law_290 : decode cL_law 290 = .ok (.iconst 1, 1) := by decide +kernel
theorem dL_law_291 : decode cL_law 291 = .ok (.iadd, 1) := by decide +kernel
theorem dL_law_292 : decode cL_law 292 = .ok (.iaload, 1) := by decide +kernel
theorem dL_law_293 : decode cL_law 293 = .ok (.invokevirtual 37, 3) := by decide +kernel
theorem dL_law_296 : decode cL_law 296 = .ok (.aload_n 2, 1) := by decide +kernel
theorem dL_law_297 : decode cL_law 297 = .ok (.aload_n 0, 1) := by decide +kernel
theorem dL_law_298 : decode cL_law 298 = .ok (.iload_n 3, 1) := by decide +kernel
theorem dL_law_299 : decode cL_law 299 = .ok (.iconst 1, 1) := by decide +kernel
theorem dL_law_300 : decode cL_law 300 = .ok (.iadd, 1) := by decide +kernel
theorem dL_law_301 : decode cL_law 301 = .ok (.iaload, 1) := by decide +kernel
theorem dL_law_302 : decode cL_law 302 = .ok (.invokevirtual 40, 3) := by decide +kernel
theorem dL_law_305 : decode cL_law 305 = .ok (.if_icmp .eq 350, 3) := by decide +kernel
theorem dL_law_308 : decode cL_law 308 = .ok (.iconst 0, 1) := by decide +kernel
theorem dL_law_309 : decode cL_law 309 = .ok (.ireturn, 1) := by decide +kernel
theorem dL_law_310 : decode cL_law 310 = .ok (.aload_n 1, 1) := by decide +kernel
theorem dL_law_311 : decode cL_law 311 = .ok (.invokevirtual 41, 3) := by decide +kernel
theorem dL_law_314 : decode cL_law 314 = .ok (.aload_n 2, 1) := by decide +kernel
theorem dL_law_315 : decode cL_law 315 = .ok (.invokevirtual 44, 3) := by decide +kernel
theorem dL_law_318 : decode cL_law 318 = .ok (.if_icmp .eq 337, 3) := by decide +kernel
theorem dL_law_321 : decode cL_law 321 = .ok (.iconst 0, 1) := by decide +kernel
theorem dL_law_322 : decode cL_law 322 = .ok (.ireturn, 1) := by decide +kernel
theorem dL_law_323 : decode cL_law 323 = .ok (.aload_n 1, 1) := by decide +kernel
theorem dL_law_324 : decode cL_law 324 = .ok (.aload_n 0, 1) := by decide +kernel
theorem dL_law_325 : decode cL_law 325 = .ok (.iload_n 3, 1) := by decide +kernel
theorem dL_law_326 : decode cL_law 326 = .ok (.iconst 1, 1) := by decide +kernel
theorem dL_law_327 : decode cL_law 327 = .ok (.iadd, 1) := by decide +kernel
theorem dL_law_328 : decode cL_law 328 = .ok (.iaload, 1) := by decide +kernel
theorem dL_law_329 : decode cL_law 329 = .ok (.aload_n 0, 1) := by decide +kernel
theorem dL_law_330 : decode cL_law 330 = .ok (.iload_n 3, 1) := by decide +kernel
theorem dL_law_331 : decode cL_law 331 = .ok (.iconst 2, 1) := by decide +kernel
theorem dL_law_332 : decode cL_law 332 = .ok (.iadd, 1) := by decide +kernel
theorem dL_law_333 : decode cL_law 333 = .ok (.iaload, 1) := by decide +kernel
theorem dL_law_334 : decode cL_law 334 = .ok (.invokevirtual 45, 3) := by decide +kernel
theorem dL_law_337 : decode cL_law 337 = .ok (.aload_n 2, 1) := by decide +kernel
theorem dL_law_338 : decode cL_law 338 = .ok (.aload_n 0, 1) := by decide +kernel
theorem dL_law_339 : decode cL_law 339 = .ok (.iload_n 3, 1) := by decide +kernel
theorem dL_law_340 : decode cL_law 340 = .ok (.iconst 1, 1) := by decide +kernel
theorem dL_law_341 : decode cL_law 341 = .ok (.iadd, 1) := by decide +kernel
theorem dL_law_342 : decode cL_law 342 = .ok (.iaload, 1) := by decide +kernel
theorem dL_law_343 : decode cL_law 343 = .ok (.aload_n 0, 1) := by decide +kernel
theorem dL_law_344 : decode cL_law 344 = .ok (.iload_n 3, 1) := by decide +kernel
theorem dL_law_345 : decode cL_law 345 = .ok (.iconst 2, 1) := by decide +kernel
theorem dL_law_346 : decode cL_law 346 = .ok (.iadd, 1) := by decide +kernel
theorem dL_law_347 : decode cL_law 347 = .ok (.iaload, 1) := by decide +kernel
theorem dL_law_348 : decode cL_law 348 = .ok (.invokevirtual 48, 3) := by decide +kernel
theorem dL_law_351 : decode cL_law 351 = .ok (.if_icmp .eq 304, 3) := by decide +kernel
theorem dL_law_354 : decode cL_law 354 = .ok (.iconst 0, 1) := by decide +kernel
theorem dL_law_355 : decode cL_law 355 = .ok (.ireturn, 1) := by decide +kernel
theorem dL_law_356 : decode cL_law 356 = .ok (.aload_n 1, 1) := by decide +kernel
theorem dL_law_357 : decode cL_law 357 = .ok (.invokevirtual 49, 3) := by decide +kernel
theorem dL_law_360 : decode cL_law 360 = .ok (.aload_n 2, 1) := by decide +kernel
theorem dL_law_361 : decode cL_law 361 = .ok (.invokevirtual 52, 3) := by decide +kernel
theorem dL_law_364 : decode cL_law 364 = .ok (.if_icmp .eq 291, 3) := by decide +kernel
theorem dL_law_367 : decode cL_law 367 = .ok (.iconst 0, 1) := by decide +kernel
theorem dL_law_368 : decode cL_law 368 = .ok (.ireturn, 1) := by decide +kernel
theorem dL_law_369 : decode cL_law 369 = .ok (.aload_n 1, 1) := by decide +kernel
theorem dL_law_370 : decode cL_law 370 = .ok (.aload_n 0, 1) := by decide +kernel
theorem dL_law_371 : decode cL_law 371 = .ok (.iload_n 3, 1) := by decide +kernel
theorem dL_law_372 : decode cL_law 372 = .ok (.iconst 1, 1) := by decide +kernel
theorem dL_law_373 : decode cL_law 373 = .ok (.iadd, 1) := by decide +kernel
theorem dL_law_374 : decode cL_law 374 = .ok (.iaload, 1) := by decide +kernel
theorem dL_law_375 : decode cL_law 375 = .ok (.aload_n 0, 1) := by decide +kernel
theorem dL_law_376 : decode cL_law 376 = .ok (.iload_n 3, 1) := by decide +kernel
theorem dL_law_377 : decode cL_law 377 = .ok (.iconst 2, 1) := by decide +kernel
theorem dL_law_378 : decode cL_law 378 = .ok (.iadd, 1) := by decide +kernel
theorem dL_law_379 : decode cL_law 379 = .ok (.iaload, 1) := by decide +kernel
theorem dL_law_380 : decode cL_law 380 = .ok (.invokevirtual 53, 3) := by decide +kernel
theorem dL_law_383 : decode cL_law 383 = .ok (.aload_n 2, 1) := by decide +kernel
theorem dL_law_384 : decode cL_law 384 = .ok (.aload_n 0, 1) := by decide +kernel
theorem dL_law_385 : decode cL_law 385 = .ok (.iload_n 3, 1) := by decide +kernel
theorem dL_law_386 : decode cL_law 386 = .ok (.iconst 1, 1) := by decide +kernel
theorem dL_law_387 : decode cL_law 387 = .ok (.iadd, 1) := by decide +kernel
theorem dL_law_388 : decode cL_law 388 = .ok (.iaload, 1) := by decide +kernel
theorem dL_law_389 : decode cL_law 389 = .ok (.aload_n 0, 1) := by decide +kernel
theorem dL_law_390 : decode cL_law 390 = .ok (.iload_n 3, 1) := by decide +kernel
theorem dL_law_391 : decode cL_law 391 = .ok (.iconst 2, 1) := by decide +kernel
theorem dL_law_392 : decode cL_law 392 = .ok (.iadd, 1) := by decide +kernel
theorem dL_law_393 : decode cL_law 393 = .ok (.iaload, 1) := by decide +kernel
theorem dL_law_394 : decode cL_law 394 = .ok (.invokevirtual 56, 3) := by decide +kernel
theorem dL_law_397 : decode cL_law 397 = .ok (.if_icmp .eq 258, 3) := by decide +kernel
theorem dL_law_400 : decode cL_law 400 = .ok (.iconst 0, 1) := by decide +kernel
theorem dL_law_401 : decode cL_law 401 = .ok (.ireturn, 1) := by decide +kernel
theorem dL_law_402 : decode cL_law 402 = .ok (.aload_n 1, 1) := by decide +kernel
theorem dL_law_403 : decode cL_law 403 = .ok (.aload_n 0, 1) := by decide +kernel
theorem dL_law_404 : decode cL_law 404 = .ok (.iload_n 3, 1) := by decide +kernel
theorem dL_law_405 : decode cL_law 405 = .ok (.iconst 1, 1) := by decide +kernel
theorem dL_law_406 : decode cL_law 406 = .ok (.iadd, 1) := by decide +kernel
theorem dL_law_407 : decode cL_law 407 = .ok (.iaload, 1) := by decide +kernel
theorem dL_law_408 : decode cL_law 408 = .ok (.aload_n 0, 1) := by decide +kernel
theorem dL_law_409 : decode cL_law 409 = .ok (.iload_n 3, 1) := by decide +kernel
theorem dL_law_410 : decode cL_law 410 = .ok (.iconst 2, 1) := by decide +kernel
theorem dL_law_411 : decode cL_law 411 = .ok (.iadd, 1) := by decide +kernel
theorem dL_law_412 : decode cL_law 412 = .ok (.iaload, 1) := by decide +kernel
theorem dL_law_413 : decode cL_law 413 = .ok (.invokevirtual 57, 3) := by decide +kernel
theorem dL_law_416 : decode cL_law 416 = .ok (.aload_n 2, 1) := by decide +kernel
theorem dL_law_417 : decode cL_law 417 = .ok (.aload_n 0, 1) := by decide +kernel
theorem dL_law_418 : decode cL_law 418 = .ok (.iload_n 3, 1) := by decide +kernel
theorem dL_law_419 : decode cL_law 419 = .ok (.iconst 1, 1) := by decide +kernel
theorem dL_law_420 : decode cL_law 420 = .ok (.iadd, 1) := by decide +kernel
theorem dL_law_421 : decode cL_law 421 = .ok (.iaload, 1) := by decide +kernel
theorem dL_law_422 : decode cL_law 422 = .ok (.aload_n 0, 1) := by decide +kernel
theorem dL_law_423 : decode cL_law 423 = .ok (.iload_n 3, 1) := by decide +kernel
theorem dL_law_424 : decode cL_law 424 = .ok (.iconst 2, 1) := by decide +kernel
theorem dL_law_425 : decode cL_law 425 = .ok (.iadd, 1) := by decide +kernel
theorem dL_law_426 : decode cL_law 426 = .ok (.iaload, 1) := by decide +kernel
theorem dL_law_427 : decode cL_law 427 = .ok (.invokevirtual 60, 3) := by decide +kernel
theorem dL_law_430 : decode cL_law 430 = .ok (.if_icmp .eq 225, 3) := by decide +kernel
theorem dL_law_433 : decode cL_law 433 = .ok (.iconst 0, 1) := by decide +kernel
theorem dL_law_434 : decode cL_law 434 = .ok (.ireturn, 1) := by decide +kernel
theorem dL_law_435 : decode cL_law 435 = .ok (.aload_n 1, 1) := by decide +kernel
theorem dL_law_436 : decode cL_law 436 = .ok (.aload_n 0, 1) := by decide +kernel
theorem dL_law_437 : decode cL_law 437 = .ok (.iload_n 3, 1) := by decide +kernel
theorem dL_law_438 : decode cL_law 438 = .ok (.iconst 1, 1) := by decide +kernel
theorem dL_law_439 : decode cL_law 439 = .ok (.iadd, 1) := by decide +kernel
theorem dL_law_440 : decode cL_law 440 = .ok (.iaload, 1) := by decide +kernel
theorem dL_law_441 : decode cL_law 441 = .ok (.invokevirtual 61, 3) := by decide +kernel
theorem dL_law_444 : decode cL_law 444 = .ok (.aload_n 2, 1) := by decide +kernel
theorem dL_law_445 : decode cL_law 445 = .ok (.aload_n 0, 1) := by decide +kernel
theorem dL_law_446 : decode cL_law 446 = .ok (.iload_n 3, 1) := by decide +kernel
theorem dL_law_447 : decode cL_law 447 = .ok (.iconst 1, 1) := by decide +kernel
theorem dL_law_448 : decode cL_law 448 = .ok (.iadd, 1) := by decide +kernel
theorem dL_law_449 : decode cL_law 449 = .ok (.iaload, 1) := by decide +kernel
theorem dL_law_450 : decode cL_law 450 = .ok (.invokevirtual 64, 3) := by decide +kernel
theorem dL_law_453 : decode cL_law 453 = .ok (.if_icmp .eq 202, 3) := by decide +kernel
theorem dL_law_456 : decode cL_law 456 = .ok (.iconst 0, 1) := by decide +kernel
theorem dL_law_457 : decode cL_law 457 = .ok (.ireturn, 1) := by decide +kernel
theorem dL_law_458 : decode cL_law 458 = .ok (.aload_n 1, 1) := by decide +kernel
theorem dL_law_459 : decode cL_law 459 = .ok (.aload_n 0, 1) := by decide +kernel
theorem dL_law_460 : decode cL_law 460 = .ok (.iload_n 3, 1) := by decide +kernel
theorem dL_law_461 : decode cL_law 461 = .ok (.iconst 1, 1) := by decide +kernel
theorem dL_law_462 : decode cL_law 462 = .ok (.iadd, 1) := by decide +kernel
theorem dL_law_463 : decode cL_law 463 = .ok (.iaload, 1) := by decide +kernel
theorem dL_law_464 : decode cL_law 464 = .ok (.aload_n 0, 1) := by decide +kernel
theorem dL_law_465 : decode cL_law 465 = .ok (.iload_n 3, 1) := by decide +kernel
theorem dL_law_466 : decode cL_law 466 = .ok (.iconst 2, 1) := by decide +kernel
theorem dL_law_467 : decode cL_law 467 = .ok (.iadd, 1) := by decide +kernel
theorem dL_law_468 : decode cL_law 468 = .ok (.iaload, 1) := by decide +kernel
theorem dL_law_469 : decode cL_law 469 = .ok (.invokevirtual 65, 3) := by decide +kernel
theorem dL_law_472 : decode cL_law 472 = .ok (.aload_n 2, 1) := by decide +kernel
theorem dL_law_473 : decode cL_law 473 = .ok (.aload_n 0, 1) := by decide +kernel
theorem dL_law_474 : decode cL_law 474 = .ok (.iload_n 3, 1) := by decide +kernel
theorem dL_law_475 : decode cL_law 475 = .ok (.iconst 1, 1) := by decide +kernel
theorem dL_law_476 : decode cL_law 476 = .ok (.iadd, 1) := by decide +kernel
theorem dL_law_477 : decode cL_law 477 = .ok (.iaload, 1) := by decide +kernel
theorem dL_law_478 : decode cL_law 478 = .ok (.aload_n 0, 1) := by decide +kernel
theorem dL_law_479 : decode cL_law 479 = .ok (.iload_n 3, 1) := by decide +kernel
theorem dL_law_480 : decode cL_law 480 = .ok (.iconst 2, 1) := by decide +kernel
theorem dL_law_481 : decode cL_law 481 = .ok (.iadd, 1) := by decide +kernel
theorem dL_law_482 : decode cL_law 482 = .ok (.iaload, 1) := by decide +kernel
theorem dL_law_483 : decode cL_law 483 = .ok (.invokevirtual 68, 3) := by decide +kernel
theorem dL_law_486 : decode cL_law 486 = .ok (.if_icmp .eq 169, 3) := by decide +kernel
theorem dL_law_489 : decode cL_law 489 = .ok (.iconst 0, 1) := by decide +kernel
theorem dL_law_490 : decode cL_law 490 = .ok (.ireturn, 1) := by decide +kernel
theorem dL_law_491 : decode cL_law 491 = .ok (.aload_n 1, 1) := by decide +kernel
theorem dL_law_492 : decode cL_law 492 = .ok (.aload_n 0, 1) := by decide +kernel
theorem dL_law_493 : decode cL_law 493 = .ok (.iload_n 3, 1) := by decide +kernel
theorem dL_law_494 : decode cL_law 494 = .ok (.iconst 1, 1) := by decide +kernel
theorem dL_law_495 : decode cL_law 495 = .ok (.iadd, 1) := by decide +kernel
theorem dL_law_496 : decode cL_law 496 = .ok (.iaload, 1) := by decide +kernel
theorem dL_law_497 : decode cL_law 497 = .ok (.aload_n 0, 1) := by decide +kernel
theorem dL_law_498 : decode cL_law 498 = .ok (.iload_n 3, 1) := by decide +kernel
theorem dL_law_499 : decode cL_law 499 = .ok (.iconst 2, 1) := by decide +kernel
theorem dL_law_500 : decode cL_law 500 = .ok (.iadd, 1) := by decide +kernel
theorem dL_law_501 : decode cL_law 501 = .ok (.iaload, 1) := by decide +kernel
theorem dL_law_502 : decode cL_law 502 = .ok (.invokevirtual 69, 3) := by decide +kernel
theorem dL_law_505 : decode cL_law 505 = .ok (.aload_n 2, 1) := by decide +kernel
theorem dL_law_506 : decode cL_law 506 = .ok (.aload_n 0, 1) := by decide +kernel
theorem dL_law_507 : decode cL_law 507 = .ok (.iload_n 3, 1) := by decide +kernel
theorem dL_law_508 : decode cL_law 508 = .ok (.iconst 1, 1) := by decide +kernel
theorem dL_law_509 : decode cL_law 509 = .ok (.iadd, 1) := by decide +kernel
theorem dL_law_510 : decode cL_law 510 = .ok (.iaload, 1) := by decide +kernel
theorem dL_law_511 : decode cL_law 511 = .ok (.aload_n 0, 1) := by decide +kernel
theorem dL_law_512 : decode cL_law 512 = .ok (.iload_n 3, 1) := by decide +kernel
theorem dL_law_513 : decode cL_law 513 = .ok (.iconst 2, 1) := by decide +kernel
theorem dL_law_514 : decode cL_law 514 = .ok (.iadd, 1) := by decide +kernel
theorem dL_law_515 : decode cL_law 515 = .ok (.iaload, 1) := by decide +kernel
theorem dL_law_516 : decode cL_law 516 = .ok (.invokevirtual 72, 3) := by decide +kernel
theorem dL_law_519 : decode cL_law 519 = .ok (.if_icmp .eq 136, 3) := by decide +kernel
theorem dL_law_522 : decode cL_law 522 = .ok (.iconst 0, 1) := by decide +kernel
theorem dL_law_523 : decode cL_law 523 = .ok (.ireturn, 1) := by decide +kernel
theorem dL_law_524 : decode cL_law 524 = .ok (.aload_n 1, 1) := by decide +kernel
theorem dL_law_525 : decode cL_law 525 = .ok (.aload_n 0, 1) := by decide +kernel
theorem dL_law_526 : decode cL_law 526 = .ok (.iload_n 3, 1) := by decide +kernel
theorem dL_law_527 : decode cL_law 527 = .ok (.iconst 1, 1) := by decide +kernel
theorem dL_law_528 : decode cL_law 528 = .ok (.iadd, 1) := by decide +kernel
theorem dL_law_529 : decode cL_law 529 = .ok (.iaload, 1) := by decide +kernel
theorem dL_law_530 : decode cL_law 530 = .ok (.aload_n 0, 1) := by decide +kernel
theorem dL_law_531 : decode cL_law 531 = .ok (.iload_n 3, 1) := by decide +kernel
theorem dL_law_532 : decode cL_law 532 = .ok (.iconst 2, 1) := by decide +kernel
theorem dL_law_533 : decode cL_law 533 = .ok (.iadd, 1) := by decide +kernel
theorem dL_law_534 : decode cL_law 534 = .ok (.iaload, 1) := by decide +kernel
theorem dL_law_535 : decode cL_law 535 = .ok (.invokevirtual 73, 3) := by decide +kernel
theorem dL_law_538 : decode cL_law 538 = .ok (.aload_n 2, 1) := by decide +kernel
theorem dL_law_539 : decode cL_law 539 = .ok (.aload_n 0, 1) := by decide +kernel
theorem dL_law_540 : decode cL_law 540 = .ok (.iload_n 3, 1) := by decide +kernel
theorem dL_law_541 : decode cL_law 541 = .ok (.iconst 1, 1) := by decide +kernel
theorem dL_law_542 : decode cL_law 542 = .ok (.iadd, 1) := by decide +kernel
theorem dL_law_543 : decode cL_law 543 = .ok (.iaload, 1) := by decide +kernel
theorem dL_law_544 : decode cL_law 544 = .ok (.aload_n 0, 1) := by decide +kernel
theorem dL_law_545 : decode cL_law 545 = .ok (.iload_n 3, 1) := by decide +kernel
theorem dL_law_546 : decode cL_law 546 = .ok (.iconst 2, 1) := by decide +kernel
theorem dL_law_547 : decode cL_law 547 = .ok (.iadd, 1) := by decide +kernel
theorem dL_law_548 : decode cL_law 548 = .ok (.iaload, 1) := by decide +kernel
theorem dL_law_549 : decode cL_law 549 = .ok (.invokevirtual 76, 3) := by decide +kernel
theorem dL_law_552 : decode cL_law 552 = .ok (.if_icmp .eq 103, 3) := by decide +kernel
theorem dL_law_555 : decode cL_law 555 = .ok (.iconst 0, 1) := by decide +kernel
theorem dL_law_556 : decode cL_law 556 = .ok (.ireturn, 1) := by decide +kernel
theorem dL_law_557 : decode cL_law 557 = .ok (.aload_n 1, 1) := by decide +kernel
theorem dL_law_558 : decode cL_law 558 = .ok (.invokevirtual 77, 3) := by decide +kernel
theorem dL_law_561 : decode cL_law 561 = .ok (.aload_n 2, 1) := by decide +kernel
theorem dL_law_562 : decode cL_law 562 = .ok (.invokevirtual 80, 3) := by decide +kernel
theorem dL_law_565 : decode cL_law 565 = .ok (.if_icmp .eq 90, 3) := by decide +kernel
theorem dL_law_568 : decode cL_law 568 = .ok (.iconst 0, 1) := by decide +kernel
theorem dL_law_569 : decode cL_law 569 = .ok (.ireturn, 1) := by decide +kernel
theorem dL_law_570 : decode cL_law 570 = .ok (.aload_n 1, 1) := by decide +kernel
theorem dL_law_571 : decode cL_law 571 = .ok (.invokevirtual 81, 3) := by decide +kernel
theorem dL_law_574 : decode cL_law 574 = .ok (.aload_n 2, 1) := by decide +kernel
theorem dL_law_575 : decode cL_law 575 = .ok (.invokevirtual 84, 3) := by decide +kernel
theorem dL_law_578 : decode cL_law 578 = .ok (.if_icmp .eq 77, 3) := by decide +kernel
theorem dL_law_581 : decode cL_law 581 = .ok (.iconst 0, 1) := by decide +kernel
theorem dL_law_582 : decode cL_law 582 = .ok (.ireturn, 1) := by decide +kernel
theorem dL_law_583 : decode cL_law 583 = .ok (.aload_n 1, 1) := by decide +kernel
theorem dL_law_584 : decode cL_law 584 = .ok (.aload_n 0, 1) := by decide +kernel
theorem dL_law_585 : decode cL_law 585 = .ok (.iload_n 3, 1) := by decide +kernel
theorem dL_law_586 : decode cL_law 586 = .ok (.iconst 1, 1) := by decide +kernel
theorem dL_law_587 : decode cL_law 587 = .ok (.iadd, 1) := by decide +kernel
theorem dL_law_588 : decode cL_law 588 = .ok (.iaload, 1) := by decide +kernel
theorem dL_law_589 : decode cL_law 589 = .ok (.invokevirtual 85, 3) := by decide +kernel
theorem dL_law_592 : decode cL_law 592 = .ok (.aload_n 2, 1) := by decide +kernel
theorem dL_law_593 : decode cL_law 593 = .ok (.aload_n 0, 1) := by decide +kernel
theorem dL_law_594 : decode cL_law 594 = .ok (.iload_n 3, 1) := by decide +kernel
theorem dL_law_595 : decode cL_law 595 = .ok (.iconst 1, 1) := by decide +kernel
theorem dL_law_596 : decode cL_law 596 = .ok (.iadd, 1) := by decide +kernel
theorem dL_law_597 : decode cL_law 597 = .ok (.iaload, 1) := by decide +kernel
theorem dL_law_598 : decode cL_law 598 = .ok (.invokevirtual 88, 3) := by decide +kernel
theorem dL_law_601 : decode cL_law 601 = .ok (.if_icmp .eq 54, 3) := by decide +kernel
theorem dL_law_604 : decode cL_law 604 = .ok (.iconst 0, 1) := by decide +kernel
theorem dL_law_605 : decode cL_law 605 = .ok (.ireturn, 1) := by decide +kernel
theorem dL_law_606 : decode cL_law 606 = .ok (.aload_n 1, 1) := by decide +kernel
theorem dL_law_607 : decode cL_law 607 = .ok (.invokevirtual 89, 3) := by decide +kernel
theorem dL_law_610 : decode cL_law 610 = .ok (.aload_n 2, 1) := by decide +kernel
theorem dL_law_611 : decode cL_law 611 = .ok (.invokevirtual 92, 3) := by decide +kernel
theorem dL_law_614 : decode cL_law 614 = .ok (.if_icmp .eq 41, 3) := by decide +kernel
theorem dL_law_617 : decode cL_law 617 = .ok (.iconst 0, 1) := by decide +kernel
theorem dL_law_618 : decode cL_law 618 = .ok (.ireturn, 1) := by decide +kernel
theorem dL_law_619 : decode cL_law 619 = .ok (.aload_n 1, 1) := by decide +kernel
theorem dL_law_620 : decode cL_law 620 = .ok (.aload_n 0, 1) := by decide +kernel
theorem dL_law_621 : decode cL_law 621 = .ok (.iload_n 3, 1) := by decide +kernel
theorem dL_law_622 : decode cL_law 622 = .ok (.iconst 1, 1) := by decide +kernel
theorem dL_law_623 : decode cL_law 623 = .ok (.iadd, 1) := by decide +kernel
theorem dL_law_624 : decode cL_law 624 = .ok (.iaload, 1) := by decide +kernel
theorem dL_law_625 : decode cL_law 625 = .ok (.invokevirtual 93, 3) := by decide +kernel
theorem dL_law_628 : decode cL_law 628 = .ok (.aload_n 2, 1) := by decide +kernel
theorem dL_law_629 : decode cL_law 629 = .ok (.aload_n 0, 1) := by decide +kernel
theorem dL_law_630 : decode cL_law 630 = .ok (.iload_n 3, 1) := by decide +kernel
theorem dL_law_631 : decode cL_law 631 = .ok (.iconst 1, 1) := by decide +kernel
theorem dL_law_632 : decode cL_law 632 = .ok (.iadd, 1) := by decide +kernel
theorem dL_law_633 : decode cL_law 633 = .ok (.iaload, 1) := by decide +kernel
theorem dL_law_634 : decode cL_law 634 = .ok (.invokevirtual 96, 3) := by decide +kernel
theorem dL_law_637 : decode cL_law 637 = .ok (.if_icmp .eq 18, 3) := by decide +kernel
theorem dL_law_640 : decode cL_law 640 = .ok (.iconst 0, 1) := by decide +kernel
theorem dL_law_641 : decode cL_law 641 = .ok (.ireturn, 1) := by decide +kernel
theorem dL_law_642 : decode cL_law 642 = .ok (.aload_n 1, 1) := by decide +kernel
theorem dL_law_643 : decode cL_law 643 = .ok (.invokevirtual 97, 3) := by decide +kernel
theorem dL_law_646 : decode cL_law 646 = .ok (.aload_n 2, 1) := by decide +kernel
theorem dL_law_647 : decode cL_law 647 = .ok (.invokevirtual 100, 3) := by decide +kernel
theorem dL_law_650 : decode cL_law 650 = .ok (.if_icmp .eq 5, 3) := by decide +kernel
theorem dL_law_653 : decode cL_law 653 = .ok (.iconst 0, 1) := by decide +kernel
theorem dL_law_654 : decode cL_law 654 = .ok (.ireturn, 1) := by decide +kernel
theorem dL_law_655 : decode cL_law 655 = .ok (.iinc 3 5, 3) := by decide +kernel
theorem dL_law_658 : decode cL_law 658 = .ok (.goto (-640), 3) := by decide +kernel
theorem dL_law_661 : decode cL_law 661 = .ok (.iconst 1, 1) := by decide +kernel
theorem dL_law_662 : decode cL_law 662 = .ok (.ireturn, 1) := by decide +kernel
abbrev vwCl : List vw_C := [(RX0, TX0, 4), (RX1, TX1, 15), (RX2, TX2, 8), (RX3, TX3, 13)]
end
section
/-! the tables' words that a walk needs; all of them hold on after a warm-up of links -/
def z_ok : Cond → Bool
  | .methodLinkNest _ _ _ _ => true
  | .fieldLinkNest _ _ _ _ _ _ => true
  | w => goodWord w
def zTab : List Cond := lw_tbl.filter z_ok
theorem zmem {w : Cond} (i : Nat) (h : lw_tbl[i]? = some w ∧ z_ok w = true) : w ∈ zTab := List.mem_filter.mpr ⟨List.mem_of_getElem? h.1, h.2⟩
theorem z_move {w : Cond} (hw : z_ok w = true) {s U : State} (hW : s.WarmedH U.vm) {a a' : Array Value} (h : w.before a s = true) : w.before a' U = true := by
  cases w with
  | methodLinkNest c i y d => exact va_Nw.use rfl (va_Nw.warmM hW (va_Nw.of rfl h))
  | fieldLinkNest c i o n d g => exact va_Nw.use rfl (va_Nw.warmF hW (va_Nw.of rfl h))
  | _ => exact word_at hW (good_of_word hw) h
def zWs (U : State) : Prop := ∀ w, w ∈ zTab → ∀ a : Array Value, w.before a U = true
theorem zWs_move {s U : State} (hW : s.WarmedH U.vm) (h : zWs s) : zWs U := fun w hw a => z_move (List.mem_filter.mp hw).2 hW (h w hw a)
theorem zWs_of {s : State} {a : Array Value} (h : ∀ w ∈ lw_tbl, w.before a s = true) : zWs s := fun w hw _ => z_move (List.mem_filter.mp hw).2 (State.WarmedH.refl s) (h w (List.mem_filter.mp hw).1)
/-- what a call of an instance method y asks of the tables, but the link -/
def zY (y : MethodName) (cc : ByteArray) (maxL : Nat) (ret : Option FieldType) (n : Nat) : Prop := Cond.instanceMethod y ∈ zTab ∧ Cond.selects y.cls y y ∈ zTab ∧ Cond.initialized y.cls ∈ zTab ∧ Cond.code y cc maxL ret ∈ zTab ∧ y.cls ≠ "java/lang/invoke/MethodHandle" ∧ y.cls ≠ "java/lang/invoke/VarHandle" ∧ (parseMethodDescriptor y.desc).map (fun d => d.parameters.length) = some n ∧ plainName y.cls = true
def zYS (y : MethodName) (cc : ByteArray) (maxL : Nat) (ret : Option FieldType) (n : Nat) : Prop := Cond.static y ∈ zTab ∧ Cond.initialized y.cls ∈ zTab ∧ Cond.code y cc maxL ret ∈ zTab ∧ y.cls ≠ "java/lang/invoke/MethodHandle" ∧ y.cls ≠ "java/lang/invoke/VarHandle" ∧ (parseMethodDescriptor y.desc).map (fun d => d.parameters.length) = some n ∧ plainName y.cls = true
theorem zw_0 : (.selects yX1_begin.cls yX1_begin yX1_begin : Cond) ∈ zTab := zmem 0 (by decide +kernel)
theorem zw_1 : (.selects yX0_arrange.cls yX0_arrange yX0_arrange : Cond) ∈ zTab := zmem 1 (by decide +kernel)
theorem zw_2 : (.selects yX0_empty.cls yX0_empty yX0_empty : Cond) ∈ zTab := zmem 2 (by decide +kernel)
theorem zw_3 : (.selects yX0_place.cls yX0_place yX0_place : Cond) ∈ zTab := zmem 3 (by decide +kernel)
theorem zw_4 : (.selects yX0_markTower.cls yX0_markTower yX0_markTower : Cond) ∈ zTab := zmem 4 (by decide +kernel)
theorem zw_5 : (.selects yX0_springsInAll.cls yX0_springsInAll yX0_springsInAll : Cond) ∈ zTab := zmem 5 (by decide +kernel)
theorem zw_6 : (.selects yX0_springsOf.cls yX0_springsOf yX0_springsOf : Cond) ∈ zTab := zmem 6 (by decide +kernel)
theorem zw_7 : (.selects yX2_record.cls yX2_record yX2_record : Cond) ∈ zTab := zmem 7 (by decide +kernel)
theorem zw_8 : (.selects yX1_copyFrom.cls yX1_copyFrom yX1_copyFrom : Cond) ∈ zTab := zmem 8 (by decide +kernel)
theorem zw_9 : (.selects yX0_copyFrom.cls yX0_copyFrom yX0_copyFrom : Cond) ∈ zTab := zmem 9 (by decide +kernel)
theorem zw_10 : (.selects yX1_setting.cls yX1_setting yX1_setting : Cond) ∈ zTab := zmem 10 (by decide +kernel)
theorem zw_11 : (.selects yX1_changeSetting.cls yX1_changeSetting yX1_changeSetting : Cond) ∈ zTab := zmem 11 (by decide +kernel)
theorem zw_12 : (.selects yX1_cutSprings.cls yX1_cutSprings yX1_cutSprings : Cond) ∈ zTab := zmem 12 (by decide +kernel)
theorem zw_13 : (.selects yX0_springOn.cls yX0_springOn yX0_springOn : Cond) ∈ zTab := zmem 13 (by decide +kernel)
theorem zw_14 : (.selects yX0_changeSpring.cls yX0_changeSpring yX0_changeSpring : Cond) ∈ zTab := zmem 14 (by decide +kernel)
theorem zw_15 : (.selects yX1_isOver.cls yX1_isOver yX1_isOver : Cond) ∈ zTab := zmem 15 (by decide +kernel)
theorem zw_16 : (.selects yX0_hasPiece.cls yX0_hasPiece yX0_hasPiece : Cond) ∈ zTab := zmem 16 (by decide +kernel)
theorem zw_17 : (.selects yX0_sideOn.cls yX0_sideOn yX0_sideOn : Cond) ∈ zTab := zmem 17 (by decide +kernel)
theorem zw_18 : (.selects yX1_putInstead.cls yX1_putInstead yX1_putInstead : Cond) ∈ zTab := zmem 18 (by decide +kernel)
theorem zw_19 : (.selects yX0_isTower.cls yX0_isTower yX0_isTower : Cond) ∈ zTab := zmem 19 (by decide +kernel)
theorem zw_20 : (.selects yX0_towersInAll.cls yX0_towersInAll yX0_towersInAll : Cond) ∈ zTab := zmem 20 (by decide +kernel)
theorem zw_21 : (.selects yX0_kindOn.cls yX0_kindOn yX0_kindOn : Cond) ∈ zTab := zmem 21 (by decide +kernel)
theorem zw_22 : (.selects yX0_movesFrom.cls yX0_movesFrom yX0_movesFrom : Cond) ∈ zTab := zmem 22 (by decide +kernel)
theorem zw_23 : (.selects yX0_canMove.cls yX0_canMove yX0_canMove : Cond) ∈ zTab := zmem 23 (by decide +kernel)
theorem zw_24 : (.selects yX0_price.cls yX0_price yX0_price : Cond) ∈ zTab := zmem 24 (by decide +kernel)
theorem zw_25 : (.selects yX0_priceAlong.cls yX0_priceAlong yX0_priceAlong : Cond) ∈ zTab := zmem 25 (by decide +kernel)
theorem zw_26 : (.selects yX0_piecesInAll.cls yX0_piecesInAll yX0_piecesInAll : Cond) ∈ zTab := zmem 26 (by decide +kernel)
theorem zw_27 : (.selects yX1_account.cls yX1_account yX1_account : Cond) ∈ zTab := zmem 27 (by decide +kernel)
theorem zw_28 : (.selects yX1_reasonAgainst.cls yX1_reasonAgainst yX1_reasonAgainst : Cond) ∈ zTab := zmem 28 (by decide +kernel)
theorem zw_29 : (.selects yX1_makeMove.cls yX1_makeMove yX1_makeMove : Cond) ∈ zTab := zmem 29 (by decide +kernel)
theorem zw_30 : (.selects yX1_carryOut.cls yX1_carryOut yX1_carryOut : Cond) ∈ zTab := zmem 30 (by decide +kernel)
theorem zw_31 : (.selects yX1_springBehindTaking.cls yX1_springBehindTaking yX1_springBehindTaking : Cond) ∈ zTab := zmem 31 (by decide +kernel)
theorem zw_32 : (.selects yX1_beginTurn.cls yX1_beginTurn yX1_beginTurn : Cond) ∈ zTab := zmem 32 (by decide +kernel)
theorem zw_33 : (.selects yX1_reasonAgainstPass.cls yX1_reasonAgainstPass yX1_reasonAgainstPass : Cond) ∈ zTab := zmem 33 (by decide +kernel)
theorem zw_34 : (.selects yX0_movesOf.cls yX0_movesOf yX0_movesOf : Cond) ∈ zTab := zmem 34 (by decide +kernel)
theorem zw_35 : (.selects yX1_makePass.cls yX1_makePass yX1_makePass : Cond) ∈ zTab := zmem 35 (by decide +kernel)
theorem zw_36 : (.selects yX2_makeReachWider.cls yX2_makeReachWider yX2_makeReachWider : Cond) ∈ zTab := zmem 36 (by decide +kernel)
theorem zw_37 : (.selects yX2_leaveFrom.cls yX2_leaveFrom yX2_leaveFrom : Cond) ∈ zTab := zmem 37 (by decide +kernel)
theorem zw_38 : (.selects yX2_cellsReached.cls yX2_cellsReached yX2_cellsReached : Cond) ∈ zTab := zmem 38 (by decide +kernel)
theorem zw_39 : (.selects yX2_gamesBehind.cls yX2_gamesBehind yX2_gamesBehind : Cond) ∈ zTab := zmem 39 (by decide +kernel)
theorem zw_40 : (.selects yX2_worthOf.cls yX2_worthOf yX2_worthOf : Cond) ∈ zTab := zmem 40 (by decide +kernel)
theorem zw_41 : (.selects yX2_tryText.cls yX2_tryText yX2_tryText : Cond) ∈ zTab := zmem 41 (by decide +kernel)
theorem zw_42 : (.selects yX2_signsOfForm.cls yX2_signsOfForm yX2_signsOfForm : Cond) ∈ zTab := zmem 42 (by decide +kernel)
theorem zw_43 : (.selects yX2_signAt.cls yX2_signAt yX2_signAt : Cond) ∈ zTab := zmem 43 (by decide +kernel)
theorem zw_44 : (.selects yX2_cellAt.cls yX2_cellAt yX2_cellAt : Cond) ∈ zTab := zmem 44 (by decide +kernel)
theorem zw_45 : (.selects yX2_movesInText.cls yX2_movesInText yX2_movesInText : Cond) ∈ zTab := zmem 45 (by decide +kernel)
theorem zw_46 : (.selects yX3_begins.cls yX3_begins yX3_begins : Cond) ∈ zTab := zmem 46 (by decide +kernel)
theorem zw_47 : (.selects yX3_lays.cls yX3_lays yX3_lays : Cond) ∈ zTab := zmem 47 (by decide +kernel)
theorem zw_48 : (.selects yX3_allSprings.cls yX3_allSprings yX3_allSprings : Cond) ∈ zTab := zmem 48 (by decide +kernel)
theorem zw_49 : (.selects yX3_springs.cls yX3_springs yX3_springs : Cond) ∈ zTab := zmem 49 (by decide +kernel)
theorem zw_50 : (.selects yX3_records.cls yX3_records yX3_records : Cond) ∈ zTab := zmem 50 (by decide +kernel)
theorem zw_51 : (.selects yX3_towers.cls yX3_towers yX3_towers : Cond) ∈ zTab := zmem 51 (by decide +kernel)
theorem zw_52 : (.selects yX3_movesFrom.cls yX3_movesFrom yX3_movesFrom : Cond) ∈ zTab := zmem 52 (by decide +kernel)
theorem zw_53 : (.selects yX3_canGo.cls yX3_canGo yX3_canGo : Cond) ∈ zTab := zmem 53 (by decide +kernel)
theorem zw_54 : (.selects yX3_costOf.cls yX3_costOf yX3_costOf : Cond) ∈ zTab := zmem 54 (by decide +kernel)
theorem zw_55 : (.selects yX3_costBy.cls yX3_costBy yX3_costBy : Cond) ∈ zTab := zmem 55 (by decide +kernel)
theorem zw_56 : (.selects yX3_isFree.cls yX3_isFree yX3_isFree : Cond) ∈ zTab := zmem 56 (by decide +kernel)
theorem zw_57 : (.selects yX3_pieces.cls yX3_pieces yX3_pieces : Cond) ∈ zTab := zmem 57 (by decide +kernel)
theorem zw_58 : (.selects yX3_refuses.cls yX3_refuses yX3_refuses : Cond) ∈ zTab := zmem 58 (by decide +kernel)
theorem zw_59 : (.selects yX3_makes.cls yX3_makes yX3_makes : Cond) ∈ zTab := zmem 59 (by decide +kernel)
theorem zw_60 : (.selects yX3_goes.cls yX3_goes yX3_goes : Cond) ∈ zTab := zmem 60 (by decide +kernel)
theorem zw_61 : (.selects yX3_turns.cls yX3_turns yX3_turns : Cond) ∈ zTab := zmem 61 (by decide +kernel)
theorem zw_62 : (.selects yX3_refusesPass.cls yX3_refusesPass yX3_refusesPass : Cond) ∈ zTab := zmem 62 (by decide +kernel)
theorem zw_63 : (.selects yX3_movesOf.cls yX3_movesOf yX3_movesOf : Cond) ∈ zTab := zmem 63 (by decide +kernel)
theorem zw_64 : (.selects yX3_passes.cls yX3_passes yX3_passes : Cond) ∈ zTab := zmem 64 (by decide +kernel)
theorem zw_65 : (.selects yX3_moveAt.cls yX3_moveAt yX3_moveAt : Cond) ∈ zTab := zmem 65 (by decide +kernel)
theorem zw_66 : (.selects yX3_laysAside.cls yX3_laysAside yX3_laysAside : Cond) ∈ zTab := zmem 66 (by decide +kernel)
theorem zw_67 : (.selects yX3_bringsBack.cls yX3_bringsBack yX3_bringsBack : Cond) ∈ zTab := zmem 67 (by decide +kernel)
theorem zw_68 : (.selects yX3_goesOn.cls yX3_goesOn yX3_goesOn : Cond) ∈ zTab := zmem 68 (by decide +kernel)
theorem zw_69 : (.selects yX3_repliesTo.cls yX3_repliesTo yX3_repliesTo : Cond) ∈ zTab := zmem 69 (by decide +kernel)
theorem zw_70 : (.selects yX3_goodFor.cls yX3_goodFor yX3_goodFor : Cond) ∈ zTab := zmem 70 (by decide +kernel)
theorem zw_71 : (.selects yX3_reasonOfText.cls yX3_reasonOfText yX3_reasonOfText : Cond) ∈ zTab := zmem 71 (by decide +kernel)
theorem zw_72 : (.selects yX3_isFormed.cls yX3_isFormed yX3_isFormed : Cond) ∈ zTab := zmem 72 (by decide +kernel)
theorem zw_73 : (.selects yX3_takes.cls yX3_takes yX3_takes : Cond) ∈ zTab := zmem 73 (by decide +kernel)
theorem zw_74 : (.selects yX3_takesCell.cls yX3_takesCell yX3_takesCell : Cond) ∈ zTab := zmem 74 (by decide +kernel)
theorem zw_75 : (.selects yX3_does.cls yX3_does yX3_does : Cond) ∈ zTab := zmem 75 (by decide +kernel)
theorem zw_76 : (.initialized RL : Cond) ∈ zTab := zmem 76 (by decide +kernel)
theorem zw_77 : (.initialized RX2 : Cond) ∈ zTab := zmem 77 (by decide +kernel)
theorem zw_78 : (.initialized RX1 : Cond) ∈ zTab := zmem 78 (by decide +kernel)
theorem zw_79 : (.initialized RX0 : Cond) ∈ zTab := zmem 79 (by decide +kernel)
theorem zw_80 : (.initialized RX3 : Cond) ∈ zTab := zmem 80 (by decide +kernel)
theorem zw_81 : (.initialized RJ10 : Cond) ∈ zTab := zmem 81 (by decide +kernel)
theorem zw_82 : (.initialized RJ9 : Cond) ∈ zTab := zmem 82 (by decide +kernel)
theorem zw_83 : (.initialized RJ6 : Cond) ∈ zTab := zmem 83 (by decide +kernel)
theorem zw_84 : (.classLink RL 7 "ClockworkChess" : Cond) ∈ zTab := zmem 84 (by decide +kernel)
theorem zw_85 : (.instantiable RX2 8 : Cond) ∈ zTab := zmem 85 (by decide +kernel)
theorem zw_86 : (.methodLink RL 9 yX2_init : Cond) ∈ zTab := zmem 86 (by decide +kernel)
theorem zw_87 : (.instanceMethod yX2_init : Cond) ∈ zTab := zmem 87 (by decide +kernel)
theorem zw_88 : (.code yX2_init cX2_init 2 none : Cond) ∈ zTab := zmem 88 (by decide +kernel)
theorem zw_89 : (.methodLink RX2 1 objectInit : Cond) ∈ zTab := zmem 89 (by decide +kernel)
theorem zw_90 : (.instanceMethod objectInit : Cond) ∈ zTab := zmem 90 (by decide +kernel)
theorem zw_91 : (.code objectInit ⟨#[0xb1]⟩ 1 none : Cond) ∈ zTab := zmem 91 (by decide +kernel)
theorem zw_92 : (.classLink RX2 7 "ClockworkChess$Game" : Cond) ∈ zTab := zmem 92 (by decide +kernel)
theorem zw_93 : (.instantiable RX1 15 : Cond) ∈ zTab := zmem 93 (by decide +kernel)
theorem zw_94 : (.methodLinkNest RX2 9 yX1_init "ClockworkChess" : Cond) ∈ zTab := zmem 94 (by decide +kernel)
theorem zw_95 : (.instanceMethod yX1_init : Cond) ∈ zTab := zmem 95 (by decide +kernel)
theorem zw_96 : (.code yX1_init cX1_init 1 none : Cond) ∈ zTab := zmem 96 (by decide +kernel)
theorem zw_97 : (.methodLink RX1 3 objectInit : Cond) ∈ zTab := zmem 97 (by decide +kernel)
theorem zw_98 : (.classLink RX1 9 "ClockworkChess$Board" : Cond) ∈ zTab := zmem 98 (by decide +kernel)
theorem zw_99 : (.instantiable RX0 4 : Cond) ∈ zTab := zmem 99 (by decide +kernel)
theorem zw_100 : (.methodLinkNest RX1 11 yX0_init "ClockworkChess" : Cond) ∈ zTab := zmem 100 (by decide +kernel)
theorem zw_101 : (.instanceMethod yX0_init : Cond) ∈ zTab := zmem 101 (by decide +kernel)
theorem zw_102 : (.code yX0_init cX0_init 1 none : Cond) ∈ zTab := zmem 102 (by decide +kernel)
theorem zw_103 : (.methodLink RX0 3 objectInit : Cond) ∈ zTab := zmem 103 (by decide +kernel)
theorem zw_104 : (.fieldLink RX0 9 "ClockworkChess$Board" "sides" "[I" : Cond) ∈ zTab := zmem 104 (by decide +kernel)
theorem zw_105 : (.fieldLink RX0 15 "ClockworkChess$Board" "kinds" "[I" : Cond) ∈ zTab := zmem 105 (by decide +kernel)
theorem zw_106 : (.fieldLink RX0 18 "ClockworkChess$Board" "springs" "[I" : Cond) ∈ zTab := zmem 106 (by decide +kernel)
theorem zw_107 : (.fieldLink RX0 21 "ClockworkChess$Board" "towers" "[I" : Cond) ∈ zTab := zmem 107 (by decide +kernel)
theorem zw_117 : (.arrayClass .int : Cond) ∈ zTab := zmem 117 (by decide +kernel)
theorem zw_118 : (.fieldLink RX1 12 "ClockworkChess$Game" "board" "LClockworkChess$Board;" : Cond) ∈ zTab := zmem 118 (by decide +kernel)
theorem zw_119 : (.fieldLinkNest RX2 40 "ClockworkChess$Game" "board" "LClockworkChess$Board;" "ClockworkChess" : Cond) ∈ zTab := zmem 119 (by decide +kernel)
theorem zw_120 : (.fieldLink RX1 18 "ClockworkChess$Game" "limit" "I" : Cond) ∈ zTab := zmem 120 (by decide +kernel)
theorem zw_121 : (.fieldLinkNest RX2 66 "ClockworkChess$Game" "limit" "I" "ClockworkChess" : Cond) ∈ zTab := zmem 121 (by decide +kernel)
theorem zw_122 : (.fieldLink RX1 22 "ClockworkChess$Game" "bonus" "I" : Cond) ∈ zTab := zmem 122 (by decide +kernel)
theorem zw_123 : (.fieldLink RX1 25 "ClockworkChess$Game" "winding" "I" : Cond) ∈ zTab := zmem 123 (by decide +kernel)
theorem zw_124 : (.fieldLink RX1 35 "ClockworkChess$Game" "mover" "I" : Cond) ∈ zTab := zmem 124 (by decide +kernel)
theorem zw_125 : (.fieldLinkNest RX2 106 "ClockworkChess$Game" "mover" "I" "ClockworkChess" : Cond) ∈ zTab := zmem 125 (by decide +kernel)
theorem zw_126 : (.fieldLink RX1 38 "ClockworkChess$Game" "ending" "I" : Cond) ∈ zTab := zmem 126 (by decide +kernel)
theorem zw_127 : (.fieldLinkNest RX2 109 "ClockworkChess$Game" "ending" "I" "ClockworkChess" : Cond) ∈ zTab := zmem 127 (by decide +kernel)
theorem zw_128 : (.fieldLink RX1 28 "ClockworkChess$Game" "winner" "I" : Cond) ∈ zTab := zmem 128 (by decide +kernel)
theorem zw_129 : (.fieldLinkNest RX2 112 "ClockworkChess$Game" "winner" "I" "ClockworkChess" : Cond) ∈ zTab := zmem 129 (by decide +kernel)
theorem zw_130 : (.fieldLink RX1 41 "ClockworkChess$Game" "turnsMade" "I" : Cond) ∈ zTab := zmem 130 (by decide +kernel)
theorem zw_131 : (.fieldLinkNest RX2 115 "ClockworkChess$Game" "turnsMade" "I" "ClockworkChess" : Cond) ∈ zTab := zmem 131 (by decide +kernel)
theorem zw_132 : (.fieldLink RX1 44 "ClockworkChess$Game" "justPassed" "Z" : Cond) ∈ zTab := zmem 132 (by decide +kernel)
theorem zw_133 : (.fieldLink RX1 48 "ClockworkChess$Game" "atBeginning" "I" : Cond) ∈ zTab := zmem 133 (by decide +kernel)
theorem zw_134 : (.fieldLink RX1 51 "ClockworkChess$Game" "wound" "I" : Cond) ∈ zTab := zmem 134 (by decide +kernel)
theorem zw_135 : (.fieldLink RX1 54 "ClockworkChess$Game" "gainedByBonus" "I" : Cond) ∈ zTab := zmem 135 (by decide +kernel)
theorem zw_136 : (.fieldLink RX1 57 "ClockworkChess$Game" "spent" "I" : Cond) ∈ zTab := zmem 136 (by decide +kernel)
theorem zw_137 : (.fieldLink RX1 60 "ClockworkChess$Game" "lost" "I" : Cond) ∈ zTab := zmem 137 (by decide +kernel)
theorem zw_138 : (.fieldLink RX1 63 "ClockworkChess$Game" "putOn" "I" : Cond) ∈ zTab := zmem 138 (by decide +kernel)
theorem zw_171 : (.methodLinkNest RX2 34 yX1_begin "ClockworkChess" : Cond) ∈ zTab := zmem 171 (by decide +kernel)
theorem zw_173 : (.instanceMethod yX1_begin : Cond) ∈ zTab := zmem 173 (by decide +kernel)
theorem zw_174 : (.code yX1_begin cX1_begin 1 none : Cond) ∈ zTab := zmem 174 (by decide +kernel)
theorem zw_175 : (.methodLinkNest RX1 66 yX0_arrange "ClockworkChess" : Cond) ∈ zTab := zmem 175 (by decide +kernel)
theorem zw_177 : (.instanceMethod yX0_arrange : Cond) ∈ zTab := zmem 177 (by decide +kernel)
theorem zw_178 : (.code yX0_arrange cX0_arrange 3 none : Cond) ∈ zTab := zmem 178 (by decide +kernel)
theorem zw_179 : (.methodLink RX0 30 yX0_empty : Cond) ∈ zTab := zmem 179 (by decide +kernel)
theorem zw_181 : (.instanceMethod yX0_empty : Cond) ∈ zTab := zmem 181 (by decide +kernel)
theorem zw_182 : (.code yX0_empty cX0_empty 2 none : Cond) ∈ zTab := zmem 182 (by decide +kernel)
theorem zw_183 : (.methodLink RX0 41 yX0_place : Cond) ∈ zTab := zmem 183 (by decide +kernel)
theorem zw_185 : (.instanceMethod yX0_place : Cond) ∈ zTab := zmem 185 (by decide +kernel)
theorem zw_186 : (.code yX0_place cX0_place 5 none : Cond) ∈ zTab := zmem 186 (by decide +kernel)
theorem zw_187 : (.methodLinkNest RX0 48 yX2_isCell "ClockworkChess" : Cond) ∈ zTab := zmem 187 (by decide +kernel)
theorem zw_188 : (.static yX2_isCell : Cond) ∈ zTab := zmem 188 (by decide +kernel)
theorem zw_189 : (.code yX2_isCell cX2_isCell 1 (some .boolean) : Cond) ∈ zTab := zmem 189 (by decide +kernel)
theorem zw_190 : (.methodLink RX0 34 yX0_markTower : Cond) ∈ zTab := zmem 190 (by decide +kernel)
theorem zw_192 : (.instanceMethod yX0_markTower : Cond) ∈ zTab := zmem 192 (by decide +kernel)
theorem zw_193 : (.code yX0_markTower cX0_markTower 3 none : Cond) ∈ zTab := zmem 193 (by decide +kernel)
theorem zw_194 : (.fieldLinkNest RX0 38 "ClockworkChess" "FIRST_ROW" "[I" "ClockworkChess" : Cond) ∈ zTab := zmem 194 (by decide +kernel)
theorem zw_196 : (.fieldLinkNest RX0 45 "ClockworkChess" "FIRST_TOWERS" "[I" "ClockworkChess" : Cond) ∈ zTab := zmem 196 (by decide +kernel)
theorem zw_198 : (.methodLinkNest RX1 70 yX0_springsInAll "ClockworkChess" : Cond) ∈ zTab := zmem 198 (by decide +kernel)
theorem zw_200 : (.instanceMethod yX0_springsInAll : Cond) ∈ zTab := zmem 200 (by decide +kernel)
theorem zw_201 : (.code yX0_springsInAll cX0_springsInAll 1 (some .int) : Cond) ∈ zTab := zmem 201 (by decide +kernel)
theorem zw_202 : (.methodLink RX0 56 yX0_springsOf : Cond) ∈ zTab := zmem 202 (by decide +kernel)
theorem zw_204 : (.instanceMethod yX0_springsOf : Cond) ∈ zTab := zmem 204 (by decide +kernel)
theorem zw_205 : (.code yX0_springsOf cX0_springsOf 4 (some .int) : Cond) ∈ zTab := zmem 205 (by decide +kernel)
theorem zw_206 : (.fieldLink RX2 10 "ClockworkChess" "game" "LClockworkChess$Game;" : Cond) ∈ zTab := zmem 206 (by decide +kernel)
theorem zw_207 : (.fieldLink RX2 16 "ClockworkChess" "trial" "LClockworkChess$Game;" : Cond) ∈ zTab := zmem 207 (by decide +kernel)
theorem zw_208 : (.fieldLink RX2 19 "ClockworkChess" "states" "[LClockworkChess$Game;" : Cond) ∈ zTab := zmem 208 (by decide +kernel)
theorem zw_209 : (.fieldLink RX2 124 "ClockworkChess" "stateCount" "I" : Cond) ∈ zTab := zmem 209 (by decide +kernel)
theorem zw_210 : (.fieldLink RX2 23 "ClockworkChess" "text" "[C" : Cond) ∈ zTab := zmem 210 (by decide +kernel)
theorem zw_211 : (.fieldLink RX2 127 "ClockworkChess" "textLength" "I" : Cond) ∈ zTab := zmem 211 (by decide +kernel)
theorem zw_212 : (.fieldLink RX2 27 "ClockworkChess" "springLeft" "[I" : Cond) ∈ zTab := zmem 212 (by decide +kernel)
theorem zw_213 : (.fieldLink RX2 31 "ClockworkChess" "springLeftNext" "[I" : Cond) ∈ zTab := zmem 213 (by decide +kernel)
theorem zw_231 : (.arrayClass .char : Cond) ∈ zTab := zmem 231 (by decide +kernel)
theorem zw_232 : (.methodLink RL 13 yX2_setUp : Cond) ∈ zTab := zmem 232 (by decide +kernel)
theorem zw_233 : (.instanceMethod yX2_setUp : Cond) ∈ zTab := zmem 233 (by decide +kernel)
theorem zw_234 : (.selects yX2_setUp.cls yX2_setUp yX2_setUp : Cond) ∈ zTab := zmem 234 (by decide +kernel)
theorem zw_235 : (.code yX2_setUp cX2_setUp 1 (some .int) : Cond) ∈ zTab := zmem 235 (by decide +kernel)
theorem zw_236 : (.methodLink RX2 37 yX2_record : Cond) ∈ zTab := zmem 236 (by decide +kernel)
theorem zw_238 : (.instanceMethod yX2_record : Cond) ∈ zTab := zmem 238 (by decide +kernel)
theorem zw_239 : (.code yX2_record cX2_record 3 none : Cond) ∈ zTab := zmem 239 (by decide +kernel)
theorem zw_240 : (.methodLinkNest RX2 136 yX1_copyFrom "ClockworkChess" : Cond) ∈ zTab := zmem 240 (by decide +kernel)
theorem zw_242 : (.instanceMethod yX1_copyFrom : Cond) ∈ zTab := zmem 242 (by decide +kernel)
theorem zw_243 : (.code yX1_copyFrom cX1_copyFrom 2 none : Cond) ∈ zTab := zmem 243 (by decide +kernel)
theorem zw_244 : (.methodLinkNest RX1 31 yX0_copyFrom "ClockworkChess" : Cond) ∈ zTab := zmem 244 (by decide +kernel)
theorem zw_246 : (.instanceMethod yX0_copyFrom : Cond) ∈ zTab := zmem 246 (by decide +kernel)
theorem zw_247 : (.code yX0_copyFrom cX0_copyFrom 2 none : Cond) ∈ zTab := zmem 247 (by decide +kernel)
theorem zw_248 : (.methodLink RX0 24 arraycopyName : Cond) ∈ zTab := zmem 248 (by decide +kernel)
theorem zw_249 : (.static arraycopyName : Cond) ∈ zTab := zmem 249 (by decide +kernel)
theorem zw_250 : (.native arraycopyName : Cond) ∈ zTab := zmem 250 (by decide +kernel)
theorem zw_251 : (.methodLinkNest RX2 44 yX0_springsInAll "ClockworkChess" : Cond) ∈ zTab := zmem 251 (by decide +kernel)
theorem zw_252 : (.methodLink RL 18 yX2_set : Cond) ∈ zTab := zmem 252 (by decide +kernel)
theorem zw_253 : (.instanceMethod yX2_set : Cond) ∈ zTab := zmem 253 (by decide +kernel)
theorem zw_254 : (.selects yX2_set.cls yX2_set yX2_set : Cond) ∈ zTab := zmem 254 (by decide +kernel)
theorem zw_255 : (.code yX2_set cX2_set 4 (some .int) : Cond) ∈ zTab := zmem 255 (by decide +kernel)
theorem zw_256 : (.methodLink RX2 50 yX2_isSetting : Cond) ∈ zTab := zmem 256 (by decide +kernel)
theorem zw_257 : (.static yX2_isSetting : Cond) ∈ zTab := zmem 257 (by decide +kernel)
theorem zw_258 : (.code yX2_isSetting cX2_isSetting 2 (some .boolean) : Cond) ∈ zTab := zmem 258 (by decide +kernel)
theorem zw_259 : (.methodLinkNest RX2 54 yX1_setting "ClockworkChess" : Cond) ∈ zTab := zmem 259 (by decide +kernel)
theorem zw_261 : (.instanceMethod yX1_setting : Cond) ∈ zTab := zmem 261 (by decide +kernel)
theorem zw_262 : (.code yX1_setting cX1_setting 2 (some .int) : Cond) ∈ zTab := zmem 262 (by decide +kernel)
theorem zw_263 : (.methodLinkNest RX2 58 yX1_changeSetting "ClockworkChess" : Cond) ∈ zTab := zmem 263 (by decide +kernel)
theorem zw_265 : (.instanceMethod yX1_changeSetting : Cond) ∈ zTab := zmem 265 (by decide +kernel)
theorem zw_266 : (.code yX1_changeSetting cX1_changeSetting 3 none : Cond) ∈ zTab := zmem 266 (by decide +kernel)
theorem zw_267 : (.methodLink RX1 74 yX1_cutSprings : Cond) ∈ zTab := zmem 267 (by decide +kernel)
theorem zw_269 : (.instanceMethod yX1_cutSprings : Cond) ∈ zTab := zmem 269 (by decide +kernel)
theorem zw_270 : (.code yX1_cutSprings cX1_cutSprings 3 none : Cond) ∈ zTab := zmem 270 (by decide +kernel)
theorem zw_271 : (.methodLinkNest RX1 77 yX0_springOn "ClockworkChess" : Cond) ∈ zTab := zmem 271 (by decide +kernel)
theorem zw_273 : (.instanceMethod yX0_springOn : Cond) ∈ zTab := zmem 273 (by decide +kernel)
theorem zw_274 : (.code yX0_springOn cX0_springOn 2 (some .int) : Cond) ∈ zTab := zmem 274 (by decide +kernel)
theorem zw_275 : (.methodLinkNest RX1 81 yX0_changeSpring "ClockworkChess" : Cond) ∈ zTab := zmem 275 (by decide +kernel)
theorem zw_277 : (.instanceMethod yX0_changeSpring : Cond) ∈ zTab := zmem 277 (by decide +kernel)
theorem zw_278 : (.code yX0_changeSpring cX0_changeSpring 3 none : Cond) ∈ zTab := zmem 278 (by decide +kernel)
theorem zw_279 : (.methodLink RL 23 yX2_put : Cond) ∈ zTab := zmem 279 (by decide +kernel)
theorem zw_280 : (.instanceMethod yX2_put : Cond) ∈ zTab := zmem 280 (by decide +kernel)
theorem zw_281 : (.selects yX2_put.cls yX2_put yX2_put : Cond) ∈ zTab := zmem 281 (by decide +kernel)
theorem zw_282 : (.code yX2_put cX2_put 9 (some .int) : Cond) ∈ zTab := zmem 282 (by decide +kernel)
theorem zw_283 : (.methodLink RX2 62 yX2_isSide : Cond) ∈ zTab := zmem 283 (by decide +kernel)
theorem zw_284 : (.static yX2_isSide : Cond) ∈ zTab := zmem 284 (by decide +kernel)
theorem zw_285 : (.code yX2_isSide cX2_isSide 1 (some .boolean) : Cond) ∈ zTab := zmem 285 (by decide +kernel)
theorem zw_286 : (.methodLink RX2 70 yX2_isCell : Cond) ∈ zTab := zmem 286 (by decide +kernel)
theorem zw_287 : (.methodLinkNest RX2 73 yX1_isOver "ClockworkChess" : Cond) ∈ zTab := zmem 287 (by decide +kernel)
theorem zw_289 : (.instanceMethod yX1_isOver : Cond) ∈ zTab := zmem 289 (by decide +kernel)
theorem zw_290 : (.code yX1_isOver cX1_isOver 1 (some .boolean) : Cond) ∈ zTab := zmem 290 (by decide +kernel)
theorem zw_291 : (.methodLinkNest RX2 77 yX0_hasPiece "ClockworkChess" : Cond) ∈ zTab := zmem 291 (by decide +kernel)
theorem zw_293 : (.instanceMethod yX0_hasPiece : Cond) ∈ zTab := zmem 293 (by decide +kernel)
theorem zw_294 : (.code yX0_hasPiece cX0_hasPiece 2 (some .boolean) : Cond) ∈ zTab := zmem 294 (by decide +kernel)
theorem zw_295 : (.methodLink RX0 52 yX0_sideOn : Cond) ∈ zTab := zmem 295 (by decide +kernel)
theorem zw_297 : (.instanceMethod yX0_sideOn : Cond) ∈ zTab := zmem 297 (by decide +kernel)
theorem zw_298 : (.code yX0_sideOn cX0_sideOn 2 (some .int) : Cond) ∈ zTab := zmem 298 (by decide +kernel)
theorem zw_299 : (.methodLinkNest RX2 80 yX1_putInstead "ClockworkChess" : Cond) ∈ zTab := zmem 299 (by decide +kernel)
theorem zw_301 : (.instanceMethod yX1_putInstead : Cond) ∈ zTab := zmem 301 (by decide +kernel)
theorem zw_302 : (.code yX1_putInstead cX1_putInstead 5 none : Cond) ∈ zTab := zmem 302 (by decide +kernel)
theorem zw_303 : (.methodLinkNest RX1 85 yX0_empty "ClockworkChess" : Cond) ∈ zTab := zmem 303 (by decide +kernel)
theorem zw_304 : (.methodLinkNest RX1 88 yX0_place "ClockworkChess" : Cond) ∈ zTab := zmem 304 (by decide +kernel)
theorem zw_305 : (.methodLink RL 28 yX2_tower : Cond) ∈ zTab := zmem 305 (by decide +kernel)
theorem zw_306 : (.instanceMethod yX2_tower : Cond) ∈ zTab := zmem 306 (by decide +kernel)
theorem zw_307 : (.selects yX2_tower.cls yX2_tower yX2_tower : Cond) ∈ zTab := zmem 307 (by decide +kernel)
theorem zw_308 : (.code yX2_tower cX2_tower 2 (some .int) : Cond) ∈ zTab := zmem 308 (by decide +kernel)
theorem zw_309 : (.methodLinkNest RX2 84 yX0_isTower "ClockworkChess" : Cond) ∈ zTab := zmem 309 (by decide +kernel)
theorem zw_311 : (.instanceMethod yX0_isTower : Cond) ∈ zTab := zmem 311 (by decide +kernel)
theorem zw_312 : (.code yX0_isTower cX0_isTower 2 (some .boolean) : Cond) ∈ zTab := zmem 312 (by decide +kernel)
theorem zw_313 : (.methodLinkNest RX2 87 yX0_towersInAll "ClockworkChess" : Cond) ∈ zTab := zmem 313 (by decide +kernel)
theorem zw_315 : (.instanceMethod yX0_towersInAll : Cond) ∈ zTab := zmem 315 (by decide +kernel)
theorem zw_316 : (.code yX0_towersInAll cX0_towersInAll 3 (some .int) : Cond) ∈ zTab := zmem 316 (by decide +kernel)
theorem zw_317 : (.methodLinkNest RX2 90 yX0_markTower "ClockworkChess" : Cond) ∈ zTab := zmem 317 (by decide +kernel)
theorem zw_318 : (.methodLink RL 33 yX2_cell : Cond) ∈ zTab := zmem 318 (by decide +kernel)
theorem zw_319 : (.instanceMethod yX2_cell : Cond) ∈ zTab := zmem 319 (by decide +kernel)
theorem zw_320 : (.selects yX2_cell.cls yX2_cell yX2_cell : Cond) ∈ zTab := zmem 320 (by decide +kernel)
theorem zw_321 : (.code yX2_cell cX2_cell 4 (some .int) : Cond) ∈ zTab := zmem 321 (by decide +kernel)
theorem zw_322 : (.methodLinkNest RX2 94 yX0_sideOn "ClockworkChess" : Cond) ∈ zTab := zmem 322 (by decide +kernel)
theorem zw_323 : (.methodLinkNest RX2 97 yX0_kindOn "ClockworkChess" : Cond) ∈ zTab := zmem 323 (by decide +kernel)
theorem zw_325 : (.instanceMethod yX0_kindOn : Cond) ∈ zTab := zmem 325 (by decide +kernel)
theorem zw_326 : (.code yX0_kindOn cX0_kindOn 2 (some .int) : Cond) ∈ zTab := zmem 326 (by decide +kernel)
theorem zw_327 : (.methodLinkNest RX2 100 yX0_springOn "ClockworkChess" : Cond) ∈ zTab := zmem 327 (by decide +kernel)
theorem zw_328 : (.methodLinkNest RX2 103 yX0_movesFrom "ClockworkChess" : Cond) ∈ zTab := zmem 328 (by decide +kernel)
theorem zw_330 : (.instanceMethod yX0_movesFrom : Cond) ∈ zTab := zmem 330 (by decide +kernel)
theorem zw_331 : (.code yX0_movesFrom cX0_movesFrom 4 (some .int) : Cond) ∈ zTab := zmem 331 (by decide +kernel)
theorem zw_332 : (.methodLink RX0 59 yX0_canMove : Cond) ∈ zTab := zmem 332 (by decide +kernel)
theorem zw_334 : (.instanceMethod yX0_canMove : Cond) ∈ zTab := zmem 334 (by decide +kernel)
theorem zw_335 : (.code yX0_canMove cX0_canMove 4 (some .boolean) : Cond) ∈ zTab := zmem 335 (by decide +kernel)
theorem zw_336 : (.methodLink RX0 63 yX0_price : Cond) ∈ zTab := zmem 336 (by decide +kernel)
theorem zw_338 : (.instanceMethod yX0_price : Cond) ∈ zTab := zmem 338 (by decide +kernel)
theorem zw_339 : (.code yX0_price cX0_price 10 (some .int) : Cond) ∈ zTab := zmem 339 (by decide +kernel)
theorem zw_340 : (.methodLink RX0 70 yJ9_abs_0f7a4 : Cond) ∈ zTab := zmem 340 (by decide +kernel)
theorem zw_341 : (.static yJ9_abs_0f7a4 : Cond) ∈ zTab := zmem 341 (by decide +kernel)
theorem zw_342 : (.code yJ9_abs_0f7a4 Lib.Math.abs.code 1 (some .int) : Cond) ∈ zTab := zmem 342 (by decide +kernel)
theorem zw_343 : (.methodLink RX0 75 yX0_kindOn : Cond) ∈ zTab := zmem 343 (by decide +kernel)
theorem zw_344 : (.methodLink RX0 78 yJ9_max_7cf53 : Cond) ∈ zTab := zmem 344 (by decide +kernel)
theorem zw_345 : (.static yJ9_max_7cf53 : Cond) ∈ zTab := zmem 345 (by decide +kernel)
theorem zw_346 : (.code yJ9_max_7cf53 Lib.Math.max.code 2 (some .int) : Cond) ∈ zTab := zmem 346 (by decide +kernel)
theorem zw_347 : (.methodLink RX0 81 yX0_priceAlong : Cond) ∈ zTab := zmem 347 (by decide +kernel)
theorem zw_349 : (.instanceMethod yX0_priceAlong : Cond) ∈ zTab := zmem 349 (by decide +kernel)
theorem zw_350 : (.code yX0_priceAlong cX0_priceAlong 8 (some .int) : Cond) ∈ zTab := zmem 350 (by decide +kernel)
theorem zw_351 : (.methodLink RX0 85 yJ6_compare_7cf53 : Cond) ∈ zTab := zmem 351 (by decide +kernel)
theorem zw_352 : (.static yJ6_compare_7cf53 : Cond) ∈ zTab := zmem 352 (by decide +kernel)
theorem zw_353 : (.code yJ6_compare_7cf53 cJ6_compare_7cf53 2 (some .int) : Cond) ∈ zTab := zmem 353 (by decide +kernel)
theorem zw_354 : (.methodLink RX0 67 yX0_springOn : Cond) ∈ zTab := zmem 354 (by decide +kernel)
theorem zw_355 : (.methodLink RL 37 yX2_count : Cond) ∈ zTab := zmem 355 (by decide +kernel)
theorem zw_356 : (.instanceMethod yX2_count : Cond) ∈ zTab := zmem 356 (by decide +kernel)
theorem zw_357 : (.selects yX2_count.cls yX2_count yX2_count : Cond) ∈ zTab := zmem 357 (by decide +kernel)
theorem zw_358 : (.code yX2_count cX2_count 2 (some .int) : Cond) ∈ zTab := zmem 358 (by decide +kernel)
theorem zw_359 : (.methodLinkNest RX2 118 yX0_piecesInAll "ClockworkChess" : Cond) ∈ zTab := zmem 359 (by decide +kernel)
theorem zw_361 : (.instanceMethod yX0_piecesInAll : Cond) ∈ zTab := zmem 361 (by decide +kernel)
theorem zw_362 : (.code yX0_piecesInAll cX0_piecesInAll 3 (some .int) : Cond) ∈ zTab := zmem 362 (by decide +kernel)
theorem zw_363 : (.methodLinkNest RX2 121 yX0_springsOf "ClockworkChess" : Cond) ∈ zTab := zmem 363 (by decide +kernel)
theorem zw_364 : (.methodLink RX2 130 yX2_isAccount : Cond) ∈ zTab := zmem 364 (by decide +kernel)
theorem zw_365 : (.static yX2_isAccount : Cond) ∈ zTab := zmem 365 (by decide +kernel)
theorem zw_366 : (.code yX2_isAccount cX2_isAccount 1 (some .boolean) : Cond) ∈ zTab := zmem 366 (by decide +kernel)
theorem zw_367 : (.methodLinkNest RX2 133 yX1_account "ClockworkChess" : Cond) ∈ zTab := zmem 367 (by decide +kernel)
theorem zw_369 : (.instanceMethod yX1_account : Cond) ∈ zTab := zmem 369 (by decide +kernel)
theorem zw_370 : (.code yX1_account cX1_account 2 (some .int) : Cond) ∈ zTab := zmem 370 (by decide +kernel)
theorem zw_371 : (.methodLink RL 41 yX2_undo : Cond) ∈ zTab := zmem 371 (by decide +kernel)
theorem zw_372 : (.instanceMethod yX2_undo : Cond) ∈ zTab := zmem 372 (by decide +kernel)
theorem zw_373 : (.selects yX2_undo.cls yX2_undo yX2_undo : Cond) ∈ zTab := zmem 373 (by decide +kernel)
theorem zw_374 : (.code yX2_undo cX2_undo 1 (some .int) : Cond) ∈ zTab := zmem 374 (by decide +kernel)
theorem zw_375 : (.methodLink RL 45 yX2_move : Cond) ∈ zTab := zmem 375 (by decide +kernel)
theorem zw_376 : (.instanceMethod yX2_move : Cond) ∈ zTab := zmem 376 (by decide +kernel)
theorem zw_377 : (.selects yX2_move.cls yX2_move yX2_move : Cond) ∈ zTab := zmem 377 (by decide +kernel)
theorem zw_378 : (.code yX2_move cX2_move 3 (some .int) : Cond) ∈ zTab := zmem 378 (by decide +kernel)
theorem zw_379 : (.methodLinkNest RX2 140 yX1_reasonAgainst "ClockworkChess" : Cond) ∈ zTab := zmem 379 (by decide +kernel)
theorem zw_381 : (.instanceMethod yX1_reasonAgainst : Cond) ∈ zTab := zmem 381 (by decide +kernel)
theorem zw_382 : (.code yX1_reasonAgainst cX1_reasonAgainst 4 (some .int) : Cond) ∈ zTab := zmem 382 (by decide +kernel)
theorem zw_383 : (.methodLink RX1 92 yX1_isOver : Cond) ∈ zTab := zmem 383 (by decide +kernel)
theorem zw_384 : (.methodLinkNest RX1 96 yX0_hasPiece "ClockworkChess" : Cond) ∈ zTab := zmem 384 (by decide +kernel)
theorem zw_385 : (.methodLinkNest RX1 100 yX0_sideOn "ClockworkChess" : Cond) ∈ zTab := zmem 385 (by decide +kernel)
theorem zw_386 : (.methodLinkNest RX1 103 yX0_price "ClockworkChess" : Cond) ∈ zTab := zmem 386 (by decide +kernel)
theorem zw_387 : (.methodLinkNest RX2 144 yX1_makeMove "ClockworkChess" : Cond) ∈ zTab := zmem 387 (by decide +kernel)
theorem zw_389 : (.instanceMethod yX1_makeMove : Cond) ∈ zTab := zmem 389 (by decide +kernel)
theorem zw_390 : (.code yX1_makeMove cX1_makeMove 4 (some .int) : Cond) ∈ zTab := zmem 390 (by decide +kernel)
theorem zw_391 : (.methodLink RX1 110 yX1_carryOut : Cond) ∈ zTab := zmem 391 (by decide +kernel)
theorem zw_393 : (.instanceMethod yX1_carryOut : Cond) ∈ zTab := zmem 393 (by decide +kernel)
theorem zw_394 : (.code yX1_carryOut cX1_carryOut 8 (some .int) : Cond) ∈ zTab := zmem 394 (by decide +kernel)
theorem zw_395 : (.methodLinkNest RX1 116 yX0_kindOn "ClockworkChess" : Cond) ∈ zTab := zmem 395 (by decide +kernel)
theorem zw_396 : (.methodLink RX1 119 yX1_springBehindTaking : Cond) ∈ zTab := zmem 396 (by decide +kernel)
theorem zw_398 : (.instanceMethod yX1_springBehindTaking : Cond) ∈ zTab := zmem 398 (by decide +kernel)
theorem zw_399 : (.code yX1_springBehindTaking cX1_springBehindTaking 6 (some .int) : Cond) ∈ zTab := zmem 399 (by decide +kernel)
theorem zw_400 : (.methodLink RX1 122 yJ9_min_7cf53 : Cond) ∈ zTab := zmem 400 (by decide +kernel)
theorem zw_401 : (.static yJ9_min_7cf53 : Cond) ∈ zTab := zmem 401 (by decide +kernel)
theorem zw_402 : (.code yJ9_min_7cf53 Lib.Math.min.code 2 (some .int) : Cond) ∈ zTab := zmem 402 (by decide +kernel)
theorem zw_403 : (.methodLink RX1 113 yX1_beginTurn : Cond) ∈ zTab := zmem 403 (by decide +kernel)
theorem zw_405 : (.instanceMethod yX1_beginTurn : Cond) ∈ zTab := zmem 405 (by decide +kernel)
theorem zw_406 : (.code yX1_beginTurn cX1_beginTurn 4 none : Cond) ∈ zTab := zmem 406 (by decide +kernel)
theorem zw_407 : (.methodLinkNest RX1 130 yX0_isTower "ClockworkChess" : Cond) ∈ zTab := zmem 407 (by decide +kernel)
theorem zw_408 : (.methodLink RL 49 yX2_pass : Cond) ∈ zTab := zmem 408 (by decide +kernel)
theorem zw_409 : (.instanceMethod yX2_pass : Cond) ∈ zTab := zmem 409 (by decide +kernel)
theorem zw_410 : (.selects yX2_pass.cls yX2_pass yX2_pass : Cond) ∈ zTab := zmem 410 (by decide +kernel)
theorem zw_411 : (.code yX2_pass cX2_pass 1 (some .int) : Cond) ∈ zTab := zmem 411 (by decide +kernel)
theorem zw_412 : (.methodLinkNest RX2 147 yX1_reasonAgainstPass "ClockworkChess" : Cond) ∈ zTab := zmem 412 (by decide +kernel)
theorem zw_414 : (.instanceMethod yX1_reasonAgainstPass : Cond) ∈ zTab := zmem 414 (by decide +kernel)
theorem zw_415 : (.code yX1_reasonAgainstPass cX1_reasonAgainstPass 1 (some .int) : Cond) ∈ zTab := zmem 415 (by decide +kernel)
theorem zw_416 : (.methodLinkNest RX1 107 yX0_movesOf "ClockworkChess" : Cond) ∈ zTab := zmem 416 (by decide +kernel)
theorem zw_418 : (.instanceMethod yX0_movesOf : Cond) ∈ zTab := zmem 418 (by decide +kernel)
theorem zw_419 : (.code yX0_movesOf cX0_movesOf 5 (some .int) : Cond) ∈ zTab := zmem 419 (by decide +kernel)
theorem zw_420 : (.methodLinkNest RX2 150 yX1_makePass "ClockworkChess" : Cond) ∈ zTab := zmem 420 (by decide +kernel)
theorem zw_422 : (.instanceMethod yX1_makePass : Cond) ∈ zTab := zmem 422 (by decide +kernel)
theorem zw_423 : (.code yX1_makePass cX1_makePass 2 none : Cond) ∈ zTab := zmem 423 (by decide +kernel)
theorem zw_424 : (.methodLinkNest RX1 127 yX0_springsOf "ClockworkChess" : Cond) ∈ zTab := zmem 424 (by decide +kernel)
theorem zw_425 : (.methodLink RL 53 yX2_refusal : Cond) ∈ zTab := zmem 425 (by decide +kernel)
theorem zw_426 : (.instanceMethod yX2_refusal : Cond) ∈ zTab := zmem 426 (by decide +kernel)
theorem zw_427 : (.selects yX2_refusal.cls yX2_refusal yX2_refusal : Cond) ∈ zTab := zmem 427 (by decide +kernel)
theorem zw_428 : (.code yX2_refusal cX2_refusal 3 (some .int) : Cond) ∈ zTab := zmem 428 (by decide +kernel)
theorem zw_429 : (.methodLink RL 57 yX2_cost : Cond) ∈ zTab := zmem 429 (by decide +kernel)
theorem zw_430 : (.instanceMethod yX2_cost : Cond) ∈ zTab := zmem 430 (by decide +kernel)
theorem zw_431 : (.selects yX2_cost.cls yX2_cost yX2_cost : Cond) ∈ zTab := zmem 431 (by decide +kernel)
theorem zw_432 : (.code yX2_cost cX2_cost 4 (some .int) : Cond) ∈ zTab := zmem 432 (by decide +kernel)
theorem zw_433 : (.methodLinkNest RX2 153 yX0_price "ClockworkChess" : Cond) ∈ zTab := zmem 433 (by decide +kernel)
theorem zw_434 : (.methodLink RL 61 yX2_moves : Cond) ∈ zTab := zmem 434 (by decide +kernel)
theorem zw_435 : (.instanceMethod yX2_moves : Cond) ∈ zTab := zmem 435 (by decide +kernel)
theorem zw_436 : (.selects yX2_moves.cls yX2_moves yX2_moves : Cond) ∈ zTab := zmem 436 (by decide +kernel)
theorem zw_437 : (.code yX2_moves cX2_moves 2 (some .int) : Cond) ∈ zTab := zmem 437 (by decide +kernel)
theorem zw_438 : (.methodLinkNest RX2 156 yX0_movesOf "ClockworkChess" : Cond) ∈ zTab := zmem 438 (by decide +kernel)
theorem zw_439 : (.methodLink RL 65 yX2_listed : Cond) ∈ zTab := zmem 439 (by decide +kernel)
theorem zw_440 : (.instanceMethod yX2_listed : Cond) ∈ zTab := zmem 440 (by decide +kernel)
theorem zw_441 : (.selects yX2_listed.cls yX2_listed yX2_listed : Cond) ∈ zTab := zmem 441 (by decide +kernel)
theorem zw_442 : (.code yX2_listed cX2_listed 7 (some .int) : Cond) ∈ zTab := zmem 442 (by decide +kernel)
theorem zw_443 : (.methodLinkNest RX2 159 yX0_canMove "ClockworkChess" : Cond) ∈ zTab := zmem 443 (by decide +kernel)
theorem zw_444 : (.methodLink RL 69 yX2_struck : Cond) ∈ zTab := zmem 444 (by decide +kernel)
theorem zw_445 : (.instanceMethod yX2_struck : Cond) ∈ zTab := zmem 445 (by decide +kernel)
theorem zw_446 : (.selects yX2_struck.cls yX2_struck yX2_struck : Cond) ∈ zTab := zmem 446 (by decide +kernel)
theorem zw_447 : (.code yX2_struck cX2_struck 6 (some .int) : Cond) ∈ zTab := zmem 447 (by decide +kernel)
theorem zw_448 : (.methodLinkNest RX2 162 yX0_copyFrom "ClockworkChess" : Cond) ∈ zTab := zmem 448 (by decide +kernel)
theorem zw_449 : (.methodLinkNest RX2 165 yX0_place "ClockworkChess" : Cond) ∈ zTab := zmem 449 (by decide +kernel)
theorem zw_450 : (.methodLink RL 73 yX2_reach : Cond) ∈ zTab := zmem 450 (by decide +kernel)
theorem zw_451 : (.instanceMethod yX2_reach : Cond) ∈ zTab := zmem 451 (by decide +kernel)
theorem zw_452 : (.selects yX2_reach.cls yX2_reach yX2_reach : Cond) ∈ zTab := zmem 452 (by decide +kernel)
theorem zw_453 : (.code yX2_reach cX2_reach 6 (some .int) : Cond) ∈ zTab := zmem 453 (by decide +kernel)
theorem zw_454 : (.methodLinkNest RX2 168 yX0_empty "ClockworkChess" : Cond) ∈ zTab := zmem 454 (by decide +kernel)
theorem zw_455 : (.methodLink RX2 172 yX2_makeReachWider : Cond) ∈ zTab := zmem 455 (by decide +kernel)
theorem zw_457 : (.instanceMethod yX2_makeReachWider : Cond) ∈ zTab := zmem 457 (by decide +kernel)
theorem zw_458 : (.code yX2_makeReachWider cX2_makeReachWider 5 none : Cond) ∈ zTab := zmem 458 (by decide +kernel)
theorem zw_459 : (.methodLink RX2 190 arraycopyName : Cond) ∈ zTab := zmem 459 (by decide +kernel)
theorem zw_460 : (.methodLink RX2 196 yX2_leaveFrom : Cond) ∈ zTab := zmem 460 (by decide +kernel)
theorem zw_462 : (.instanceMethod yX2_leaveFrom : Cond) ∈ zTab := zmem 462 (by decide +kernel)
theorem zw_463 : (.code yX2_leaveFrom cX2_leaveFrom 5 none : Cond) ∈ zTab := zmem 463 (by decide +kernel)
theorem zw_464 : (.methodLink RX2 199 yJ9_max_7cf53 : Cond) ∈ zTab := zmem 464 (by decide +kernel)
theorem zw_465 : (.methodLink RX2 175 yX2_cellsReached : Cond) ∈ zTab := zmem 465 (by decide +kernel)
theorem zw_467 : (.instanceMethod yX2_cellsReached : Cond) ∈ zTab := zmem 467 (by decide +kernel)
theorem zw_468 : (.code yX2_cellsReached cX2_cellsReached 3 (some .int) : Cond) ∈ zTab := zmem 468 (by decide +kernel)
theorem zw_469 : (.methodLink RL 77 yX2_replies : Cond) ∈ zTab := zmem 469 (by decide +kernel)
theorem zw_470 : (.instanceMethod yX2_replies : Cond) ∈ zTab := zmem 470 (by decide +kernel)
theorem zw_471 : (.selects yX2_replies.cls yX2_replies yX2_replies : Cond) ∈ zTab := zmem 471 (by decide +kernel)
theorem zw_472 : (.code yX2_replies cX2_replies 4 (some .int) : Cond) ∈ zTab := zmem 472 (by decide +kernel)
theorem zw_473 : (.methodLink RX2 178 yX2_gamesBehind : Cond) ∈ zTab := zmem 473 (by decide +kernel)
theorem zw_475 : (.instanceMethod yX2_gamesBehind : Cond) ∈ zTab := zmem 475 (by decide +kernel)
theorem zw_476 : (.code yX2_gamesBehind cX2_gamesBehind 3 (some .int) : Cond) ∈ zTab := zmem 476 (by decide +kernel)
theorem zw_477 : (.methodLink RL 81 yX2_best : Cond) ∈ zTab := zmem 477 (by decide +kernel)
theorem zw_478 : (.instanceMethod yX2_best : Cond) ∈ zTab := zmem 478 (by decide +kernel)
theorem zw_479 : (.selects yX2_best.cls yX2_best yX2_best : Cond) ∈ zTab := zmem 479 (by decide +kernel)
theorem zw_480 : (.code yX2_best cX2_best 6 (some .int) : Cond) ∈ zTab := zmem 480 (by decide +kernel)
theorem zw_481 : (.methodLink RX2 181 yX2_worthOf : Cond) ∈ zTab := zmem 481 (by decide +kernel)
theorem zw_483 : (.instanceMethod yX2_worthOf : Cond) ∈ zTab := zmem 483 (by decide +kernel)
theorem zw_484 : (.code yX2_worthOf cX2_worthOf 5 (some .int) : Cond) ∈ zTab := zmem 484 (by decide +kernel)
theorem zw_485 : (.methodLinkNest RX2 204 yX1_carryOut "ClockworkChess" : Cond) ∈ zTab := zmem 485 (by decide +kernel)
theorem zw_486 : (.methodLink RL 85 yX2_type : Cond) ∈ zTab := zmem 486 (by decide +kernel)
theorem zw_487 : (.instanceMethod yX2_type : Cond) ∈ zTab := zmem 487 (by decide +kernel)
theorem zw_488 : (.selects yX2_type.cls yX2_type yX2_type : Cond) ∈ zTab := zmem 488 (by decide +kernel)
theorem zw_489 : (.code yX2_type cX2_type 2 (some .int) : Cond) ∈ zTab := zmem 489 (by decide +kernel)
theorem zw_490 : (.methodLink RL 89 yX2_clearText : Cond) ∈ zTab := zmem 490 (by decide +kernel)
theorem zw_491 : (.instanceMethod yX2_clearText : Cond) ∈ zTab := zmem 491 (by decide +kernel)
theorem zw_492 : (.selects yX2_clearText.cls yX2_clearText yX2_clearText : Cond) ∈ zTab := zmem 492 (by decide +kernel)
theorem zw_493 : (.code yX2_clearText cX2_clearText 2 (some .int) : Cond) ∈ zTab := zmem 493 (by decide +kernel)
theorem zw_494 : (.methodLink RL 93 yX2_fault : Cond) ∈ zTab := zmem 494 (by decide +kernel)
theorem zw_495 : (.instanceMethod yX2_fault : Cond) ∈ zTab := zmem 495 (by decide +kernel)
theorem zw_496 : (.selects yX2_fault.cls yX2_fault yX2_fault : Cond) ∈ zTab := zmem 496 (by decide +kernel)
theorem zw_497 : (.code yX2_fault cX2_fault 3 (some .int) : Cond) ∈ zTab := zmem 497 (by decide +kernel)
theorem zw_498 : (.methodLink RX2 184 yX2_tryText : Cond) ∈ zTab := zmem 498 (by decide +kernel)
theorem zw_500 : (.instanceMethod yX2_tryText : Cond) ∈ zTab := zmem 500 (by decide +kernel)
theorem zw_501 : (.code yX2_tryText cX2_tryText 7 (some .int) : Cond) ∈ zTab := zmem 501 (by decide +kernel)
theorem zw_502 : (.methodLink RX2 207 yX2_signsOfForm : Cond) ∈ zTab := zmem 502 (by decide +kernel)
theorem zw_504 : (.instanceMethod yX2_signsOfForm : Cond) ∈ zTab := zmem 504 (by decide +kernel)
theorem zw_505 : (.code yX2_signsOfForm cX2_signsOfForm 3 (some .int) : Cond) ∈ zTab := zmem 505 (by decide +kernel)
theorem zw_506 : (.methodLink RX2 213 yX2_signAt : Cond) ∈ zTab := zmem 506 (by decide +kernel)
theorem zw_508 : (.instanceMethod yX2_signAt : Cond) ∈ zTab := zmem 508 (by decide +kernel)
theorem zw_509 : (.code yX2_signAt cX2_signAt 2 (some .char) : Cond) ∈ zTab := zmem 509 (by decide +kernel)
theorem zw_510 : (.methodLink RX2 210 yX2_cellAt : Cond) ∈ zTab := zmem 510 (by decide +kernel)
theorem zw_512 : (.instanceMethod yX2_cellAt : Cond) ∈ zTab := zmem 512 (by decide +kernel)
theorem zw_513 : (.code yX2_cellAt cX2_cellAt 5 (some .int) : Cond) ∈ zTab := zmem 513 (by decide +kernel)
theorem zw_514 : (.methodLink RL 97 yX2_play : Cond) ∈ zTab := zmem 514 (by decide +kernel)
theorem zw_515 : (.instanceMethod yX2_play : Cond) ∈ zTab := zmem 515 (by decide +kernel)
theorem zw_516 : (.selects yX2_play.cls yX2_play yX2_play : Cond) ∈ zTab := zmem 516 (by decide +kernel)
theorem zw_517 : (.code yX2_play cX2_play 1 (some .int) : Cond) ∈ zTab := zmem 517 (by decide +kernel)
theorem zw_518 : (.methodLink RX2 187 yX2_movesInText : Cond) ∈ zTab := zmem 518 (by decide +kernel)
theorem zw_520 : (.instanceMethod yX2_movesInText : Cond) ∈ zTab := zmem 520 (by decide +kernel)
theorem zw_521 : (.code yX2_movesInText cX2_movesInText 3 (some .int) : Cond) ∈ zTab := zmem 521 (by decide +kernel)
theorem zw_522 : (.classLink RL 10 "ClockworkChessModel" : Cond) ∈ zTab := zmem 522 (by decide +kernel)
theorem zw_523 : (.instantiable RX3 13 : Cond) ∈ zTab := zmem 523 (by decide +kernel)
theorem zw_524 : (.methodLink RL 12 yX3_init : Cond) ∈ zTab := zmem 524 (by decide +kernel)
theorem zw_525 : (.instanceMethod yX3_init : Cond) ∈ zTab := zmem 525 (by decide +kernel)
theorem zw_526 : (.code yX3_init cX3_init 1 none : Cond) ∈ zTab := zmem 526 (by decide +kernel)
theorem zw_527 : (.methodLink RX3 1 objectInit : Cond) ∈ zTab := zmem 527 (by decide +kernel)
theorem zw_528 : (.methodLink RX3 28 yX3_begins : Cond) ∈ zTab := zmem 528 (by decide +kernel)
theorem zw_530 : (.instanceMethod yX3_begins : Cond) ∈ zTab := zmem 530 (by decide +kernel)
theorem zw_531 : (.code yX3_begins cX3_begins 4 none : Cond) ∈ zTab := zmem 531 (by decide +kernel)
theorem zw_532 : (.methodLink RX3 43 yX3_lays : Cond) ∈ zTab := zmem 532 (by decide +kernel)
theorem zw_534 : (.instanceMethod yX3_lays : Cond) ∈ zTab := zmem 534 (by decide +kernel)
theorem zw_535 : (.code yX3_lays cX3_lays 5 none : Cond) ∈ zTab := zmem 535 (by decide +kernel)
theorem zw_536 : (.methodLink RX3 47 yX3_allSprings : Cond) ∈ zTab := zmem 536 (by decide +kernel)
theorem zw_538 : (.instanceMethod yX3_allSprings : Cond) ∈ zTab := zmem 538 (by decide +kernel)
theorem zw_539 : (.code yX3_allSprings cX3_allSprings 1 (some .int) : Cond) ∈ zTab := zmem 539 (by decide +kernel)
theorem zw_540 : (.methodLink RX3 39 yX3_springs : Cond) ∈ zTab := zmem 540 (by decide +kernel)
theorem zw_542 : (.instanceMethod yX3_springs : Cond) ∈ zTab := zmem 542 (by decide +kernel)
theorem zw_543 : (.code yX3_springs cX3_springs 4 (some .int) : Cond) ∈ zTab := zmem 543 (by decide +kernel)
theorem zw_544 : (.fieldLink RX3 7 "ClockworkChessModel" "st" "[I" : Cond) ∈ zTab := zmem 544 (by decide +kernel)
theorem zw_545 : (.fieldLink RX3 13 "ClockworkChessModel" "past" "[I" : Cond) ∈ zTab := zmem 545 (by decide +kernel)
theorem zw_546 : (.fieldLink RX3 16 "ClockworkChessModel" "aside" "[I" : Cond) ∈ zTab := zmem 546 (by decide +kernel)
theorem zw_547 : (.fieldLink RX3 35 "ClockworkChessModel" "pasts" "I" : Cond) ∈ zTab := zmem 547 (by decide +kernel)
theorem zw_548 : (.fieldLink RX3 19 "ClockworkChessModel" "text" "[I" : Cond) ∈ zTab := zmem 548 (by decide +kernel)
theorem zw_549 : (.fieldLink RX3 71 "ClockworkChessModel" "length" "I" : Cond) ∈ zTab := zmem 549 (by decide +kernel)
theorem zw_550 : (.fieldLink RX3 22 "ClockworkChessModel" "most" "[I" : Cond) ∈ zTab := zmem 550 (by decide +kernel)
theorem zw_551 : (.fieldLink RX3 25 "ClockworkChessModel" "then" "[I" : Cond) ∈ zTab := zmem 551 (by decide +kernel)
theorem zw_552 : (.fieldLink RX3 140 "ClockworkChessModel" "spot" "I" : Cond) ∈ zTab := zmem 552 (by decide +kernel)
theorem zw_553 : (.fieldLink RX3 143 "ClockworkChessModel" "itsFrom" "I" : Cond) ∈ zTab := zmem 553 (by decide +kernel)
theorem zw_554 : (.fieldLink RX3 152 "ClockworkChessModel" "itsTo" "I" : Cond) ∈ zTab := zmem 554 (by decide +kernel)
theorem zw_555 : (.fieldLink RX3 158 "ClockworkChessModel" "from" "I" : Cond) ∈ zTab := zmem 555 (by decide +kernel)
theorem zw_556 : (.fieldLink RX3 155 "ClockworkChessModel" "many" "I" : Cond) ∈ zTab := zmem 556 (by decide +kernel)
theorem zw_584 : (.methodLink RL 44 yX3_undo : Cond) ∈ zTab := zmem 584 (by decide +kernel)
theorem zw_585 : (.instanceMethod yX3_undo : Cond) ∈ zTab := zmem 585 (by decide +kernel)
theorem zw_586 : (.selects yX3_undo.cls yX3_undo yX3_undo : Cond) ∈ zTab := zmem 586 (by decide +kernel)
theorem zw_587 : (.code yX3_undo cX3_undo 2 (some .int) : Cond) ∈ zTab := zmem 587 (by decide +kernel)
theorem zw_588 : (.methodLink RL 17 yX3_setUp : Cond) ∈ zTab := zmem 588 (by decide +kernel)
theorem zw_589 : (.instanceMethod yX3_setUp : Cond) ∈ zTab := zmem 589 (by decide +kernel)
theorem zw_590 : (.selects yX3_setUp.cls yX3_setUp yX3_setUp : Cond) ∈ zTab := zmem 590 (by decide +kernel)
theorem zw_591 : (.code yX3_setUp cX3_setUp 1 (some .int) : Cond) ∈ zTab := zmem 591 (by decide +kernel)
theorem zw_592 : (.methodLink RX3 51 yX3_records : Cond) ∈ zTab := zmem 592 (by decide +kernel)
theorem zw_594 : (.instanceMethod yX3_records : Cond) ∈ zTab := zmem 594 (by decide +kernel)
theorem zw_595 : (.code yX3_records cX3_records 2 none : Cond) ∈ zTab := zmem 595 (by decide +kernel)
theorem zw_596 : (.methodLink RL 22 yX3_set : Cond) ∈ zTab := zmem 596 (by decide +kernel)
theorem zw_597 : (.instanceMethod yX3_set : Cond) ∈ zTab := zmem 597 (by decide +kernel)
theorem zw_598 : (.selects yX3_set.cls yX3_set yX3_set : Cond) ∈ zTab := zmem 598 (by decide +kernel)
theorem zw_599 : (.code yX3_set cX3_set 6 (some .int) : Cond) ∈ zTab := zmem 599 (by decide +kernel)
theorem zw_600 : (.methodLink RX3 54 yX3_canBe : Cond) ∈ zTab := zmem 600 (by decide +kernel)
theorem zw_601 : (.static yX3_canBe : Cond) ∈ zTab := zmem 601 (by decide +kernel)
theorem zw_602 : (.code yX3_canBe cX3_canBe 2 (some .boolean) : Cond) ∈ zTab := zmem 602 (by decide +kernel)
theorem zw_603 : (.methodLink RX3 31 yX3_in : Cond) ∈ zTab := zmem 603 (by decide +kernel)
theorem zw_604 : (.static yX3_in : Cond) ∈ zTab := zmem 604 (by decide +kernel)
theorem zw_605 : (.code yX3_in cX3_in 3 (some .boolean) : Cond) ∈ zTab := zmem 605 (by decide +kernel)
theorem zw_606 : (.methodLink RL 27 yX3_put : Cond) ∈ zTab := zmem 606 (by decide +kernel)
theorem zw_607 : (.instanceMethod yX3_put : Cond) ∈ zTab := zmem 607 (by decide +kernel)
theorem zw_608 : (.selects yX3_put.cls yX3_put yX3_put : Cond) ∈ zTab := zmem 608 (by decide +kernel)
theorem zw_609 : (.code yX3_put cX3_put 7 (some .int) : Cond) ∈ zTab := zmem 609 (by decide +kernel)
theorem zw_610 : (.methodLink RX3 58 yX3_isCell : Cond) ∈ zTab := zmem 610 (by decide +kernel)
theorem zw_611 : (.static yX3_isCell : Cond) ∈ zTab := zmem 611 (by decide +kernel)
theorem zw_612 : (.code yX3_isCell cX3_isCell 1 (some .boolean) : Cond) ∈ zTab := zmem 612 (by decide +kernel)
theorem zw_613 : (.methodLink RL 32 yX3_tower : Cond) ∈ zTab := zmem 613 (by decide +kernel)
theorem zw_614 : (.instanceMethod yX3_tower : Cond) ∈ zTab := zmem 614 (by decide +kernel)
theorem zw_615 : (.selects yX3_tower.cls yX3_tower yX3_tower : Cond) ∈ zTab := zmem 615 (by decide +kernel)
theorem zw_616 : (.code yX3_tower cX3_tower 2 (some .int) : Cond) ∈ zTab := zmem 616 (by decide +kernel)
theorem zw_617 : (.methodLink RX3 62 yX3_towers : Cond) ∈ zTab := zmem 617 (by decide +kernel)
theorem zw_619 : (.instanceMethod yX3_towers : Cond) ∈ zTab := zmem 619 (by decide +kernel)
theorem zw_620 : (.code yX3_towers cX3_towers 3 (some .int) : Cond) ∈ zTab := zmem 620 (by decide +kernel)
theorem zw_621 : (.methodLink RL 36 yX3_cell : Cond) ∈ zTab := zmem 621 (by decide +kernel)
theorem zw_622 : (.instanceMethod yX3_cell : Cond) ∈ zTab := zmem 622 (by decide +kernel)
theorem zw_623 : (.selects yX3_cell.cls yX3_cell yX3_cell : Cond) ∈ zTab := zmem 623 (by decide +kernel)
theorem zw_624 : (.code yX3_cell cX3_cell 3 (some .int) : Cond) ∈ zTab := zmem 624 (by decide +kernel)
theorem zw_625 : (.methodLink RX3 65 yX3_movesFrom : Cond) ∈ zTab := zmem 625 (by decide +kernel)
theorem zw_627 : (.instanceMethod yX3_movesFrom : Cond) ∈ zTab := zmem 627 (by decide +kernel)
theorem zw_628 : (.code yX3_movesFrom cX3_movesFrom 4 (some .int) : Cond) ∈ zTab := zmem 628 (by decide +kernel)
theorem zw_629 : (.methodLink RX3 91 yX3_canGo : Cond) ∈ zTab := zmem 629 (by decide +kernel)
theorem zw_631 : (.instanceMethod yX3_canGo : Cond) ∈ zTab := zmem 631 (by decide +kernel)
theorem zw_632 : (.code yX3_canGo cX3_canGo 4 (some .boolean) : Cond) ∈ zTab := zmem 632 (by decide +kernel)
theorem zw_633 : (.methodLink RX3 87 yX3_costOf : Cond) ∈ zTab := zmem 633 (by decide +kernel)
theorem zw_635 : (.instanceMethod yX3_costOf : Cond) ∈ zTab := zmem 635 (by decide +kernel)
theorem zw_636 : (.code yX3_costOf cX3_costOf 3 (some .int) : Cond) ∈ zTab := zmem 636 (by decide +kernel)
theorem zw_637 : (.methodLink RX3 83 yX3_costBy : Cond) ∈ zTab := zmem 637 (by decide +kernel)
theorem zw_639 : (.instanceMethod yX3_costBy : Cond) ∈ zTab := zmem 639 (by decide +kernel)
theorem zw_640 : (.code yX3_costBy cX3_costBy 9 (some .int) : Cond) ∈ zTab := zmem 640 (by decide +kernel)
theorem zw_641 : (.methodLink RX3 77 yX3_size : Cond) ∈ zTab := zmem 641 (by decide +kernel)
theorem zw_642 : (.static yX3_size : Cond) ∈ zTab := zmem 642 (by decide +kernel)
theorem zw_643 : (.code yX3_size cX3_size 1 (some .int) : Cond) ∈ zTab := zmem 643 (by decide +kernel)
theorem zw_644 : (.methodLink RX3 80 yX3_isFree : Cond) ∈ zTab := zmem 644 (by decide +kernel)
theorem zw_646 : (.instanceMethod yX3_isFree : Cond) ∈ zTab := zmem 646 (by decide +kernel)
theorem zw_647 : (.code yX3_isFree cX3_isFree 5 (some .boolean) : Cond) ∈ zTab := zmem 647 (by decide +kernel)
theorem zw_648 : (.methodLink RX3 74 yX3_sign : Cond) ∈ zTab := zmem 648 (by decide +kernel)
theorem zw_649 : (.static yX3_sign : Cond) ∈ zTab := zmem 649 (by decide +kernel)
theorem zw_650 : (.code yX3_sign cX3_sign 1 (some .int) : Cond) ∈ zTab := zmem 650 (by decide +kernel)
theorem zw_651 : (.methodLink RL 40 yX3_count : Cond) ∈ zTab := zmem 651 (by decide +kernel)
theorem zw_652 : (.instanceMethod yX3_count : Cond) ∈ zTab := zmem 652 (by decide +kernel)
theorem zw_653 : (.selects yX3_count.cls yX3_count yX3_count : Cond) ∈ zTab := zmem 653 (by decide +kernel)
theorem zw_654 : (.code yX3_count cX3_count 2 (some .int) : Cond) ∈ zTab := zmem 654 (by decide +kernel)
theorem zw_655 : (.methodLink RX3 68 yX3_pieces : Cond) ∈ zTab := zmem 655 (by decide +kernel)
theorem zw_657 : (.instanceMethod yX3_pieces : Cond) ∈ zTab := zmem 657 (by decide +kernel)
theorem zw_658 : (.code yX3_pieces cX3_pieces 3 (some .int) : Cond) ∈ zTab := zmem 658 (by decide +kernel)
theorem zw_659 : (.methodLink RL 48 yX3_move : Cond) ∈ zTab := zmem 659 (by decide +kernel)
theorem zw_660 : (.instanceMethod yX3_move : Cond) ∈ zTab := zmem 660 (by decide +kernel)
theorem zw_661 : (.selects yX3_move.cls yX3_move yX3_move : Cond) ∈ zTab := zmem 661 (by decide +kernel)
theorem zw_662 : (.code yX3_move cX3_move 4 (some .int) : Cond) ∈ zTab := zmem 662 (by decide +kernel)
theorem zw_663 : (.methodLink RX3 107 yX3_refuses : Cond) ∈ zTab := zmem 663 (by decide +kernel)
theorem zw_665 : (.instanceMethod yX3_refuses : Cond) ∈ zTab := zmem 665 (by decide +kernel)
theorem zw_666 : (.code yX3_refuses cX3_refuses 3 (some .int) : Cond) ∈ zTab := zmem 666 (by decide +kernel)
theorem zw_667 : (.methodLink RX3 110 yX3_makes : Cond) ∈ zTab := zmem 667 (by decide +kernel)
theorem zw_669 : (.instanceMethod yX3_makes : Cond) ∈ zTab := zmem 669 (by decide +kernel)
theorem zw_670 : (.code yX3_makes cX3_makes 3 none : Cond) ∈ zTab := zmem 670 (by decide +kernel)
theorem zw_671 : (.methodLink RX3 97 yX3_goes : Cond) ∈ zTab := zmem 671 (by decide +kernel)
theorem zw_673 : (.instanceMethod yX3_goes : Cond) ∈ zTab := zmem 673 (by decide +kernel)
theorem zw_674 : (.code yX3_goes cX3_goes 10 none : Cond) ∈ zTab := zmem 674 (by decide +kernel)
theorem zw_675 : (.methodLink RX3 94 yX3_lesser : Cond) ∈ zTab := zmem 675 (by decide +kernel)
theorem zw_676 : (.static yX3_lesser : Cond) ∈ zTab := zmem 676 (by decide +kernel)
theorem zw_677 : (.code yX3_lesser cX3_lesser 2 (some .int) : Cond) ∈ zTab := zmem 677 (by decide +kernel)
theorem zw_678 : (.methodLink RX3 101 yX3_turns : Cond) ∈ zTab := zmem 678 (by decide +kernel)
theorem zw_680 : (.instanceMethod yX3_turns : Cond) ∈ zTab := zmem 680 (by decide +kernel)
theorem zw_681 : (.code yX3_turns cX3_turns 3 none : Cond) ∈ zTab := zmem 681 (by decide +kernel)
theorem zw_682 : (.methodLink RL 52 yX3_pass : Cond) ∈ zTab := zmem 682 (by decide +kernel)
theorem zw_683 : (.instanceMethod yX3_pass : Cond) ∈ zTab := zmem 683 (by decide +kernel)
theorem zw_684 : (.selects yX3_pass.cls yX3_pass yX3_pass : Cond) ∈ zTab := zmem 684 (by decide +kernel)
theorem zw_685 : (.code yX3_pass cX3_pass 1 (some .int) : Cond) ∈ zTab := zmem 685 (by decide +kernel)
theorem zw_686 : (.methodLink RX3 113 yX3_refusesPass : Cond) ∈ zTab := zmem 686 (by decide +kernel)
theorem zw_688 : (.instanceMethod yX3_refusesPass : Cond) ∈ zTab := zmem 688 (by decide +kernel)
theorem zw_689 : (.code yX3_refusesPass cX3_refusesPass 1 (some .int) : Cond) ∈ zTab := zmem 689 (by decide +kernel)
theorem zw_690 : (.methodLink RX3 104 yX3_movesOf : Cond) ∈ zTab := zmem 690 (by decide +kernel)
theorem zw_692 : (.instanceMethod yX3_movesOf : Cond) ∈ zTab := zmem 692 (by decide +kernel)
theorem zw_693 : (.code yX3_movesOf cX3_movesOf 4 (some .int) : Cond) ∈ zTab := zmem 693 (by decide +kernel)
theorem zw_694 : (.methodLink RX3 116 yX3_passes : Cond) ∈ zTab := zmem 694 (by decide +kernel)
theorem zw_696 : (.instanceMethod yX3_passes : Cond) ∈ zTab := zmem 696 (by decide +kernel)
theorem zw_697 : (.code yX3_passes cX3_passes 2 none : Cond) ∈ zTab := zmem 697 (by decide +kernel)
theorem zw_698 : (.methodLink RL 56 yX3_refusal : Cond) ∈ zTab := zmem 698 (by decide +kernel)
theorem zw_699 : (.instanceMethod yX3_refusal : Cond) ∈ zTab := zmem 699 (by decide +kernel)
theorem zw_700 : (.selects yX3_refusal.cls yX3_refusal yX3_refusal : Cond) ∈ zTab := zmem 700 (by decide +kernel)
theorem zw_701 : (.code yX3_refusal cX3_refusal 3 (some .int) : Cond) ∈ zTab := zmem 701 (by decide +kernel)
theorem zw_702 : (.methodLink RL 60 yX3_cost : Cond) ∈ zTab := zmem 702 (by decide +kernel)
theorem zw_703 : (.instanceMethod yX3_cost : Cond) ∈ zTab := zmem 703 (by decide +kernel)
theorem zw_704 : (.selects yX3_cost.cls yX3_cost yX3_cost : Cond) ∈ zTab := zmem 704 (by decide +kernel)
theorem zw_705 : (.code yX3_cost cX3_cost 4 (some .int) : Cond) ∈ zTab := zmem 705 (by decide +kernel)
theorem zw_706 : (.methodLink RL 64 yX3_moves : Cond) ∈ zTab := zmem 706 (by decide +kernel)
theorem zw_707 : (.instanceMethod yX3_moves : Cond) ∈ zTab := zmem 707 (by decide +kernel)
theorem zw_708 : (.selects yX3_moves.cls yX3_moves yX3_moves : Cond) ∈ zTab := zmem 708 (by decide +kernel)
theorem zw_709 : (.code yX3_moves cX3_moves 2 (some .int) : Cond) ∈ zTab := zmem 709 (by decide +kernel)
theorem zw_710 : (.methodLink RX3 119 yX3_isSide : Cond) ∈ zTab := zmem 710 (by decide +kernel)
theorem zw_711 : (.static yX3_isSide : Cond) ∈ zTab := zmem 711 (by decide +kernel)
theorem zw_712 : (.code yX3_isSide cX3_isSide 1 (some .boolean) : Cond) ∈ zTab := zmem 712 (by decide +kernel)
theorem zw_713 : (.methodLink RL 68 yX3_listed : Cond) ∈ zTab := zmem 713 (by decide +kernel)
theorem zw_714 : (.instanceMethod yX3_listed : Cond) ∈ zTab := zmem 714 (by decide +kernel)
theorem zw_715 : (.selects yX3_listed.cls yX3_listed yX3_listed : Cond) ∈ zTab := zmem 715 (by decide +kernel)
theorem zw_716 : (.code yX3_listed cX3_listed 4 (some .int) : Cond) ∈ zTab := zmem 716 (by decide +kernel)
theorem zw_717 : (.methodLink RX3 122 yX3_moveAt : Cond) ∈ zTab := zmem 717 (by decide +kernel)
theorem zw_719 : (.instanceMethod yX3_moveAt : Cond) ∈ zTab := zmem 719 (by decide +kernel)
theorem zw_720 : (.code yX3_moveAt cX3_moveAt 5 (some .int) : Cond) ∈ zTab := zmem 720 (by decide +kernel)
theorem zw_721 : (.methodLink RL 72 yX3_struck : Cond) ∈ zTab := zmem 721 (by decide +kernel)
theorem zw_722 : (.instanceMethod yX3_struck : Cond) ∈ zTab := zmem 722 (by decide +kernel)
theorem zw_723 : (.selects yX3_struck.cls yX3_struck yX3_struck : Cond) ∈ zTab := zmem 723 (by decide +kernel)
theorem zw_724 : (.code yX3_struck cX3_struck 5 (some .int) : Cond) ∈ zTab := zmem 724 (by decide +kernel)
theorem zw_725 : (.methodLink RX3 125 yX3_laysAside : Cond) ∈ zTab := zmem 725 (by decide +kernel)
theorem zw_727 : (.instanceMethod yX3_laysAside : Cond) ∈ zTab := zmem 727 (by decide +kernel)
theorem zw_728 : (.code yX3_laysAside cX3_laysAside 2 none : Cond) ∈ zTab := zmem 728 (by decide +kernel)
theorem zw_729 : (.methodLink RX3 128 yX3_bringsBack : Cond) ∈ zTab := zmem 729 (by decide +kernel)
theorem zw_731 : (.instanceMethod yX3_bringsBack : Cond) ∈ zTab := zmem 731 (by decide +kernel)
theorem zw_732 : (.code yX3_bringsBack cX3_bringsBack 2 none : Cond) ∈ zTab := zmem 732 (by decide +kernel)
theorem zw_733 : (.methodLink RL 76 yX3_reach : Cond) ∈ zTab := zmem 733 (by decide +kernel)
theorem zw_734 : (.instanceMethod yX3_reach : Cond) ∈ zTab := zmem 734 (by decide +kernel)
theorem zw_735 : (.selects yX3_reach.cls yX3_reach yX3_reach : Cond) ∈ zTab := zmem 735 (by decide +kernel)
theorem zw_736 : (.code yX3_reach cX3_reach 7 (some .int) : Cond) ∈ zTab := zmem 736 (by decide +kernel)
theorem zw_737 : (.methodLink RX3 131 yX3_goesOn : Cond) ∈ zTab := zmem 737 (by decide +kernel)
theorem zw_739 : (.instanceMethod yX3_goesOn : Cond) ∈ zTab := zmem 739 (by decide +kernel)
theorem zw_740 : (.code yX3_goesOn cX3_goesOn 7 none : Cond) ∈ zTab := zmem 740 (by decide +kernel)
theorem zw_741 : (.methodLink RL 80 yX3_replies : Cond) ∈ zTab := zmem 741 (by decide +kernel)
theorem zw_742 : (.instanceMethod yX3_replies : Cond) ∈ zTab := zmem 742 (by decide +kernel)
theorem zw_743 : (.selects yX3_replies.cls yX3_replies yX3_replies : Cond) ∈ zTab := zmem 743 (by decide +kernel)
theorem zw_744 : (.code yX3_replies cX3_replies 4 (some .int) : Cond) ∈ zTab := zmem 744 (by decide +kernel)
theorem zw_745 : (.methodLink RX3 134 yX3_repliesTo : Cond) ∈ zTab := zmem 745 (by decide +kernel)
theorem zw_747 : (.instanceMethod yX3_repliesTo : Cond) ∈ zTab := zmem 747 (by decide +kernel)
theorem zw_748 : (.code yX3_repliesTo cX3_repliesTo 3 (some .int) : Cond) ∈ zTab := zmem 748 (by decide +kernel)
theorem zw_749 : (.methodLink RL 84 yX3_best : Cond) ∈ zTab := zmem 749 (by decide +kernel)
theorem zw_750 : (.instanceMethod yX3_best : Cond) ∈ zTab := zmem 750 (by decide +kernel)
theorem zw_751 : (.selects yX3_best.cls yX3_best yX3_best : Cond) ∈ zTab := zmem 751 (by decide +kernel)
theorem zw_752 : (.code yX3_best cX3_best 9 (some .int) : Cond) ∈ zTab := zmem 752 (by decide +kernel)
theorem zw_753 : (.methodLink RX3 137 yX3_goodFor : Cond) ∈ zTab := zmem 753 (by decide +kernel)
theorem zw_755 : (.instanceMethod yX3_goodFor : Cond) ∈ zTab := zmem 755 (by decide +kernel)
theorem zw_756 : (.code yX3_goodFor cX3_goodFor 2 (some .int) : Cond) ∈ zTab := zmem 756 (by decide +kernel)
theorem zw_757 : (.methodLink RL 88 yX3_type : Cond) ∈ zTab := zmem 757 (by decide +kernel)
theorem zw_758 : (.instanceMethod yX3_type : Cond) ∈ zTab := zmem 758 (by decide +kernel)
theorem zw_759 : (.selects yX3_type.cls yX3_type yX3_type : Cond) ∈ zTab := zmem 759 (by decide +kernel)
theorem zw_760 : (.code yX3_type cX3_type 2 (some .int) : Cond) ∈ zTab := zmem 760 (by decide +kernel)
theorem zw_761 : (.methodLink RL 92 yX3_clearText : Cond) ∈ zTab := zmem 761 (by decide +kernel)
theorem zw_762 : (.instanceMethod yX3_clearText : Cond) ∈ zTab := zmem 762 (by decide +kernel)
theorem zw_763 : (.selects yX3_clearText.cls yX3_clearText yX3_clearText : Cond) ∈ zTab := zmem 763 (by decide +kernel)
theorem zw_764 : (.code yX3_clearText cX3_clearText 2 (some .int) : Cond) ∈ zTab := zmem 764 (by decide +kernel)
theorem zw_765 : (.methodLink RL 96 yX3_fault : Cond) ∈ zTab := zmem 765 (by decide +kernel)
theorem zw_766 : (.instanceMethod yX3_fault : Cond) ∈ zTab := zmem 766 (by decide +kernel)
theorem zw_767 : (.selects yX3_fault.cls yX3_fault yX3_fault : Cond) ∈ zTab := zmem 767 (by decide +kernel)
theorem zw_768 : (.code yX3_fault cX3_fault 3 (some .int) : Cond) ∈ zTab := zmem 768 (by decide +kernel)
theorem zw_769 : (.methodLink RX3 168 yX3_reasonOfText : Cond) ∈ zTab := zmem 769 (by decide +kernel)
theorem zw_771 : (.instanceMethod yX3_reasonOfText : Cond) ∈ zTab := zmem 771 (by decide +kernel)
theorem zw_772 : (.code yX3_reasonOfText cX3_reasonOfText 2 (some .int) : Cond) ∈ zTab := zmem 772 (by decide +kernel)
theorem zw_773 : (.methodLink RX3 161 yX3_isFormed : Cond) ∈ zTab := zmem 773 (by decide +kernel)
theorem zw_775 : (.instanceMethod yX3_isFormed : Cond) ∈ zTab := zmem 775 (by decide +kernel)
theorem zw_776 : (.code yX3_isFormed cX3_isFormed 1 (some .boolean) : Cond) ∈ zTab := zmem 776 (by decide +kernel)
theorem zw_777 : (.methodLink RX3 146 yX3_takes : Cond) ∈ zTab := zmem 777 (by decide +kernel)
theorem zw_779 : (.instanceMethod yX3_takes : Cond) ∈ zTab := zmem 779 (by decide +kernel)
theorem zw_780 : (.code yX3_takes cX3_takes 3 (some .boolean) : Cond) ∈ zTab := zmem 780 (by decide +kernel)
theorem zw_781 : (.methodLink RX3 149 yX3_takesCell : Cond) ∈ zTab := zmem 781 (by decide +kernel)
theorem zw_783 : (.instanceMethod yX3_takesCell : Cond) ∈ zTab := zmem 783 (by decide +kernel)
theorem zw_784 : (.code yX3_takesCell cX3_takesCell 2 (some .int) : Cond) ∈ zTab := zmem 784 (by decide +kernel)
theorem zw_785 : (.methodLink RX3 165 yX3_does : Cond) ∈ zTab := zmem 785 (by decide +kernel)
theorem zw_787 : (.instanceMethod yX3_does : Cond) ∈ zTab := zmem 787 (by decide +kernel)
theorem zw_788 : (.code yX3_does cX3_does 2 (some .int) : Cond) ∈ zTab := zmem 788 (by decide +kernel)
theorem zw_789 : (.methodLink RL 100 yX3_play : Cond) ∈ zTab := zmem 789 (by decide +kernel)
theorem zw_790 : (.instanceMethod yX3_play : Cond) ∈ zTab := zmem 790 (by decide +kernel)
theorem zw_791 : (.selects yX3_play.cls yX3_play yX3_play : Cond) ∈ zTab := zmem 791 (by decide +kernel)
theorem zw_792 : (.code yX3_play cX3_play 3 (some .int) : Cond) ∈ zTab := zmem 792 (by decide +kernel)
theorem zy_X1_begin : zY yX1_begin cX1_begin 1 none 0 := ⟨zw_173, zw_0, zw_78, zw_174, by decide +kernel⟩
theorem zy_X0_arrange : zY yX0_arrange cX0_arrange 3 none 1 := ⟨zw_177, zw_1, zw_79, zw_178, by decide +kernel⟩
theorem zy_X0_empty : zY yX0_empty cX0_empty 2 none 1 := ⟨zw_181, zw_2, zw_79, zw_182, by decide +kernel⟩
theorem zy_X0_place : zY yX0_place cX0_place 5 none 4 := ⟨zw_185, zw_3, zw_79, zw_186, by decide +kernel⟩
theorem zy_X2_isCell : zYS yX2_isCell cX2_isCell 1 (some .boolean) 1 := ⟨zw_188, zw_77, zw_189, by decide +kernel⟩
theorem zy_X0_markTower : zY yX0_markTower cX0_markTower 3 none 2 := ⟨zw_192, zw_4, zw_79, zw_193, by decide +kernel⟩
theorem zy_X0_springsInAll : zY yX0_springsInAll cX0_springsInAll 1 (some .int) 0 := ⟨zw_200, zw_5, zw_79, zw_201, by decide +kernel⟩
theorem zy_X0_springsOf : zY yX0_springsOf cX0_springsOf 4 (some .int) 1 := ⟨zw_204, zw_6, zw_79, zw_205, by decide +kernel⟩
theorem zy_X2_setUp : zY yX2_setUp cX2_setUp 1 (some .int) 0 := ⟨zw_233, zw_234, zw_77, zw_235, by decide +kernel⟩
theorem zy_X2_record : zY yX2_record cX2_record 3 none 0 := ⟨zw_238, zw_7, zw_77, zw_239, by decide +kernel⟩
theorem zy_X1_copyFrom : zY yX1_copyFrom cX1_copyFrom 2 none 1 := ⟨zw_242, zw_8, zw_78, zw_243, by decide +kernel⟩
theorem zy_X0_copyFrom : zY yX0_copyFrom cX0_copyFrom 2 none 1 := ⟨zw_246, zw_9, zw_79, zw_247, by decide +kernel⟩
theorem zy_X2_set : zY yX2_set cX2_set 4 (some .int) 2 := ⟨zw_253, zw_254, zw_77, zw_255, by decide +kernel⟩
theorem zy_X2_isSetting : zYS yX2_isSetting cX2_isSetting 2 (some .boolean) 2 := ⟨zw_257, zw_77, zw_258, by decide +kernel⟩
theorem zy_X1_setting : zY yX1_setting cX1_setting 2 (some .int) 1 := ⟨zw_261, zw_10, zw_78, zw_262, by decide +kernel⟩
theorem zy_X1_changeSetting : zY yX1_changeSetting cX1_changeSetting 3 none 2 := ⟨zw_265, zw_11, zw_78, zw_266, by decide +kernel⟩
theorem zy_X1_cutSprings : zY yX1_cutSprings cX1_cutSprings 3 none 0 := ⟨zw_269, zw_12, zw_78, zw_270, by decide +kernel⟩
theorem zy_X0_springOn : zY yX0_springOn cX0_springOn 2 (some .int) 1 := ⟨zw_273, zw_13, zw_79, zw_274, by decide +kernel⟩
theorem zy_X0_changeSpring : zY yX0_changeSpring cX0_changeSpring 3 none 2 := ⟨zw_277, zw_14, zw_79, zw_278, by decide +kernel⟩
theorem zy_X2_put : zY yX2_put cX2_put 9 (some .int) 4 := ⟨zw_280, zw_281, zw_77, zw_282, by decide +kernel⟩
theorem zy_X2_isSide : zYS yX2_isSide cX2_isSide 1 (some .boolean) 1 := ⟨zw_284, zw_77, zw_285, by decide +kernel⟩
theorem zy_X1_isOver : zY yX1_isOver cX1_isOver 1 (some .boolean) 0 := ⟨zw_289, zw_15, zw_78, zw_290, by decide +kernel⟩
theorem zy_X0_hasPiece : zY yX0_hasPiece cX0_hasPiece 2 (some .boolean) 1 := ⟨zw_293, zw_16, zw_79, zw_294, by decide +kernel⟩
theorem zy_X0_sideOn : zY yX0_sideOn cX0_sideOn 2 (some .int) 1 := ⟨zw_297, zw_17, zw_79, zw_298, by decide +kernel⟩
theorem zy_X1_putInstead : zY yX1_putInstead cX1_putInstead 5 none 4 := ⟨zw_301, zw_18, zw_78, zw_302, by decide +kernel⟩
theorem zy_X2_tower : zY yX2_tower cX2_tower 2 (some .int) 1 := ⟨zw_306, zw_307, zw_77, zw_308, by decide +kernel⟩
theorem zy_X0_isTower : zY yX0_isTower cX0_isTower 2 (some .boolean) 1 := ⟨zw_311, zw_19, zw_79, zw_312, by decide +kernel⟩
theorem zy_X0_towersInAll : zY yX0_towersInAll cX0_towersInAll 3 (some .int) 0 := ⟨zw_315, zw_20, zw_79, zw_316, by decide +kernel⟩
theorem zy_X2_cell : zY yX2_cell cX2_cell 4 (some .int) 2 := ⟨zw_319, zw_320, zw_77, zw_321, by decide +kernel⟩
theorem zy_X0_kindOn : zY yX0_kindOn cX0_kindOn 2 (some .int) 1 := ⟨zw_325, zw_21, zw_79, zw_326, by decide +kernel⟩
theorem zy_X0_movesFrom : zY yX0_movesFrom cX0_movesFrom 4 (some .int) 1 := ⟨zw_330, zw_22, zw_79, zw_331, by decide +kernel⟩
theorem zy_X0_canMove : zY yX0_canMove cX0_canMove 4 (some .boolean) 2 := ⟨zw_334, zw_23, zw_79, zw_335, by decide +kernel⟩
theorem zy_X0_price : zY yX0_price cX0_price 10 (some .int) 2 := ⟨zw_338, zw_24, zw_79, zw_339, by decide +kernel⟩
theorem zy_X0_priceAlong : zY yX0_priceAlong cX0_priceAlong 8 (some .int) 3 := ⟨zw_349, zw_25, zw_79, zw_350, by decide +kernel⟩
theorem zy_J6_compare_7cf53 : zYS yJ6_compare_7cf53 cJ6_compare_7cf53 2 (some .int) 2 := ⟨zw_352, zw_83, zw_353, by decide +kernel⟩
theorem zy_X2_count : zY yX2_count cX2_count 2 (some .int) 1 := ⟨zw_356, zw_357, zw_77, zw_358, by decide +kernel⟩
theorem zy_X0_piecesInAll : zY yX0_piecesInAll cX0_piecesInAll 3 (some .int) 0 := ⟨zw_361, zw_26, zw_79, zw_362, by decide +kernel⟩
theorem zy_X2_isAccount : zYS yX2_isAccount cX2_isAccount 1 (some .boolean) 1 := ⟨zw_365, zw_77, zw_366, by decide +kernel⟩
theorem zy_X1_account : zY yX1_account cX1_account 2 (some .int) 1 := ⟨zw_369, zw_27, zw_78, zw_370, by decide +kernel⟩
theorem zy_X2_undo : zY yX2_undo cX2_undo 1 (some .int) 0 := ⟨zw_372, zw_373, zw_77, zw_374, by decide +kernel⟩
theorem zy_X2_move : zY yX2_move cX2_move 3 (some .int) 2 := ⟨zw_376, zw_377, zw_77, zw_378, by decide +kernel⟩
theorem zy_X1_reasonAgainst : zY yX1_reasonAgainst cX1_reasonAgainst 4 (some .int) 2 := ⟨zw_381, zw_28, zw_78, zw_382, by decide +kernel⟩
theorem zy_X1_makeMove : zY yX1_makeMove cX1_makeMove 4 (some .int) 2 := ⟨zw_389, zw_29, zw_78, zw_390, by decide +kernel⟩
theorem zy_X1_carryOut : zY yX1_carryOut cX1_carryOut 8 (some .int) 2 := ⟨zw_393, zw_30, zw_78, zw_394, by decide +kernel⟩
theorem zy_X1_springBehindTaking : zY yX1_springBehindTaking cX1_springBehindTaking 6 (some .int) 2 := ⟨zw_398, zw_31, zw_78, zw_399, by decide +kernel⟩
theorem zy_X1_beginTurn : zY yX1_beginTurn cX1_beginTurn 4 none 1 := ⟨zw_405, zw_32, zw_78, zw_406, by decide +kernel⟩
theorem zy_X2_pass : zY yX2_pass cX2_pass 1 (some .int) 0 := ⟨zw_409, zw_410, zw_77, zw_411, by decide +kernel⟩
theorem zy_X1_reasonAgainstPass : zY yX1_reasonAgainstPass cX1_reasonAgainstPass 1 (some .int) 0 := ⟨zw_414, zw_33, zw_78, zw_415, by decide +kernel⟩
theorem zy_X0_movesOf : zY yX0_movesOf cX0_movesOf 5 (some .int) 1 := ⟨zw_418, zw_34, zw_79, zw_419, by decide +kernel⟩
theorem zy_X1_makePass : zY yX1_makePass cX1_makePass 2 none 0 := ⟨zw_422, zw_35, zw_78, zw_423, by decide +kernel⟩
theorem zy_X2_refusal : zY yX2_refusal cX2_refusal 3 (some .int) 2 := ⟨zw_426, zw_427, zw_77, zw_428, by decide +kernel⟩
theorem zy_X2_cost : zY yX2_cost cX2_cost 4 (some .int) 2 := ⟨zw_430, zw_431, zw_77, zw_432, by decide +kernel⟩
theorem zy_X2_moves : zY yX2_moves cX2_moves 2 (some .int) 1 := ⟨zw_435, zw_436, zw_77, zw_437, by decide +kernel⟩
theorem zy_X2_listed : zY yX2_listed cX2_listed 7 (some .int) 2 := ⟨zw_440, zw_441, zw_77, zw_442, by decide +kernel⟩
theorem zy_X2_struck : zY yX2_struck cX2_struck 6 (some .int) 2 := ⟨zw_445, zw_446, zw_77, zw_447, by decide +kernel⟩
theorem zy_X2_reach : zY yX2_reach cX2_reach 6 (some .int) 2 := ⟨zw_451, zw_452, zw_77, zw_453, by decide +kernel⟩
theorem zy_X2_makeReachWider : zY yX2_makeReachWider cX2_makeReachWider 5 none 2 := ⟨zw_457, zw_36, zw_77, zw_458, by decide +kernel⟩
theorem zy_X2_leaveFrom : zY yX2_leaveFrom cX2_leaveFrom 5 none 1 := ⟨zw_462, zw_37, zw_77, zw_463, by decide +kernel⟩
theorem zy_X2_cellsReached : zY yX2_cellsReached cX2_cellsReached 3 (some .int) 0 := ⟨zw_467, zw_38, zw_77, zw_468, by decide +kernel⟩
theorem zy_X2_replies : zY yX2_replies cX2_replies 4 (some .int) 0 := ⟨zw_470, zw_471, zw_77, zw_472, by decide +kernel⟩
theorem zy_X2_gamesBehind : zY yX2_gamesBehind cX2_gamesBehind 3 (some .int) 2 := ⟨zw_475, zw_39, zw_77, zw_476, by decide +kernel⟩
theorem zy_X2_best : zY yX2_best cX2_best 6 (some .int) 0 := ⟨zw_478, zw_479, zw_77, zw_480, by decide +kernel⟩
theorem zy_X2_worthOf : zY yX2_worthOf cX2_worthOf 5 (some .int) 2 := ⟨zw_483, zw_40, zw_77, zw_484, by decide +kernel⟩
theorem zy_X2_type : zY yX2_type cX2_type 2 (some .int) 1 := ⟨zw_487, zw_488, zw_77, zw_489, by decide +kernel⟩
theorem zy_X2_clearText : zY yX2_clearText cX2_clearText 2 (some .int) 0 := ⟨zw_491, zw_492, zw_77, zw_493, by decide +kernel⟩
theorem zy_X2_fault : zY yX2_fault cX2_fault 3 (some .int) 1 := ⟨zw_495, zw_496, zw_77, zw_497, by decide +kernel⟩
theorem zy_X2_tryText : zY yX2_tryText cX2_tryText 7 (some .int) 0 := ⟨zw_500, zw_41, zw_77, zw_501, by decide +kernel⟩
theorem zy_X2_signsOfForm : zY yX2_signsOfForm cX2_signsOfForm 3 (some .int) 1 := ⟨zw_504, zw_42, zw_77, zw_505, by decide +kernel⟩
theorem zy_X2_signAt : zY yX2_signAt cX2_signAt 2 (some .char) 1 := ⟨zw_508, zw_43, zw_77, zw_509, by decide +kernel⟩
theorem zy_X2_cellAt : zY yX2_cellAt cX2_cellAt 5 (some .int) 1 := ⟨zw_512, zw_44, zw_77, zw_513, by decide +kernel⟩
theorem zy_X2_play : zY yX2_play cX2_play 1 (some .int) 0 := ⟨zw_515, zw_516, zw_77, zw_517, by decide +kernel⟩
theorem zy_X2_movesInText : zY yX2_movesInText cX2_movesInText 3 (some .int) 0 := ⟨zw_520, zw_45, zw_77, zw_521, by decide +kernel⟩
theorem zy_X3_begins : zY yX3_begins cX3_begins 4 none 0 := ⟨zw_530, zw_46, zw_80, zw_531, by decide +kernel⟩
theorem zy_X3_lays : zY yX3_lays cX3_lays 5 none 4 := ⟨zw_534, zw_47, zw_80, zw_535, by decide +kernel⟩
theorem zy_X3_allSprings : zY yX3_allSprings cX3_allSprings 1 (some .int) 0 := ⟨zw_538, zw_48, zw_80, zw_539, by decide +kernel⟩
theorem zy_X3_springs : zY yX3_springs cX3_springs 4 (some .int) 1 := ⟨zw_542, zw_49, zw_80, zw_543, by decide +kernel⟩
theorem zy_X3_undo : zY yX3_undo cX3_undo 2 (some .int) 0 := ⟨zw_585, zw_586, zw_80, zw_587, by decide +kernel⟩
theorem zy_X3_setUp : zY yX3_setUp cX3_setUp 1 (some .int) 0 := ⟨zw_589, zw_590, zw_80, zw_591, by decide +kernel⟩
theorem zy_X3_records : zY yX3_records cX3_records 2 none 0 := ⟨zw_594, zw_50, zw_80, zw_595, by decide +kernel⟩
theorem zy_X3_set : zY yX3_set cX3_set 6 (some .int) 2 := ⟨zw_597, zw_598, zw_80, zw_599, by decide +kernel⟩
theorem zy_X3_canBe : zYS yX3_canBe cX3_canBe 2 (some .boolean) 2 := ⟨zw_601, zw_80, zw_602, by decide +kernel⟩
theorem zy_X3_in : zYS yX3_in cX3_in 3 (some .boolean) 3 := ⟨zw_604, zw_80, zw_605, by decide +kernel⟩
theorem zy_X3_put : zY yX3_put cX3_put 7 (some .int) 4 := ⟨zw_607, zw_608, zw_80, zw_609, by decide +kernel⟩
theorem zy_X3_isCell : zYS yX3_isCell cX3_isCell 1 (some .boolean) 1 := ⟨zw_611, zw_80, zw_612, by decide +kernel⟩
theorem zy_X3_tower : zY yX3_tower cX3_tower 2 (some .int) 1 := ⟨zw_614, zw_615, zw_80, zw_616, by decide +kernel⟩
theorem zy_X3_towers : zY yX3_towers cX3_towers 3 (some .int) 0 := ⟨zw_619, zw_51, zw_80, zw_620, by decide +kernel⟩
theorem zy_X3_cell : zY yX3_cell cX3_cell 3 (some .int) 2 := ⟨zw_622, zw_623, zw_80, zw_624, by decide +kernel⟩
theorem zy_X3_movesFrom : zY yX3_movesFrom cX3_movesFrom 4 (some .int) 1 := ⟨zw_627, zw_52, zw_80, zw_628, by decide +kernel⟩
theorem zy_X3_canGo : zY yX3_canGo cX3_canGo 4 (some .boolean) 2 := ⟨zw_631, zw_53, zw_80, zw_632, by decide +kernel⟩
theorem zy_X3_costOf : zY yX3_costOf cX3_costOf 3 (some .int) 2 := ⟨zw_635, zw_54, zw_80, zw_636, by decide +kernel⟩
theorem zy_X3_costBy : zY yX3_costBy cX3_costBy 9 (some .int) 4 := ⟨zw_639, zw_55, zw_80, zw_640, by decide +kernel⟩
theorem zy_X3_size : zYS yX3_size cX3_size 1 (some .int) 1 := ⟨zw_642, zw_80, zw_643, by decide +kernel⟩
theorem zy_X3_isFree : zY yX3_isFree cX3_isFree 5 (some .boolean) 2 := ⟨zw_646, zw_56, zw_80, zw_647, by decide +kernel⟩
theorem zy_X3_sign : zYS yX3_sign cX3_sign 1 (some .int) 1 := ⟨zw_649, zw_80, zw_650, by decide +kernel⟩
theorem zy_X3_count : zY yX3_count cX3_count 2 (some .int) 1 := ⟨zw_652, zw_653, zw_80, zw_654, by decide +kernel⟩
theorem zy_X3_pieces : zY yX3_pieces cX3_pieces 3 (some .int) 0 := ⟨zw_657, zw_57, zw_80, zw_658, by decide +kernel⟩
theorem zy_X3_move : zY yX3_move cX3_move 4 (some .int) 2 := ⟨zw_660, zw_661, zw_80, zw_662, by decide +kernel⟩
theorem zy_X3_refuses : zY yX3_refuses cX3_refuses 3 (some .int) 2 := ⟨zw_665, zw_58, zw_80, zw_666, by decide +kernel⟩
theorem zy_X3_makes : zY yX3_makes cX3_makes 3 none 2 := ⟨zw_669, zw_59, zw_80, zw_670, by decide +kernel⟩
theorem zy_X3_goes : zY yX3_goes cX3_goes 10 none 2 := ⟨zw_673, zw_60, zw_80, zw_674, by decide +kernel⟩
theorem zy_X3_lesser : zYS yX3_lesser cX3_lesser 2 (some .int) 2 := ⟨zw_676, zw_80, zw_677, by decide +kernel⟩
theorem zy_X3_turns : zY yX3_turns cX3_turns 3 none 0 := ⟨zw_680, zw_61, zw_80, zw_681, by decide +kernel⟩
theorem zy_X3_pass : zY yX3_pass cX3_pass 1 (some .int) 0 := ⟨zw_683, zw_684, zw_80, zw_685, by decide +kernel⟩
theorem zy_X3_refusesPass : zY yX3_refusesPass cX3_refusesPass 1 (some .int) 0 := ⟨zw_688, zw_62, zw_80, zw_689, by decide +kernel⟩
theorem zy_X3_movesOf : zY yX3_movesOf cX3_movesOf 4 (some .int) 1 := ⟨zw_692, zw_63, zw_80, zw_693, by decide +kernel⟩
theorem zy_X3_passes : zY yX3_passes cX3_passes 2 none 0 := ⟨zw_696, zw_64, zw_80, zw_697, by decide +kernel⟩
theorem zy_X3_refusal : zY yX3_refusal cX3_refusal 3 (some .int) 2 := ⟨zw_699, zw_700, zw_80, zw_701, by decide +kernel⟩
theorem zy_X3_cost : zY yX3_cost cX3_cost 4 (some .int) 2 := ⟨zw_703, zw_704, zw_80, zw_705, by decide +kernel⟩
theorem zy_X3_moves : zY yX3_moves cX3_moves 2 (some .int) 1 := ⟨zw_707, zw_708, zw_80, zw_709, by decide +kernel⟩
theorem zy_X3_isSide : zYS yX3_isSide cX3_isSide 1 (some .boolean) 1 := ⟨zw_711, zw_80, zw_712, by decide +kernel⟩
theorem zy_X3_listed : zY yX3_listed cX3_listed 4 (some .int) 2 := ⟨zw_714, zw_715, zw_80, zw_716, by decide +kernel⟩
theorem zy_X3_moveAt : zY yX3_moveAt cX3_moveAt 5 (some .int) 2 := ⟨zw_719, zw_65, zw_80, zw_720, by decide +kernel⟩
theorem zy_X3_struck : zY yX3_struck cX3_struck 5 (some .int) 2 := ⟨zw_722, zw_723, zw_80, zw_724, by decide +kernel⟩
theorem zy_X3_laysAside : zY yX3_laysAside cX3_laysAside 2 none 0 := ⟨zw_727, zw_66, zw_80, zw_728, by decide +kernel⟩
theorem zy_X3_bringsBack : zY yX3_bringsBack cX3_bringsBack 2 none 0 := ⟨zw_731, zw_67, zw_80, zw_732, by decide +kernel⟩
theorem zy_X3_reach : zY yX3_reach cX3_reach 7 (some .int) 2 := ⟨zw_734, zw_735, zw_80, zw_736, by decide +kernel⟩
theorem zy_X3_goesOn : zY yX3_goesOn cX3_goesOn 7 none 2 := ⟨zw_739, zw_68, zw_80, zw_740, by decide +kernel⟩
theorem zy_X3_replies : zY yX3_replies cX3_replies 4 (some .int) 0 := ⟨zw_742, zw_743, zw_80, zw_744, by decide +kernel⟩
theorem zy_X3_repliesTo : zY yX3_repliesTo cX3_repliesTo 3 (some .int) 1 := ⟨zw_747, zw_69, zw_80, zw_748, by decide +kernel⟩
theorem zy_X3_best : zY yX3_best cX3_best 9 (some .int) 0 := ⟨zw_750, zw_751, zw_80, zw_752, by decide +kernel⟩
theorem zy_X3_goodFor : zY yX3_goodFor cX3_goodFor 2 (some .int) 1 := ⟨zw_755, zw_70, zw_80, zw_756, by decide +kernel⟩
theorem zy_X3_type : zY yX3_type cX3_type 2 (some .int) 1 := ⟨zw_758, zw_759, zw_80, zw_760, by decide +kernel⟩
theorem zy_X3_clearText : zY yX3_clearText cX3_clearText 2 (some .int) 0 := ⟨zw_762, zw_763, zw_80, zw_764, by decide +kernel⟩
theorem zy_X3_fault : zY yX3_fault cX3_fault 3 (some .int) 1 := ⟨zw_766, zw_767, zw_80, zw_768, by decide +kernel⟩
theorem zy_X3_reasonOfText : zY yX3_reasonOfText cX3_reasonOfText 2 (some .int) 0 := ⟨zw_771, zw_71, zw_80, zw_772, by decide +kernel⟩
theorem zy_X3_isFormed : zY yX3_isFormed cX3_isFormed 1 (some .boolean) 0 := ⟨zw_775, zw_72, zw_80, zw_776, by decide +kernel⟩
theorem zy_X3_takes : zY yX3_takes cX3_takes 3 (some .boolean) 1 := ⟨zw_779, zw_73, zw_80, zw_780, by decide +kernel⟩
theorem zy_X3_takesCell : zY yX3_takesCell cX3_takesCell 2 (some .int) 0 := ⟨zw_783, zw_74, zw_80, zw_784, by decide +kernel⟩
theorem zy_X3_does : zY yX3_does cX3_does 2 (some .int) 0 := ⟨zw_787, zw_75, zw_80, zw_788, by decide +kernel⟩
theorem zy_X3_play : zY yX3_play cX3_play 3 (some .int) 0 := ⟨zw_790, zw_791, zw_80, zw_792, by decide +kernel⟩
theorem zu_X0 : ∀ w ∈ u_ws RX0 TX0 4, w ∈ zTab := by decide +kernel
theorem zu_X1 : ∀ w ∈ u_ws RX1 TX1 15, w ∈ zTab := by decide +kernel
theorem zu_X2 : ∀ w ∈ u_ws RX2 TX2 8, w ∈ zTab := by decide +kernel
theorem zu_X3 : ∀ w ∈ u_ws RX3 TX3 13, w ∈ zTab := by decide +kernel
end
section
/-! the world: class and model together, as numbers X v j and two small tables of places -/
abbrev xW : Type := (Nat → Nat → Int32) × (Nat → Nat)
def xg (w : xW) (v j : Nat) : Int32 := w.1 v j
def xs (w : xW) (v j : Nat) (x : Int32) : xW := (fun a b => if a = v ∧ b = j then x else w.1 a b, w.2)
/-- a whole vector in place of another -/
def xv (w : xW) (v : Nat) (f : Nat → Int32) : xW := (fun a b => if a = v then f b else w.1 a b, w.2)
/-- a place of the small table -/
def xp (w : xW) (j k : Nat) : xW := (w.1, fun a => if a = j then k else w.2 a)
abbrev zG : Type := va_G × ClassId × ClassId × ClassId × (Nat → Nat)
def zad (G : zG) (i : Nat) : Nat := G.2.2.2.2 i
def zb (x : Int32) : Int32 := if x = 0 then 0 else 1
def zc (x : Int32) : Int32 := vp_nar .char x
def zArr (cA : ClassId) (n v o : Nat) (w : xW) : va_E := .inl (cA, n, .inl (fun j => if j < n then xg w v (o + j) else 0))
def zArc (cA : ClassId) (n v : Nat) (w : xW) : va_E := .inl (cA, n, .inl (fun j => if j < n then zc (xg w v j) else 0))
def zGame (G : zG) (w : xW) (g : Nat) : va_E := .inr (1, [.ref (zad G (6 + 6 * g)), .int (xg w g 149), .int (xg w g 150), .int (xg w g 151), .int (xg w g 144), .int (xg w g 145), .int (xg w g 146), .int (xg w g 147), .int (zb (xg w g 148)), .int (xg w g 152), .int (xg w g 153), .int (xg w g 154), .int (xg w g 155), .int (xg w g 156), .int (xg w g 158)])
def zBoard (G : zG) (g : Nat) : va_E := .inr (0, [.ref (zad G (7 + 6 * g)), .ref (zad G (8 + 6 * g)), .ref (zad G (9 + 6 * g)), .ref (zad G (10 + 6 * g))])
/-- the game that stands at a place of the history's row -/
def zpg (w : xW) (j : Nat) : Nat := w.2 j % 7
/-- which of the two rows a name of the class means -/
def zpr (w : xW) (j : Nat) : Nat := 3 + w.2 j % 2
def zOuter (G : zG) (w : xW) : va_E := .inr (2, [.ref (zad G 5), .ref (zad G 11), .ref (zad G 1), .int (xg w 10 0), .ref (zad G 2), .int (xg w 10 1), .ref (zad G (zpr w 5)), .ref (zad G (zpr w 6))])
def zRefs (G : zG) (w : xW) : va_E := .inl (G.2.2.2.1, 5, .inr (.inr (.inr (.inr (fun j => if j < 5 then some (zad G (5 + 6 * zpg w j)) else none)))))
def zModel (G : zG) (w : xW) : va_E := .inr (3, [.ref (zad G 48), .ref (zad G 49), .ref (zad G 50), .int (xg w 17 0), .ref (zad G 51), .int (xg w 17 1), .ref (zad G 52), .ref (zad G 53), .int (xg w 17 2), .int (xg w 17 3), .int (xg w 17 4), .int (xg w 17 5), .int (xg w 17 6)])
def zE (G : zG) (w : xW) (i : Nat) : va_E :=
  if i = 0 then zOuter G w
  else if i = 1 then zRefs G w
  else if i = 2 then zArc G.2.2.1 80 7 w
  else if i = 3 then zArr G.2.1 36 8 0 w
  else if i = 4 then zArr G.2.1 36 9 0 w
  else if i = 47 then zModel G w
  else if i = 48 then zArr G.2.1 159 11 0 w
  else if i = 49 then zArr G.2.1 795 12 0 w
  else if i = 50 then zArr G.2.1 159 13 0 w
  else if i = 51 then zArr G.2.1 80 14 0 w
  else if i = 52 then zArr G.2.1 36 15 0 w
  else if i = 53 then zArr G.2.1 36 16 0 w
  else if (i - 5) % 6 = 0 then zGame G w ((i - 5) / 6)
  else if (i - 5) % 6 = 1 then zBoard G ((i - 5) / 6)
  else zArr G.2.1 36 ((i - 5) / 6) (36 * ((i - 5) % 6 - 2)) w
theorem zE_game (G : zG) (w : xW) {g : Nat} (hg : g < 7) : zE G w (5 + 6 * g) = zGame G w g := by
  have h1 : (5 + 6 * g - 5) % 6 = 0 := by omega
  have h2 : (5 + 6 * g - 5) / 6 = g := by omega
  simp only [zE, h1, h2]
  repeat (first | rw [if_pos rfl] | rw [if_pos trivial] | rw [if_neg (by omega)])
theorem zE_board (G : zG) (w : xW) {g : Nat} (hg : g < 7) : zE G w (6 + 6 * g) = zBoard G g := by
  have h1 : (6 + 6 * g - 5) % 6 = 1 := by omega
  have h2 : (6 + 6 * g - 5) / 6 = g := by omega
  simp only [zE, h1, h2]
  repeat (first | rw [if_pos rfl] | rw [if_pos trivial] | rw [if_neg (by omega)])
theorem zE_arr (G : zG) (w : xW) {g r : Nat} (hg : g < 7) (hr : r < 4) : zE G w (7 + r + 6 * g) = zArr G.2.1 36 g (36 * r) w := by
  have h1 : (7 + r + 6 * g - 5) % 6 = r + 2 := by omega
  have h2 : (7 + r + 6 * g - 5) / 6 = g := by omega
  have h3 : r + 2 - 2 = r := by omega
  simp only [zE, h1, h2, h3]
  repeat (first | rw [if_pos rfl] | rw [if_pos trivial] | rw [if_neg (by omega)])
theorem zE_0 (G : zG) (w : xW) : zE G w 0 = zOuter G w := rfl
theorem zE_1 (G : zG) (w : xW) : zE G w 1 = zRefs G w := rfl
theorem zE_2 (G : zG) (w : xW) : zE G w 2 = zArc G.2.2.1 80 7 w := rfl
theorem zE_3 (G : zG) (w : xW) : zE G w 3 = zArr G.2.1 36 8 0 w := rfl
theorem zE_4 (G : zG) (w : xW) : zE G w 4 = zArr G.2.1 36 9 0 w := rfl
theorem zE_47 (G : zG) (w : xW) : zE G w 47 = zModel G w := rfl
theorem zE_48 (G : zG) (w : xW) : zE G w 48 = zArr G.2.1 159 11 0 w := rfl
theorem zE_49 (G : zG) (w : xW) : zE G w 49 = zArr G.2.1 795 12 0 w := rfl
theorem zE_50 (G : zG) (w : xW) : zE G w 50 = zArr G.2.1 159 13 0 w := rfl
theorem zE_51 (G : zG) (w : xW) : zE G w 51 = zArr G.2.1 80 14 0 w := rfl
theorem zE_52 (G : zG) (w : xW) : zE G w 52 = zArr G.2.1 36 15 0 w := rfl
theorem zE_53 (G : zG) (w : xW) : zE G w 53 = zArr G.2.1 36 16 0 w := rfl
theorem zE_row (G : zG) (w u : xW) (j : Nat) : zE G u (zpr w j) = zArr G.2.1 36 (5 + zpr w j) 0 u := by
  have h : zpr w j = 3 ∨ zpr w j = 4 := by unfold zpr; omega
  rcases h with h | h <;> rw [h] <;> rfl
theorem zpr_lt (w : xW) (j : Nat) : zpr w j < 5 := by unfold zpr; omega
theorem zpg_lt (w : xW) (j : Nat) : zpg w j < 7 := by unfold zpg; omega
/-- the cell in which a number of the world lies -/
def zown (v j : Nat) : Nat :=
  if v < 7 then (if j < 144 then 7 + j / 36 + 6 * v else 5 + 6 * v)
  else if v = 7 then 2 else if v = 8 then 3 else if v = 9 then 4 else if v = 10 then 0
  else if v = 11 then 48 else if v = 12 then 49 else if v = 13 then 50 else if v = 14 then 51 else if v = 15 then 52 else if v = 16 then 53 else 47
theorem zown_arr {g r c : Nat} (hg : g < 7) (hr : r < 4) (hc : c < 36) : zown g (36 * r + c) = 7 + r + 6 * g := by
  unfold zown
  rw [if_pos hg, if_pos (by omega)]
  omega
theorem zown_game {g j : Nat} (hg : g < 7) (hj : 144 ≤ j) : zown g j = 5 + 6 * g := by
  unfold zown
  rw [if_pos hg, if_neg (by omega)]
theorem zArr_congr {cA : ClassId} {n v o : Nat} {w u : xW} (h : ∀ j, j < n → xg w v (o + j) = xg u v (o + j)) : zArr cA n v o w = zArr cA n v o u := by
  unfold zArr
  have : (fun j => if j < n then xg w v (o + j) else 0) = (fun j => if j < n then xg u v (o + j) else 0) := by
    funext j
    by_cases hj : j < n
    · simp only [hj, if_true]; exact h j hj
    · simp only [hj, if_false]
  rw [this]
theorem zArc_congr {cA : ClassId} {n v : Nat} {w u : xW} (h : ∀ j, j < n → xg w v j = xg u v j) : zArc cA n v w = zArc cA n v u := by
  unfold zArc
  have : (fun j => if j < n then zc (xg w v j) else 0) = (fun j => if j < n then zc (xg u v j) else 0) := by
    funext j
    by_cases hj : j < n
    · simp only [hj, if_true]; rw [h j hj]
    · simp only [hj, if_false]
  rw [this]
/-- a cell is what its own numbers say -/
theorem zE_congr {G : zG} {w u : xW} {i : Nat} (hi : i < 54) (hp : w.2 = u.2) (h : ∀ v j, zown v j = i → xg w v j = xg u v j) : zE G w i = zE G u i := by
  by_cases h0 : i = 0
  · subst h0
    simp only [zE_0, zOuter, zpr, hp, h 10 0 rfl, h 10 1 rfl]
  by_cases h1 : i = 1
  · subst h1
    simp only [zE_1, zRefs, zpg, hp]
  by_cases h2 : i = 2
  · subst h2
    exact zArc_congr fun j _ => h 7 j rfl
  by_cases h3 : i = 3
  · subst h3
    exact zArr_congr fun j _ => h 8 _ rfl
  by_cases h4 : i = 4
  · subst h4
    exact zArr_congr fun j _ => h 9 _ rfl
  by_cases h47 : i = 47
  · subst h47
    simp only [zE_47, zModel, h 17 0 rfl, h 17 1 rfl, h 17 2 rfl, h 17 3 rfl, h 17 4 rfl, h 17 5 rfl, h 17 6 rfl]
  by_cases h48 : i = 48
  · subst h48
    exact zArr_congr fun j _ => h 11 _ rfl
  by_cases h49 : i = 49
  · subst h49
    exact zArr_congr fun j _ => h 12 _ rfl
  by_cases h50 : i = 50
  · subst h50
    exact zArr_congr fun j _ => h 13 _ rfl
  by_cases h51 : i = 51
  · subst h51
    exact zArr_congr fun j _ => h 14 _ rfl
  by_cases h52 : i = 52
  · subst h52
    exact zArr_congr fun j _ => h 15 _ rfl
  by_cases h53 : i = 53
  · subst h53
    exact zArr_congr fun j _ => h 16 _ rfl
  obtain ⟨g, r, hg, hr, e⟩ : ∃ g r, g < 7 ∧ r < 6 ∧ i = 5 + r + 6 * g := ⟨(i - 5) / 6, (i - 5) % 6, by omega, by omega, by omega⟩
  subst e
  by_cases r0 : r = 0
  · subst r0
    rw [show 5 + 0 + 6 * g = 5 + 6 * g by omega, zE_game _ _ hg, zE_game _ _ hg]
    have q : ∀ j, 144 ≤ j → xg w g j = xg u g j := fun j hj => h g j (zown_game hg hj)
    simp only [zGame, q 149 (by decide), q 150 (by decide), q 151 (by decide), q 144 (by decide), q 145 (by decide), q 146 (by decide), q 147 (by decide), q 148 (by decide), q 152 (by decide), q 153 (by decide), q 154 (by decide), q 155 (by decide), q 156 (by decide), q 158 (by decide)]
  by_cases r1 : r = 1
  · subst r1
    rw [show 5 + 1 + 6 * g = 6 + 6 * g by omega, zE_board _ _ hg, zE_board _ _ hg]
  obtain ⟨r', e⟩ : ∃ r', r = r' + 2 := ⟨r - 2, by omega⟩
  subst e
  rw [show 5 + (r' + 2) + 6 * g = 7 + r' + 6 * g by omega, zE_arr _ _ hg (by omega), zE_arr _ _ hg (by omega)]
  exact zArr_congr fun j hj => h g _ (by rw [zown_arr hg (by omega) hj]; omega)
theorem xg_xs (w : xW) (v j : Nat) (x : Int32) (a b : Nat) : xg (xs w v j x) a b = if a = v ∧ b = j then x else xg w a b := rfl
theorem xg_same (w : xW) (v j : Nat) (x : Int32) : xg (xs w v j x) v j = x := by simp [xg_xs]
theorem xg_ne (w : xW) {v j a b : Nat} (x : Int32) (h : ¬ (a = v ∧ b = j)) : xg (xs w v j x) a b = xg w a b := by rw [xg_xs, if_neg h]
theorem xg_xp (w : xW) (j k : Nat) (a b : Nat) : xg (xp w j k) a b = xg w a b := rfl
theorem xg_xv (w : xW) (v : Nat) (f : Nat → Int32) (a b : Nat) : xg (xv w v f) a b = if a = v then f b else xg w a b := rfl
theorem zE_xs {G : zG} {w : xW} {v j i : Nat} {x : Int32} (hi : i < 54) (h : i ≠ zown v j) : zE G (xs w v j x) i = zE G w i :=
  zE_congr hi rfl fun a b e => xg_ne w x (fun q => h (by rw [← e, q.1, q.2]))
/-- the cells as the kit has them -/
def zws (G : zG) (N : Nat) (w : xW) : va_W := (List.range N).map (fun i => (zad G i, zE G w i))
theorem zws_get {G : zG} {N : Nat} (w : xW) {i : Nat} (h : i < N) : (zws G N w)[i]? = some (zad G i, zE G w i) := by
  simp [zws, h]
theorem zws_set {G : zG} {N : Nat} {w u : xW} {i : Nat} {e : va_E} (hi : i < N) (he : zE G u i = e) (ho : ∀ j, j < N → j ≠ i → zE G u j = zE G w j) : (zws G N w).set i (zad G i, e) = zws G N u := by
  apply List.ext_getElem?
  intro k
  by_cases hk : k < N
  · by_cases hki : k = i
    · subst hki
      rw [List.getElem?_set_self (by simp [zws, hk]), zws_get u hk, he]
    · rw [List.getElem?_set_ne (Ne.symm hki), zws_get w hk, zws_get u hk, ho k hk hki]
  · rw [List.getElem?_eq_none (by simp [zws]; omega), List.getElem?_eq_none (by simp [zws]; omega)]
theorem zArr_set {cA : ClassId} {n v o c : Nat} {w : xW} {x : Int32} (hc : c < n) : zArr cA n v o (xs w v (o + c) x) = .inl (cA, n, .inl (upd (fun j => if j < n then xg w v (o + j) else 0) c x)) := by
  unfold zArr
  have : (fun j => if j < n then xg (xs w v (o + c) x) v (o + j) else 0) = upd (fun j => if j < n then xg w v (o + j) else 0) c x := by
    funext j
    by_cases hj : j = c
    · subst hj
      simp [upd, hc, xg_xs]
    · simp [upd, hj, xg_xs]
  rw [this]
theorem zArc_set {cA : ClassId} {n v c : Nat} {w : xW} {x : Int32} (hc : c < n) : zArc cA n v (xs w v c x) = .inl (cA, n, .inl (upd (fun j => if j < n then zc (xg w v j) else 0) c (zc x))) := by
  unfold zArc
  have : (fun j => if j < n then zc (xg (xs w v c x) v j) else 0) = upd (fun j => if j < n then zc (xg w v j) else 0) c (zc x) := by
    funext j
    by_cases hj : j = c
    · subst hj
      simp [upd, hc, xg_xs]
    · simp [upd, hj, xg_xs]
  rw [this]
theorem zcl {c : Nat} (h : c < 2147483648) : (nI c).toNatClampNeg = c := nI_clamp h
theorem zin {c n : Nat} (h : c < n) (hn : n < 2147483648) : vp_in (nI c) n := vp_in_nI h hn
theorem zbz (x : Int32) : zb (zb x) = zb x := by unfold zb; by_cases h : x = 0 <;> simp [h]
theorem zb_nar (x : Int32) : narrow .boolean (.int (zb x)) = .int (zb x) := by unfold zb; by_cases h : x = 0 <;> simp [h] <;> rfl
theorem zb_fit (x : Int32) : fits .boolean (.int (zb x)) = true := by unfold zb; by_cases h : x = 0 <;> simp [h] <;> rfl
theorem zc_eq (x : Int32) : zc x = (x.toUInt32 % 65536).toInt32 := vp_nar_char x
theorem zc_nar (x : Int32) : narrow .char (.int (zc x)) = .int (zc x) := by rw [zc_eq]; exact pk_nc x
end
section
/-! walking over worlds: a method's setting k, and 'from this world, place, locals and stack the machine comes to its end' -/
/-- the static rows of the class: what FIRST_ROW and FIRST_TOWERS hold -/
def zRow0 : Nat → Int32 := fun j => [1, 3, 0, 2, 3, 1].getD j 0
def zRow1n : Nat → Nat := fun j => [0, 5, 14, 21, 30, 35].getD j 0
def zRow1 : Nat → Int32 := fun j => nI (zRow1n j)
theorem zRow1_lt (j : Nat) : zRow1n j < 36 := by
  by_cases h : j < 6
  · rcases (by omega : j = 0 ∨ j = 1 ∨ j = 2 ∨ j = 3 ∨ j = 4 ∨ j = 5) with rfl | rfl | rfl | rfl | rfl | rfl <;> decide
  · have : zRow1n j = 0 := by unfold zRow1n; simp [List.getD, List.getElem?_eq_none (show [0, 5, 14, 21, 30, 35].length ≤ j by simp; omega)]
    omega
def zStat (A : Nat → Prop) (U : State) (H : Heap) : Prop :=
  (∃ t, va_Z RX2 "FIRST_ROW" "[I" (.ref t) A U H ∧ va_T .int t 6 (fun j => .int (zRow0 j)) A U H) ∧ (∃ t, va_Z RX2 "FIRST_TOWERS" "[I" (.ref t) A U H ∧ va_T .int t 6 (fun j => .int (zRow1 j)) A U H)
theorem zStat.moved {A : Nat → Prop} {u U : State} {H H1 : Heap} (hvm : u.vm.Alike U.vm) (hq : ∀ a : Nat, a < H.size → ¬ A a → H1[a]? = H[a]?) (h : zStat A u H) : zStat A U H1 := by
  obtain ⟨⟨t, h1, h2⟩, ⟨r, h3, h4⟩⟩ := h
  exact ⟨⟨t, (h1.moved hvm).kept hq, (h2.moved hvm).kept hq⟩, ⟨r, (h3.moved hvm).kept hq, (h4.moved hvm).kept hq⟩⟩
def zA (G : zG) (N : Nat) : Nat → Prop := fun q => ∃ i, i < N ∧ q = zad G i
def zTys (G : zG) : List (ClassId × FieldType) := [(G.2.1, .int), (G.2.2.1, .char), (G.2.2.2.1, .object RX1)]
def zK (G : zG) (N : Nat) (U : State) (H : Heap) : Prop := va_K G.1 vwCl (zTys G) U ∧ zWs U ∧ zStat (zA G N) U H
theorem zK.moved {G : zG} {N : Nat} {u U : State} {H H1 : Heap} (hW : u.WarmedH U.vm) (hq : ∀ a : Nat, a < H.size → ¬ zA G N a → H1[a]? = H[a]?) (h : zK G N u H) : zK G N U H1 :=
  ⟨va_K.moved hW.alike h.1, zWs_move hW h.2.1, h.2.2.moved hW.alike hq⟩
def zGeo (G : zG) (N : Nat) : Prop := N ≤ 54 ∧ ∀ i j, i < N → j < N → zad G i = zad G j → i = j
theorem zGeo.D {G : zG} {N : Nat} {A : Nat → Prop} (h : zGeo G N) (hA : ∀ i, i < N → A (zad G i)) (w : xW) : va_D A (zws G N w) := by
  have key : ∀ (i : Nat) (p : Nat × va_E), (zws G N w)[i]? = some p → i < N ∧ p.1 = zad G i := by
    intro i p hp
    by_cases hi : i < N
    · rw [zws_get w hi] at hp
      cases hp
      exact ⟨hi, rfl⟩
    · rw [List.getElem?_eq_none (by simp [zws]; omega)] at hp
      cases hp
  refine ⟨fun i j p q hi hj e => ?_, fun i q hi => ?_⟩
  · obtain ⟨h1, h2⟩ := key i p hi
    obtain ⟨h3, h4⟩ := key j q hj
    exact h.2 i j h1 h3 (by rw [← h2, ← h4, e])
  · obtain ⟨h1, h2⟩ := key i q hi
    rw [h2]
    exact hA i h1
abbrev zC : Type := Program × Launch × Env × Room × State × MethodId × Array Value × List Frame × Method × Code × (State → Prop) × (Nat → Prop) × Nat × Nat × Nat
/-- the slot is one of the frame's: it was asked of the method's locals -/
def zIn (k : zC) (i : Nat) : Prop := i < k.2.2.2.2.2.2.2.2.2.2.2.2.1
def zZ (k : zC) (G : zG) (N : Nat) (w : xW) (pc : Nat) (lv : List (Nat × Value)) (st : List Value) : Prop := match k with
  | (p, l, e, R, s, m, args, below, meth, c, Q, A, nL, cells, slots) => ∀ (H : Heap) (locs : List Loc) (ls : Array Slot), va_P G.1 vwCl (zws G N w) H → va_S A s.heap H locs → lv_has ls nL lv → W p l e R s m args below meth c H locs cells slots Q (F0 m pc ls st)
/-- the setting: its code, its class, the frames and words that it has left -/
def zOk (k : zC) (G : zG) (N : Nat) (cc : ByteArray) (own : String) (fr lo : Nat) : Prop := match k with
  | (p, _, _, R, s, m, _, _, meth, c, _, A, nL, cells, slots) => p.tables.exec = Jvm.exec ∧ c.code = cc ∧ s.vm.findClass own = some m.cls ∧ c.maxLocals = nL ∧ zK G N s s.heap ∧ zGeo G N ∧ meth.locks = false ∧ R.frames = fr ∧ R.locals = lo ∧ cells ≤ R.cells ∧ slots ≤ R.slots ∧ (∀ i, i < N → A (zad G i)) ∧ nL < 1000
/-- how the setting ends: it answers r and leaves the world u -/
def zEnd (k : zC) (G : zG) (N : Nat) (ret : Option FieldType) (r : Option Int32) (u : xW) : Prop := match k with
  | (_, _, _, _, s, _, args, below, meth, _, Q, A, _, cells, slots) => meth.sig.returnType = ret ∧ A = zA G N ∧ cells = 0 ∧ slots = 0 ∧ Q = MQ below (fun _ st o t => (o = .returned (r.map Value.int) ∧ va_P G.1 vwCl (zws G N u) t.heap) ∧ va_F (zA G N) st t) args s 0 0 (zA G N)
def zPc (G : zG) (N : Nat) (w : xW) (args : List Value) : Array Value → State → Prop := va_Pc args (fun U => va_P G.1 vwCl (zws G N w) U.heap ∧ zK G N U U.heap)
/-- a method's contract: from the world w it answers r (or nothing) and leaves the world u -/
def zM (y : MethodName) (cc : ByteArray) (maxL : Nat) (ret : Option FieldType) (fr lo : Nat) (G : zG) (N : Nat) (args : List Value) (w : xW) (r : Option Int32) (u : xW) : Prop :=
  ∀ l : Launch, Met l y [.code y cc maxL ret] { frames := fr, cells := 0, slots := 0, locals := lo } (zPc G N w args) (fun _ st o t => (o = .returned (r.map Value.int) ∧ va_P G.1 vwCl (zws G N u) t.heap) ∧ va_F (zA G N) st t) 0 0 (zA G N)
theorem zM_of {y : MethodName} {cc : ByteArray} {maxL : Nat} {ret : Option FieldType} {fr lo : Nat} {G : zG} {N : Nat} {args : List Value} {w : xW} {r : Option Int32} {u : xW} {lv : List (Nat × Value)} (hy : plainName y.cls = true) (hg : zGeo G N) (hn : (lg_sl args).length ≤ maxL ∧ maxL < 1000) (hlv : lv_args 0 args = lv)
    (body : ∀ k : zC, zOk k G N cc y.cls fr lo → zEnd k G N ret r u → (∀ i, i < maxL → zIn k i) → zZ k G N w 0 lv []) : zM y cc maxL ret fr lo G N args w r u := by
  intro l
  refine Met.ofW (cc := cc) (maxL := maxL) (ret := ret) hy rfl ?_
  intro p e s m args' below meth c s₁ B hml hv
  obtain ⟨rfl, hP, hK⟩ := hv
  have hx := B.exec
  have hb := B.bytes
  have hr := B.returns
  have hown : s.vm.findClass y.cls = some m.cls := findClass_of_methodNamed B.named
  have hlocks := B.notSynchronized
  have hl := lv_entry args (n := maxL) hn.1
  rw [hlv] at hl
  rw [lg_entry_eq]
  exact body (p, l, e, (headSpec [.code y cc maxL ret] { frames := fr, cells := 0, slots := 0, locals := lo }).room, s, m, args.toArray, below, meth, c, _, zA G N, maxL, 0, 0) ⟨hx, hb, hown, hml, hK, hg, hlocks, rfl, rfl, Nat.zero_le _, Nat.zero_le _, fun i hi => ⟨i, hi, rfl⟩, hn.2⟩ ⟨hr, rfl, rfl, rfl, rfl⟩ (fun _ h => h) s.heap [] _ hP va_S.rf hl
section ZR
variable {k : zC} {G : zG} {N : Nat} {cc : ByteArray} {own : String} {fr lo : Nat} {w u : xW} {pc tgt : Nat} {lv lv' : List (Nat × Value)} {st : List Value} {x y : Int32} {i j c n a b : Nat} {off : Int}
theorem zOk.word (ok : zOk k G N cc own fr lo) {c : Cond} (h : c ∈ zTab) : c.before (k.2.2.2.2.2.2.1) (k.2.2.2.2.1) = true := by
  obtain ⟨p, l, e, R, s, m, args, below, meth, c0, Q, A, nL, cells, slots⟩ := k
  exact ok.2.2.2.2.1.2.1 _ h _
theorem z_locs (ks : List Nat) (h : lv_pick lv ks = lv') (kk : zZ k G N w pc lv' st) : zZ k G N w pc lv st := by
  obtain ⟨p, l, e, R, s, m, args, below, meth, c0, Q, A, nL, cells, slots⟩ := k
  exact fun H locs ls hP hS hl => kk H locs ls hP hS (lv_sub hl ks h)
theorem z_eq {w' : xW} {lv' : List (Nat × Value)} {st' : List Value} (kk : zZ k G N w' pc lv' st') (hw : w = w') (hl : lv = lv') (hs : st = st') : zZ k G N w pc lv st := by subst hw; subst hl; subst hs; exact kk
theorem z_iload_n (ok : zOk k G N cc own fr lo) {q : Fin 4} (d : decode cc pc = .ok (.iload_n q, 1)) (t : Nat) (h : lv[t]? = some (q.val, .int x)) (kk : zZ k G N w (pc + 1) lv (.int x :: st)) : zZ k G N w pc lv st := by
  obtain ⟨p, l, e, R, s, m, args, below, meth, c0, Q, A, nL, cells, slots⟩ := k
  exact fun H locs ls hP hS hl => lv_iload_n ok.1 ok.2.1 d rfl (lv_at hl t h) (kk H locs ls hP hS hl)
theorem z_iload (ok : zOk k G N cc own fr lo) (d : decode cc pc = .ok (.iload i, 2)) (t : Nat) (h : lv[t]? = some (i, .int x)) (kk : zZ k G N w (pc + 2) lv (.int x :: st)) : zZ k G N w pc lv st := by
  obtain ⟨p, l, e, R, s, m, args, below, meth, c0, Q, A, nL, cells, slots⟩ := k
  exact fun H locs ls hP hS hl => lv_iload ok.1 ok.2.1 d (lv_at hl t h) (kk H locs ls hP hS hl)
theorem z_aload_n (ok : zOk k G N cc own fr lo) {q : Fin 4} (d : decode cc pc = .ok (.aload_n q, 1)) (t : Nat) (h : lv[t]? = some (q.val, .ref a)) (kk : zZ k G N w (pc + 1) lv (.ref a :: st)) : zZ k G N w pc lv st := by
  obtain ⟨p, l, e, R, s, m, args, below, meth, c0, Q, A, nL, cells, slots⟩ := k
  exact fun H locs ls hP hS hl => lv_aload_n ok.1 ok.2.1 d rfl (lv_at hl t h) (kk H locs ls hP hS hl)
theorem z_aload (ok : zOk k G N cc own fr lo) (d : decode cc pc = .ok (.aload i, 2)) (t : Nat) (h : lv[t]? = some (i, .ref a)) (kk : zZ k G N w (pc + 2) lv (.ref a :: st)) : zZ k G N w pc lv st := by
  obtain ⟨p, l, e, R, s, m, args, below, meth, c0, Q, A, nL, cells, slots⟩ := k
  exact fun H locs ls hP hS hl => lv_aload ok.1 ok.2.1 d (lv_at hl t h) (kk H locs ls hP hS hl)
theorem z_istore_n (ok : zOk k G N cc own fr lo) {q : Fin 4} (d : decode cc pc = .ok (.istore_n q, 1)) (hi : zIn k q.val) (h : (q.val, Value.int x) :: lv.filter (fun z => !(z.1 == q.val) && !(z.1 + 1 == q.val && z.2.category == 2)) = lv') (kk : zZ k G N w (pc + 1) lv' st) : zZ k G N w pc lv (.int x :: st) := by
  obtain ⟨p, l, e, R, s, m, args, below, meth, c0, Q, A, nL, cells, slots⟩ := k
  exact fun H locs ls hP hS hl => lv_istore_n ok.1 ok.2.1 d rfl hl hi h (fun ls' hl' => kk H locs ls' hP hS hl')
theorem z_istore (ok : zOk k G N cc own fr lo) (d : decode cc pc = .ok (.istore i, 2)) (hi : zIn k i) (h : (i, Value.int x) :: lv.filter (fun z => !(z.1 == i) && !(z.1 + 1 == i && z.2.category == 2)) = lv') (kk : zZ k G N w (pc + 2) lv' st) : zZ k G N w pc lv (.int x :: st) := by
  obtain ⟨p, l, e, R, s, m, args, below, meth, c0, Q, A, nL, cells, slots⟩ := k
  exact fun H locs ls hP hS hl => lv_istore ok.1 ok.2.1 d hl hi h (fun ls' hl' => kk H locs ls' hP hS hl')
theorem z_astore_n (ok : zOk k G N cc own fr lo) {q : Fin 4} (d : decode cc pc = .ok (.astore_n q, 1)) (hi : zIn k q.val) (h : (q.val, Value.ref a) :: lv.filter (fun z => !(z.1 == q.val) && !(z.1 + 1 == q.val && z.2.category == 2)) = lv') (kk : zZ k G N w (pc + 1) lv' st) : zZ k G N w pc lv (.ref a :: st) := by
  obtain ⟨p, l, e, R, s, m, args, below, meth, c0, Q, A, nL, cells, slots⟩ := k
  exact fun H locs ls hP hS hl => lv_astore_n ok.1 ok.2.1 d rfl hl hi h (fun ls' hl' => kk H locs ls' hP hS hl')
theorem z_astore (ok : zOk k G N cc own fr lo) (d : decode cc pc = .ok (.astore i, 2)) (hi : zIn k i) (h : (i, Value.ref a) :: lv.filter (fun z => !(z.1 == i) && !(z.1 + 1 == i && z.2.category == 2)) = lv') (kk : zZ k G N w (pc + 2) lv' st) : zZ k G N w pc lv (.ref a :: st) := by
  obtain ⟨p, l, e, R, s, m, args, below, meth, c0, Q, A, nL, cells, slots⟩ := k
  exact fun H locs ls hP hS hl => lv_astore ok.1 ok.2.1 d hl hi h (fun ls' hl' => kk H locs ls' hP hS hl')
theorem z_iinc (ok : zOk k G N cc own fr lo) {z : Int} (d : decode cc pc = .ok (.iinc i z, 3)) (hi : zIn k i) (t : Nat) (h1 : lv[t]? = some (i, .int x)) (hv : x + Int32.ofInt z = y) (h : (i, Value.int y) :: lv.filter (fun z => !(z.1 == i) && !(z.1 + 1 == i && z.2.category == 2)) = lv') (kk : zZ k G N w (pc + 3) lv' st) : zZ k G N w pc lv st := by
  obtain ⟨p, l, e, R, s, m, args, below, meth, c0, Q, A, nL, cells, slots⟩ := k
  exact fun H locs ls hP hS hl => lv_iinc ok.1 ok.2.1 d hl h1 hv hi h (fun ls' hl' => kk H locs ls' hP hS hl')
theorem z_iconst (ok : zOk k G N cc own fr lo) {z : Int} (d : decode cc pc = .ok (.iconst z, 1)) (hv : Int32.ofInt z = x) (kk : zZ k G N w (pc + 1) lv (.int x :: st)) : zZ k G N w pc lv st := by
  obtain ⟨p, l, e, R, s, m, args, below, meth, c0, Q, A, nL, cells, slots⟩ := k
  exact fun H locs ls hP hS hl => lv_iconst ok.1 ok.2.1 d hv (kk H locs ls hP hS hl)
theorem z_bipush (ok : zOk k G N cc own fr lo) {z : Int} (d : decode cc pc = .ok (.bipush z, 2)) (hv : (Int8.ofInt z).toInt32 = x) (kk : zZ k G N w (pc + 2) lv (.int x :: st)) : zZ k G N w pc lv st := by
  obtain ⟨p, l, e, R, s, m, args, below, meth, c0, Q, A, nL, cells, slots⟩ := k
  exact fun H locs ls hP hS hl => lv_bipush ok.1 ok.2.1 d hv (kk H locs ls hP hS hl)
theorem z_sipush (ok : zOk k G N cc own fr lo) {z : Int} (d : decode cc pc = .ok (.sipush z, 3)) (hv : (Int16.ofInt z).toInt32 = x) (kk : zZ k G N w (pc + 3) lv (.int x :: st)) : zZ k G N w pc lv st := by
  obtain ⟨p, l, e, R, s, m, args, below, meth, c0, Q, A, nL, cells, slots⟩ := k
  exact fun H locs ls hP hS hl => lv_sipush ok.1 ok.2.1 d hv (kk H locs ls hP hS hl)
theorem z_iadd (ok : zOk k G N cc own fr lo) (d : decode cc pc = .ok (.iadd, 1)) (kk : zZ k G N w (pc + 1) lv (.int (x + y) :: st)) : zZ k G N w pc lv (.int y :: .int x :: st) := by
  obtain ⟨p, l, e, R, s, m, args, below, meth, c0, Q, A, nL, cells, slots⟩ := k
  exact fun H locs ls hP hS hl => lv_iadd ok.1 ok.2.1 d (kk H locs ls hP hS hl)
theorem z_iadd_n (ok : zOk k G N cc own fr lo) (d : decode cc pc = .ok (.iadd, 1)) (a b : Nat) (hx : x = nI a) (hy : y = nI b) (kk : zZ k G N w (pc + 1) lv (.int (nI (a + b)) :: st)) : zZ k G N w pc lv (.int y :: .int x :: st) := by
  subst hx; subst hy
  exact z_iadd ok d (by rw [nI_add]; exact kk)
theorem z_isub (ok : zOk k G N cc own fr lo) (d : decode cc pc = .ok (.isub, 1)) (kk : zZ k G N w (pc + 1) lv (.int (x - y) :: st)) : zZ k G N w pc lv (.int y :: .int x :: st) := by
  obtain ⟨p, l, e, R, s, m, args, below, meth, c0, Q, A, nL, cells, slots⟩ := k
  exact fun H locs ls hP hS hl => lv_isub ok.1 ok.2.1 d (kk H locs ls hP hS hl)
theorem z_isub_n (ok : zOk k G N cc own fr lo) (d : decode cc pc = .ok (.isub, 1)) (a b : Nat) (hx : x = nI a) (hy : y = nI b) (h : b ≤ a) (kk : zZ k G N w (pc + 1) lv (.int (nI (a - b)) :: st)) : zZ k G N w pc lv (.int y :: .int x :: st) := by
  subst hx; subst hy
  exact z_isub ok d (by rw [pk_sub h]; exact kk)
theorem z_imul (ok : zOk k G N cc own fr lo) (d : decode cc pc = .ok (.imul, 1)) (kk : zZ k G N w (pc + 1) lv (.int (x * y) :: st)) : zZ k G N w pc lv (.int y :: .int x :: st) := by
  obtain ⟨p, l, e, R, s, m, args, below, meth, c0, Q, A, nL, cells, slots⟩ := k
  exact fun H locs ls hP hS hl => lv_imul ok.1 ok.2.1 d (kk H locs ls hP hS hl)
theorem z_imul_n (ok : zOk k G N cc own fr lo) (d : decode cc pc = .ok (.imul, 1)) (a b : Nat) (hx : x = nI a) (hy : y = nI b) (kk : zZ k G N w (pc + 1) lv (.int (nI (a * b)) :: st)) : zZ k G N w pc lv (.int y :: .int x :: st) := by
  subst hx; subst hy
  exact z_imul ok d (by rw [pk_mul]; exact kk)
theorem z_iand (ok : zOk k G N cc own fr lo) (d : decode cc pc = .ok (.iand, 1)) (kk : zZ k G N w (pc + 1) lv (.int (x &&& y) :: st)) : zZ k G N w pc lv (.int y :: .int x :: st) := by
  obtain ⟨p, l, e, R, s, m, args, below, meth, c0, Q, A, nL, cells, slots⟩ := k
  exact fun H locs ls hP hS hl => lv_iand ok.1 ok.2.1 d (kk H locs ls hP hS hl)
theorem z_ineg (ok : zOk k G N cc own fr lo) (d : decode cc pc = .ok (.ineg, 1)) (kk : zZ k G N w (pc + 1) lv (.int (-x) :: st)) : zZ k G N w pc lv (.int x :: st) := by
  obtain ⟨p, l, e, R, s, m, args, below, meth, c0, Q, A, nL, cells, slots⟩ := k
  exact fun H locs ls hP hS hl => lv_ineg ok.1 ok.2.1 d (kk H locs ls hP hS hl)
theorem z_idiv (ok : zOk k G N cc own fr lo) (d : decode cc pc = .ok (.idiv, 1)) (h : ¬ y = 0) (kk : zZ k G N w (pc + 1) lv (.int (x / y) :: st)) : zZ k G N w pc lv (.int y :: .int x :: st) := by
  obtain ⟨p, l, e, R, s, m, args, below, meth, c0, Q, A, nL, cells, slots⟩ := k
  exact fun H locs ls hP hS hl => lv_idiv ok.1 ok.2.1 d h (kk H locs ls hP hS hl)
theorem z_idiv_n (ok : zOk k G N cc own fr lo) (d : decode cc pc = .ok (.idiv, 1)) (a b : Nat) (hx : x = nI a) (hy : y = nI b) (ha : a < 2147483648) (h0 : 0 < b) (hb : b < 2147483648) (kk : zZ k G N w (pc + 1) lv (.int (nI (a / b)) :: st)) : zZ k G N w pc lv (.int y :: .int x :: st) := by
  subst hx; subst hy
  exact z_idiv ok d (nI_ne0 h0 hb) (by rw [pk_div ha h0 hb]; exact kk)
theorem z_irem_n (ok : zOk k G N cc own fr lo) (d : decode cc pc = .ok (.irem, 1)) (a b : Nat) (hx : x = nI a) (hy : y = nI b) (ha : a < 2147483648) (h0 : 0 < b) (hb : b < 2147483648) (kk : zZ k G N w (pc + 1) lv (.int (nI (a % b)) :: st)) : zZ k G N w pc lv (.int y :: .int x :: st) := by
  subst hx; subst hy
  rw [← pk_rem ha h0 hb] at kk
  obtain ⟨p, l, e, R, s, m, args, below, meth, c0, Q, A, nL, cells, slots⟩ := k
  exact fun H locs ls hP hS hl => lv_irem ok.1 ok.2.1 d (nI_ne0 h0 hb) (kk H locs ls hP hS hl)
theorem z_irem (ok : zOk k G N cc own fr lo) (d : decode cc pc = .ok (.irem, 1)) (h : ¬ y = 0) (kk : zZ k G N w (pc + 1) lv (.int (x - x / y * y) :: st)) : zZ k G N w pc lv (.int y :: .int x :: st) := by
  obtain ⟨p, l, e, R, s, m, args, below, meth, c0, Q, A, nL, cells, slots⟩ := k
  exact fun H locs ls hP hS hl => lv_irem ok.1 ok.2.1 d h (kk H locs ls hP hS hl)
theorem z_i2c (ok : zOk k G N cc own fr lo) (d : decode cc pc = .ok (.i2c, 1)) (kk : zZ k G N w (pc + 1) lv (.int (zc x) :: st)) : zZ k G N w pc lv (.int x :: st) := by
  obtain ⟨p, l, e, R, s, m, args, below, meth, c0, Q, A, nL, cells, slots⟩ := k
  exact fun H locs ls hP hS hl => lv_i2c ok.1 ok.2.1 d (zc_eq x).symm (kk H locs ls hP hS hl)
theorem z_dup (ok : zOk k G N cc own fr lo) {va : Value} (d : decode cc pc = .ok (.dup, 1)) (h : va.category = 1) (kk : zZ k G N w (pc + 1) lv (va :: va :: st)) : zZ k G N w pc lv (va :: st) := by
  obtain ⟨p, l, e, R, s, m, args, below, meth, c0, Q, A, nL, cells, slots⟩ := k
  exact fun H locs ls hP hS hl => lv_dup ok.1 ok.2.1 d h (kk H locs ls hP hS hl)
theorem z_dup2 (ok : zOk k G N cc own fr lo) {va vb : Value} (d : decode cc pc = .ok (.dup2, 1)) (h : va.category = 1) (h2 : vb.category = 1) (kk : zZ k G N w (pc + 1) lv (va :: vb :: va :: vb :: st)) : zZ k G N w pc lv (va :: vb :: st) := by
  obtain ⟨p, l, e, R, s, m, args, below, meth, c0, Q, A, nL, cells, slots⟩ := k
  exact fun H locs ls hP hS hl => lv_dup2_11 ok.1 ok.2.1 d h h2 (kk H locs ls hP hS hl)
theorem z_pop (ok : zOk k G N cc own fr lo) {va : Value} (d : decode cc pc = .ok (.pop, 1)) (h : va.category = 1) (kk : zZ k G N w (pc + 1) lv st) : zZ k G N w pc lv (va :: st) := by
  obtain ⟨p, l, e, R, s, m, args, below, meth, c0, Q, A, nL, cells, slots⟩ := k
  exact fun H locs ls hP hS hl => lv_pop ok.1 ok.2.1 d h (kk H locs ls hP hS hl)
theorem z_goto (ok : zOk k G N cc own fr lo) (d : decode cc pc = .ok (.goto off, 3)) (tgt : Nat) (ht : (pc : Int) + off = (tgt : Int)) (kk : zZ k G N w tgt lv st) : zZ k G N w pc lv st := by
  obtain ⟨p, l, e, R, s, m, args, below, meth, c0, Q, A, nL, cells, slots⟩ := k
  exact fun H locs ls hP hS hl => lv_goto ok.1 ok.2.1 d ht (kk H locs ls hP hS hl)
theorem z_if_eq (ok : zOk k G N cc own fr lo) (d : decode cc pc = .ok (.ifCond .eq off, 3)) (tgt : Nat) (ht : (pc : Int) + off = (tgt : Int)) (kt : x = 0 → zZ k G N w tgt lv st) (kf : ¬ x = 0 → zZ k G N w (pc + 3) lv st) : zZ k G N w pc lv (.int x :: st) := by
  obtain ⟨p, l, e, R, s, m, args, below, meth, c0, Q, A, nL, cells, slots⟩ := k
  exact fun H locs ls hP hS hl => lv_if_eq ok.1 ok.2.1 d ht (fun q => kt q H locs ls hP hS hl) (fun q => kf q H locs ls hP hS hl)
theorem z_if_ne (ok : zOk k G N cc own fr lo) (d : decode cc pc = .ok (.ifCond .ne off, 3)) (tgt : Nat) (ht : (pc : Int) + off = (tgt : Int)) (kt : ¬ x = 0 → zZ k G N w tgt lv st) (kf : x = 0 → zZ k G N w (pc + 3) lv st) : zZ k G N w pc lv (.int x :: st) := by
  obtain ⟨p, l, e, R, s, m, args, below, meth, c0, Q, A, nL, cells, slots⟩ := k
  exact fun H locs ls hP hS hl => lv_if_ne ok.1 ok.2.1 d ht (fun q => kt q H locs ls hP hS hl) (fun q => kf q H locs ls hP hS hl)
theorem z_if_lt (ok : zOk k G N cc own fr lo) (d : decode cc pc = .ok (.ifCond .lt off, 3)) (tgt : Nat) (ht : (pc : Int) + off = (tgt : Int)) (kt : x < 0 → zZ k G N w tgt lv st) (kf : ¬ x < 0 → zZ k G N w (pc + 3) lv st) : zZ k G N w pc lv (.int x :: st) := by
  obtain ⟨p, l, e, R, s, m, args, below, meth, c0, Q, A, nL, cells, slots⟩ := k
  exact fun H locs ls hP hS hl => lv_if_lt ok.1 ok.2.1 d ht (fun q => kt q H locs ls hP hS hl) (fun q => kf q H locs ls hP hS hl)
theorem z_if_ge (ok : zOk k G N cc own fr lo) (d : decode cc pc = .ok (.ifCond .ge off, 3)) (tgt : Nat) (ht : (pc : Int) + off = (tgt : Int)) (kt : 0 ≤ x → zZ k G N w tgt lv st) (kf : ¬ 0 ≤ x → zZ k G N w (pc + 3) lv st) : zZ k G N w pc lv (.int x :: st) := by
  obtain ⟨p, l, e, R, s, m, args, below, meth, c0, Q, A, nL, cells, slots⟩ := k
  exact fun H locs ls hP hS hl => lv_if_ge ok.1 ok.2.1 d ht (fun q => kt q H locs ls hP hS hl) (fun q => kf q H locs ls hP hS hl)
theorem z_if_gt (ok : zOk k G N cc own fr lo) (d : decode cc pc = .ok (.ifCond .gt off, 3)) (tgt : Nat) (ht : (pc : Int) + off = (tgt : Int)) (kt : 0 < x → zZ k G N w tgt lv st) (kf : ¬ 0 < x → zZ k G N w (pc + 3) lv st) : zZ k G N w pc lv (.int x :: st) := by
  obtain ⟨p, l, e, R, s, m, args, below, meth, c0, Q, A, nL, cells, slots⟩ := k
  exact fun H locs ls hP hS hl => lv_if_gt ok.1 ok.2.1 d ht (fun q => kt q H locs ls hP hS hl) (fun q => kf q H locs ls hP hS hl)
theorem z_if_le (ok : zOk k G N cc own fr lo) (d : decode cc pc = .ok (.ifCond .le off, 3)) (tgt : Nat) (ht : (pc : Int) + off = (tgt : Int)) (kt : x ≤ 0 → zZ k G N w tgt lv st) (kf : ¬ x ≤ 0 → zZ k G N w (pc + 3) lv st) : zZ k G N w pc lv (.int x :: st) := by
  obtain ⟨p, l, e, R, s, m, args, below, meth, c0, Q, A, nL, cells, slots⟩ := k
  exact fun H locs ls hP hS hl => lv_if_le ok.1 ok.2.1 d ht (fun q => kt q H locs ls hP hS hl) (fun q => kf q H locs ls hP hS hl)
theorem z_icmp_eq (ok : zOk k G N cc own fr lo) (d : decode cc pc = .ok (.if_icmp .eq off, 3)) (tgt : Nat) (ht : (pc : Int) + off = (tgt : Int)) (kt : x = y → zZ k G N w tgt lv st) (kf : ¬ x = y → zZ k G N w (pc + 3) lv st) : zZ k G N w pc lv (.int y :: .int x :: st) := by
  obtain ⟨p, l, e, R, s, m, args, below, meth, c0, Q, A, nL, cells, slots⟩ := k
  exact fun H locs ls hP hS hl => lv_icmp_eq ok.1 ok.2.1 d ht (fun q => kt q H locs ls hP hS hl) (fun q => kf q H locs ls hP hS hl)
theorem z_icmp_ne (ok : zOk k G N cc own fr lo) (d : decode cc pc = .ok (.if_icmp .ne off, 3)) (tgt : Nat) (ht : (pc : Int) + off = (tgt : Int)) (kt : ¬ x = y → zZ k G N w tgt lv st) (kf : x = y → zZ k G N w (pc + 3) lv st) : zZ k G N w pc lv (.int y :: .int x :: st) := by
  obtain ⟨p, l, e, R, s, m, args, below, meth, c0, Q, A, nL, cells, slots⟩ := k
  exact fun H locs ls hP hS hl => lv_icmp_ne ok.1 ok.2.1 d ht (fun q => kt q H locs ls hP hS hl) (fun q => kf q H locs ls hP hS hl)
theorem z_icmp_lt (ok : zOk k G N cc own fr lo) (d : decode cc pc = .ok (.if_icmp .lt off, 3)) (tgt : Nat) (ht : (pc : Int) + off = (tgt : Int)) (kt : x < y → zZ k G N w tgt lv st) (kf : ¬ x < y → zZ k G N w (pc + 3) lv st) : zZ k G N w pc lv (.int y :: .int x :: st) := by
  obtain ⟨p, l, e, R, s, m, args, below, meth, c0, Q, A, nL, cells, slots⟩ := k
  exact fun H locs ls hP hS hl => lv_icmp_lt ok.1 ok.2.1 d ht (fun q => kt q H locs ls hP hS hl) (fun q => kf q H locs ls hP hS hl)
theorem z_icmp_ge (ok : zOk k G N cc own fr lo) (d : decode cc pc = .ok (.if_icmp .ge off, 3)) (tgt : Nat) (ht : (pc : Int) + off = (tgt : Int)) (kt : y ≤ x → zZ k G N w tgt lv st) (kf : ¬ y ≤ x → zZ k G N w (pc + 3) lv st) : zZ k G N w pc lv (.int y :: .int x :: st) := by
  obtain ⟨p, l, e, R, s, m, args, below, meth, c0, Q, A, nL, cells, slots⟩ := k
  exact fun H locs ls hP hS hl => lv_icmp_ge ok.1 ok.2.1 d ht (fun q => kt q H locs ls hP hS hl) (fun q => kf q H locs ls hP hS hl)
theorem z_icmp_gt (ok : zOk k G N cc own fr lo) (d : decode cc pc = .ok (.if_icmp .gt off, 3)) (tgt : Nat) (ht : (pc : Int) + off = (tgt : Int)) (kt : y < x → zZ k G N w tgt lv st) (kf : ¬ y < x → zZ k G N w (pc + 3) lv st) : zZ k G N w pc lv (.int y :: .int x :: st) := by
  obtain ⟨p, l, e, R, s, m, args, below, meth, c0, Q, A, nL, cells, slots⟩ := k
  exact fun H locs ls hP hS hl => lv_icmp_gt ok.1 ok.2.1 d ht (fun q => kt q H locs ls hP hS hl) (fun q => kf q H locs ls hP hS hl)
theorem z_icmp_le (ok : zOk k G N cc own fr lo) (d : decode cc pc = .ok (.if_icmp .le off, 3)) (tgt : Nat) (ht : (pc : Int) + off = (tgt : Int)) (kt : x ≤ y → zZ k G N w tgt lv st) (kf : ¬ x ≤ y → zZ k G N w (pc + 3) lv st) : zZ k G N w pc lv (.int y :: .int x :: st) := by
  obtain ⟨p, l, e, R, s, m, args, below, meth, c0, Q, A, nL, cells, slots⟩ := k
  exact fun H locs ls hP hS hl => lv_icmp_le ok.1 ok.2.1 d ht (fun q => kt q H locs ls hP hS hl) (fun q => kf q H locs ls hP hS hl)
/-! the same of counts -/
theorem z_icmp_eq_n (ok : zOk k G N cc own fr lo) (d : decode cc pc = .ok (.if_icmp .eq off, 3)) (tgt : Nat) (ht : (pc : Int) + off = (tgt : Int)) (a b : Nat) (hx : x = nI a) (hy : y = nI b) (ha : a < 2147483648 ∧ b < 2147483648) (kt : a = b → zZ k G N w tgt lv st) (kf : ¬ a = b → zZ k G N w (pc + 3) lv st) : zZ k G N w pc lv (.int y :: .int x :: st) := by
  subst hx; subst hy
  exact z_icmp_eq ok d tgt ht (fun q => kt ((nI_eq ha.1 ha.2).mp q)) (fun q => kf (fun h => q ((nI_eq ha.1 ha.2).mpr h)))
theorem z_icmp_ne_n (ok : zOk k G N cc own fr lo) (d : decode cc pc = .ok (.if_icmp .ne off, 3)) (tgt : Nat) (ht : (pc : Int) + off = (tgt : Int)) (a b : Nat) (hx : x = nI a) (hy : y = nI b) (ha : a < 2147483648 ∧ b < 2147483648) (kt : ¬ a = b → zZ k G N w tgt lv st) (kf : a = b → zZ k G N w (pc + 3) lv st) : zZ k G N w pc lv (.int y :: .int x :: st) := by
  subst hx; subst hy
  exact z_icmp_ne ok d tgt ht (fun q => kt (fun h => q ((nI_eq ha.1 ha.2).mpr h))) (fun q => kf ((nI_eq ha.1 ha.2).mp q))
theorem z_icmp_lt_n (ok : zOk k G N cc own fr lo) (d : decode cc pc = .ok (.if_icmp .lt off, 3)) (tgt : Nat) (ht : (pc : Int) + off = (tgt : Int)) (a b : Nat) (hx : x = nI a) (hy : y = nI b) (ha : a < 2147483648 ∧ b < 2147483648) (kt : a < b → zZ k G N w tgt lv st) (kf : ¬ a < b → zZ k G N w (pc + 3) lv st) : zZ k G N w pc lv (.int y :: .int x :: st) := by
  subst hx; subst hy
  exact z_icmp_lt ok d tgt ht (fun q => kt ((nI_ltI ha.1 ha.2).mp q)) (fun q => kf (fun h => q ((nI_ltI ha.1 ha.2).mpr h)))
theorem z_icmp_ge_n (ok : zOk k G N cc own fr lo) (d : decode cc pc = .ok (.if_icmp .ge off, 3)) (tgt : Nat) (ht : (pc : Int) + off = (tgt : Int)) (a b : Nat) (hx : x = nI a) (hy : y = nI b) (ha : a < 2147483648 ∧ b < 2147483648) (kt : b ≤ a → zZ k G N w tgt lv st) (kf : ¬ b ≤ a → zZ k G N w (pc + 3) lv st) : zZ k G N w pc lv (.int y :: .int x :: st) := by
  subst hx; subst hy
  exact z_icmp_ge ok d tgt ht (fun q => kt ((nI_leI ha.2 ha.1).mp q)) (fun q => kf (fun h => q ((nI_leI ha.2 ha.1).mpr h)))
theorem z_icmp_gt_n (ok : zOk k G N cc own fr lo) (d : decode cc pc = .ok (.if_icmp .gt off, 3)) (tgt : Nat) (ht : (pc : Int) + off = (tgt : Int)) (a b : Nat) (hx : x = nI a) (hy : y = nI b) (ha : a < 2147483648 ∧ b < 2147483648) (kt : b < a → zZ k G N w tgt lv st) (kf : ¬ b < a → zZ k G N w (pc + 3) lv st) : zZ k G N w pc lv (.int y :: .int x :: st) := by
  subst hx; subst hy
  exact z_icmp_gt ok d tgt ht (fun q => kt ((nI_ltI ha.2 ha.1).mp q)) (fun q => kf (fun h => q ((nI_ltI ha.2 ha.1).mpr h)))
theorem z_icmp_le_n (ok : zOk k G N cc own fr lo) (d : decode cc pc = .ok (.if_icmp .le off, 3)) (tgt : Nat) (ht : (pc : Int) + off = (tgt : Int)) (a b : Nat) (hx : x = nI a) (hy : y = nI b) (ha : a < 2147483648 ∧ b < 2147483648) (kt : a ≤ b → zZ k G N w tgt lv st) (kf : ¬ a ≤ b → zZ k G N w (pc + 3) lv st) : zZ k G N w pc lv (.int y :: .int x :: st) := by
  subst hx; subst hy
  exact z_icmp_le ok d tgt ht (fun q => kt ((nI_leI ha.1 ha.2).mp q)) (fun q => kf (fun h => q ((nI_leI ha.1 ha.2).mpr h)))
theorem z_tableIn (ok : zOk k G N cc own fr lo) {df lo' hi : Int} {offs : Array Int} {len : Nat} (d : decode cc pc = .ok (.tableswitch df lo' hi offs, len)) (tgt : Nat) (off : Int) (h1 : ¬ x.toInt < lo' ∧ ¬ hi < x.toInt ∧ offs[(x.toInt - lo').toNat]? = some off ∧ (pc : Int) + off = (tgt : Int)) (kk : zZ k G N w tgt lv st) : zZ k G N w pc lv (.int x :: st) := by
  obtain ⟨p, l, e, R, s, m, args, below, meth, c0, Q, A, nL, cells, slots⟩ := k
  exact fun H locs ls hP hS hl => lv_tableIn ok.1 ok.2.1 d h1.1 h1.2.1 h1.2.2.1 h1.2.2.2 (kk H locs ls hP hS hl)
theorem z_tableOut (ok : zOk k G N cc own fr lo) {df lo' hi : Int} {offs : Array Int} {len : Nat} (d : decode cc pc = .ok (.tableswitch df lo' hi offs, len)) (tgt : Nat) (h1 : x.toInt < lo' ∨ hi < x.toInt) (ht : (pc : Int) + df = (tgt : Int)) (kk : zZ k G N w tgt lv st) : zZ k G N w pc lv (.int x :: st) := by
  obtain ⟨p, l, e, R, s, m, args, below, meth, c0, Q, A, nL, cells, slots⟩ := k
  exact fun H locs ls hP hS hl => lv_tableOut ok.1 ok.2.1 d h1 ht (kk H locs ls hP hS hl)
theorem z_lookup (ok : zOk k G N cc own fr lo) {df : Int} {ps : Array (Int × Int)} {len : Nat} (d : decode cc pc = .ok (.lookupswitch df ps, len)) (tgt : Nat) (off : Int) (hp : (ps.toList.zip (ps.toList.drop 1)).all (fun (a, next) => a.1 < next.1) = true) (ho : Op.lookupswitch.offset ps.toList df x.toInt = off) (ht : (pc : Int) + off = (tgt : Int)) (kk : zZ k G N w tgt lv st) : zZ k G N w pc lv (.int x :: st) := by
  obtain ⟨p, l, e, R, s, m, args, below, meth, c0, Q, A, nL, cells, slots⟩ := k
  exact fun H locs ls hP hS hl => lv_lookup ok.1 ok.2.1 d hp ho ht (kk H locs ls hP hS hl)
/-! cells -/
theorem z_get (ok : zOk k G N cc own fr lo) {ref C : String} {T : u_T} {n ci index : Nat} {fs : List Value} {v : Value} (d : decode cc pc = .ok (.getfield index, 3)) (i : Nat) (hi : i < N) (he : zE G w i = .inr (ci, fs)) (hc : vwCl[ci]? = some (C, T, n)) (hin : ∀ w ∈ u_ws C T n, w ∈ zTab) (j : Nat) (hj : j < n) (hw : Cond.fieldLink own index ref (T j).2.1 (T j).2.2.1 ∈ zTab) (hs : ref = (T j).1) (hv : fs[j]? = some v) (kk : zZ k G N w (pc + 3) lv (v :: st)) : zZ k G N w pc lv (.ref (zad G i) :: st) := by
  subst hs
  have hl := ok.word hw
  obtain ⟨p, l, e, R, s, m, args, below, meth, c0, Q, A, nL, cells, slots⟩ := k
  exact fun H locs ls hP hS hl' => va_get ok.1 ok.2.1 (Ts := zTab) (fun _ h => ok.word h) hin ok.2.2.1 ok.2.2.2.2.1.1 hP i (by rw [zws_get w hi, he]) hc j hj hl (fun _ h => h) hv d (kk H locs ls hP hS hl')
theorem z_getN (ok : zOk k G N cc own fr lo) {ref C host : String} {T : u_T} {n ci index : Nat} {fs : List Value} {v : Value} (d : decode cc pc = .ok (.getfield index, 3)) (i : Nat) (hi : i < N) (he : zE G w i = .inr (ci, fs)) (hc : vwCl[ci]? = some (C, T, n)) (hin : ∀ w ∈ u_ws C T n, w ∈ zTab) (j : Nat) (hj : j < n) (hw : Cond.fieldLinkNest own index ref (T j).2.1 (T j).2.2.1 host ∈ zTab) (hs : ref = (T j).1) (hv : fs[j]? = some v) (kk : zZ k G N w (pc + 3) lv (v :: st)) : zZ k G N w pc lv (.ref (zad G i) :: st) := by
  subst hs
  have hl := ok.word hw
  obtain ⟨p, l, e, R, s, m, args, below, meth, c0, Q, A, nL, cells, slots⟩ := k
  exact fun H locs ls hP hS hl' => va_getN ok.1 ok.2.1 (Ts := zTab) (fun _ h => ok.word h) hin ok.2.2.1 ok.2.2.2.2.1.1 hP i (by rw [zws_get w hi, he]) hc j hj hl (fun _ h => h) hv d (kk H locs ls hP hS hl')
/-- a field is written: the new world u has the cell as it is then, and all others -/
theorem z_put (ok : zOk k G N cc own fr lo) {ref C : String} {T : u_T} {n ci index : Nat} {fs : List Value} {v : Value} {ty : FieldType} (d : decode cc pc = .ok (.putfield index, 3)) (u : xW) (i : Nat) (hi : i < N) (he : zE G w i = .inr (ci, fs)) (hc : vwCl[ci]? = some (C, T, n)) (hin : ∀ w ∈ u_ws C T n, w ∈ zTab) (ty0 : Nat → FieldType) (hty : ∀ k, k < n → parseFieldDescriptor (T k).2.2.1 = some (ty0 k)) (hnm : ∀ a, a < n → ∀ b, b < n → a ≠ b → (T a).2.1 ≠ (T b).2.1) (j : Nat) (hj : j < n) (hw : Cond.fieldLink own index ref (T j).2.1 (T j).2.2.1 ∈ zTab) (hs : ref = (T j).1 ∧ (T j).2.2.2 = false) (hd : parseFieldDescriptor (T j).2.2.1 = some ty) (hn : narrow ty v = v) (hf : fits ty v = true) (hlen : j < fs.length)
    (hu : zE G u i = .inr (ci, fs.set j v)) (ho : ∀ q, q < N → q ≠ i → zE G u q = zE G w q) (kk : zZ k G N u (pc + 3) lv st) : zZ k G N w pc lv (v :: .ref (zad G i) :: st) := by
  obtain ⟨hs, hfin⟩ := hs
  subst hs
  have hl := ok.word hw
  obtain ⟨p, l, e, R, s, m, args, below, meth, c0, Q, A, nL, cells, slots⟩ := k
  intro H locs ls hP hS hl'
  refine va_put ok.1 ok.2.1 (Ts := zTab) (fun _ h => ok.word h) hin ty0 hty hnm ok.2.2.1 ok.2.2.2.2.1.1 hP (ok.2.2.2.2.2.1.D ok.2.2.2.2.2.2.2.2.2.2.2.1 w) hS i (by rw [zws_get w hi, he]) hc j hj hl (fun _ h => h) hfin hd hn hf hlen d (fun H1 locs1 hP1 hD1 hS1 => ?_)
  rw [zws_set hi hu ho] at hP1
  exact kk H1 locs1 ls hP1 hS1 hl'
theorem z_iald (ok : zOk k G N cc own fr lo) {v o : Nat} (d : decode cc pc = .ok (.iaload, 1)) (i : Nat) (hi : i < N) (he : zE G w i = zArr G.2.1 n v o w) (c : Nat) (hx : x = nI c) (hc : c < n) (hn : n < 2147483648) (kk : zZ k G N w (pc + 1) lv (.int (xg w v (o + c)) :: st)) : zZ k G N w pc lv (.int x :: .ref (zad G i) :: st) := by
  subst hx
  obtain ⟨p, l, e, R, s, m, args, below, meth, c0, Q, A, nL, cells, slots⟩ := k
  refine fun H locs ls hP hS hl' => va_iald (cA := G.2.1) (n := n) (f := fun j => if j < n then xg w v (o + j) else 0) ok.1 ok.2.1 ok.2.2.2.2.1.1 hP i 0 (by rw [zws_get w hi, he]; rfl) rfl (zin hc hn) d ?_
  rw [zcl (by omega), if_pos hc]
  exact kk H locs ls hP hS hl'
theorem z_cald (ok : zOk k G N cc own fr lo) {v : Nat} (d : decode cc pc = .ok (.caload, 1)) (i : Nat) (hi : i < N) (he : zE G w i = zArc G.2.2.1 n v w) (c : Nat) (hx : x = nI c) (hc : c < n) (hn : n < 2147483648) (kk : zZ k G N w (pc + 1) lv (.int (zc (xg w v c)) :: st)) : zZ k G N w pc lv (.int x :: .ref (zad G i) :: st) := by
  subst hx
  obtain ⟨p, l, e, R, s, m, args, below, meth, c0, Q, A, nL, cells, slots⟩ := k
  refine fun H locs ls hP hS hl' => va_cald (cA := G.2.2.1) (n := n) (f := fun j => if j < n then zc (xg w v j) else 0) ok.1 ok.2.1 ok.2.2.2.2.1.1 hP i 1 (by rw [zws_get w hi, he]; rfl) rfl (zin hc hn) d ?_
  rw [zcl (by omega), if_pos hc]
  exact kk H locs ls hP hS hl'
theorem z_iast (ok : zOk k G N cc own fr lo) {v o : Nat} (d : decode cc pc = .ok (.iastore, 1)) (i : Nat) (hi : i < N) (he : ∀ u, zE G u i = zArr G.2.1 n v o u) (c : Nat) (hx : x = nI c) (hc : c < n) (hn : n < 2147483648) (hw : zown v (o + c) = i) (kk : zZ k G N (xs w v (o + c) y) (pc + 1) lv st) : zZ k G N w pc lv (.int y :: .int x :: .ref (zad G i) :: st) := by
  subst hx
  obtain ⟨p, l, e, R, s, m, args, below, meth, c0, Q, A, nL, cells, slots⟩ := k
  intro H locs ls hP hS hl'
  refine va_iast (cA := G.2.1) (n := n) (f := fun j => if j < n then xg w v (o + j) else 0) ok.1 ok.2.1 ok.2.2.2.2.1.1 hP (ok.2.2.2.2.2.1.D ok.2.2.2.2.2.2.2.2.2.2.2.1 w) hS i 0 (by rw [zws_get w hi, he]; rfl) rfl (zin hc hn) d (fun H1 locs1 hP1 hD1 hS1 => ?_)
  rw [zcl (by omega), zws_set (u := xs w v (o + c) y) hi ((he _).trans (zArr_set hc)) (fun q hq hne => zE_xs (by have := ok.2.2.2.2.2.1.1; omega) (by rw [hw]; exact hne))] at hP1
  exact kk H1 locs1 ls hP1 hS1 hl'
theorem z_cast (ok : zOk k G N cc own fr lo) {v : Nat} (d : decode cc pc = .ok (.castore, 1)) (i : Nat) (hi : i < N) (he : ∀ u, zE G u i = zArc G.2.2.1 n v u) (c : Nat) (hx : x = nI c) (hc : c < n) (hn : n < 2147483648) (hw : zown v c = i) (kk : zZ k G N (xs w v c y) (pc + 1) lv st) : zZ k G N w pc lv (.int y :: .int x :: .ref (zad G i) :: st) := by
  subst hx
  obtain ⟨p, l, e, R, s, m, args, below, meth, c0, Q, A, nL, cells, slots⟩ := k
  intro H locs ls hP hS hl'
  refine va_cast (cA := G.2.2.1) (n := n) (f := fun j => if j < n then zc (xg w v j) else 0) ok.1 ok.2.1 ok.2.2.2.2.1.1 hP (ok.2.2.2.2.2.1.D ok.2.2.2.2.2.2.2.2.2.2.2.1 w) hS i 1 (by rw [zws_get w hi, he]; rfl) rfl (zin hc hn) d (fun H1 locs1 hP1 hD1 hS1 => ?_)
  rw [zcl (by omega)] at hP1
  have e1 := zws_set (G := G) (N := N) (u := xs w v c y) hi ((he _).trans (zArc_set hc)) (fun q hq hne => zE_xs (by have := ok.2.2.2.2.2.1.1; omega) (by rw [hw]; exact hne))
  rw [show (vp_nar .char y) = zc y from rfl, e1] at hP1
  exact kk H1 locs1 ls hP1 hS1 hl'
theorem z_alen (ok : zOk k G N cc own fr lo) {cA : ClassId} {t : Nat} {ty : FieldType} {q : vp_A} (d : decode cc pc = .ok (.arraylength, 1)) (i : Nat) (hi : i < N) (he : zE G w i = .inl (cA, q)) (ht : (zTys G)[t]? = some (cA, ty)) (hv : Int32.ofNat q.1 = x) (kk : zZ k G N w (pc + 1) lv (.int x :: st)) : zZ k G N w pc lv (.ref (zad G i) :: st) := by
  obtain ⟨p, l, e, R, s, m, args, below, meth, c0, Q, A, nL, cells, slots⟩ := k
  exact fun H locs ls hP hS hl' => va_alen ok.1 ok.2.1 ok.2.2.2.2.1.1 hP i t (by rw [zws_get w hi, he]) ht hv d (kk H locs ls hP hS hl')
/-- the history's row -/
theorem z_aald (ok : zOk k G N cc own fr lo) (d : decode cc pc = .ok (.aaload, 1)) (hi : 1 < N) (c : Nat) (hx : x = nI c) (hc : c < 5) (kk : zZ k G N w (pc + 1) lv (.ref (zad G (5 + 6 * zpg w c)) :: st)) : zZ k G N w pc lv (.int x :: .ref (zad G 1) :: st) := by
  subst hx
  obtain ⟨p, l, e, R, s, m, args, below, meth, c0, Q, A, nL, cells, slots⟩ := k
  refine fun H locs ls hP hS hl' => va_aldq (cA := G.2.2.2.1) (C := RX1) (n := 5) (f := fun j => if j < 5 then some (zad G (5 + 6 * zpg w j)) else none) ok.1 ok.2.1 ok.2.2.2.2.1.1 hP 1 2 (by rw [zws_get w hi, zE_1]; rfl) rfl (zin hc (by omega)) d ?_
  rw [zcl (by omega), if_pos hc]
  exact kk H locs ls hP hS hl'
theorem z_aast (ok : zOk k G N cc own fr lo) (d : decode cc pc = .ok (.aastore, 1)) (hi : 1 < N) (g : Nat) (hg : g < 7) (hgN : 5 + 6 * g < N) (c : Nat) (hx : x = nI c) (hc : c < 5) (kk : zZ k G N (xp w c g) (pc + 1) lv st) : zZ k G N w pc lv (.ref (zad G (5 + 6 * g)) :: .int x :: .ref (zad G 1) :: st) := by
  subst hx
  obtain ⟨p, l, e, R, s, m, args, below, meth, c0, Q, A, nL, cells, slots⟩ := k
  intro H locs ls hP hS hl'
  refine va_astq (cA := G.2.2.2.1) (r := (RX1, TX1, 15)) (n := 5) (f := fun j => if j < 5 then some (zad G (5 + 6 * zpg w j)) else none) ok.1 ok.2.1 ok.2.2.2.2.1.1 hP (ok.2.2.2.2.2.1.D ok.2.2.2.2.2.2.2.2.2.2.2.1 w) hS 1 2 (5 + 6 * g) 1 (by rw [zws_get w hi, zE_1]; rfl) rfl (by rw [zws_get w hgN, zE_game G w hg]; rfl) rfl (zin hc (by omega)) d (fun H1 locs1 hP1 hD1 hS1 => ?_)
  rw [zcl (by omega), zws_set (u := xp w c g) hi ?_ ?_] at hP1
  · exact kk H1 locs1 ls hP1 hS1 hl'
  · rw [zE_1]
    unfold zRefs
    have : (fun j => if j < 5 then some (zad G (5 + 6 * zpg (xp w c g) j)) else none) = va_up (fun j => if j < 5 then some (zad G (5 + 6 * zpg w j)) else none) c (some (zad G (5 + 6 * g))) := by
      funext j
      by_cases hj : j = c
      · subst hj
        simp [va_up, hc, zpg, xp, Nat.mod_eq_of_lt hg]
      · simp [va_up, hj, zpg, xp]
    rw [this]
  · intro q hq hne
    by_cases h0 : q = 0
    · subst h0
      have : ∀ j, 5 ≤ j → zpr (xp w c g) j = zpr w j := fun j hj => by
        have : j ≠ c := by omega
        simp [zpr, xp, this]
      rw [zE_0, zE_0, zOuter, zOuter, this 5 (by omega), this 6 (by omega)]
      rfl
    · have : ∀ (a : va_E) (b : va_E), (if q = 0 then a else if q = 1 then b else zE G w q) = zE G w q := fun a b => by rw [if_neg h0, if_neg hne]
      unfold zE
      simp only [h0, hne, if_false]
      rfl
/-! calls -/
theorem z_blind {G : zG} {N : Nat} {w : xW} {args : List Value} : FrameBlind (zPc G N w args) := fun a U g mk q => ⟨q.1, q.2.1, zK.moved (State.WarmedH.refl U) (fun _ _ _ => rfl) q.2.2⟩
theorem z_pre {s : State} {A : Nat → Prop} {H : Heap} {locs : List Loc} {args : List Value} (hK : zK G N s s.heap) (hS : va_S A s.heap H locs) (hAd : ∀ q, q < s.heap.size → A q → zA G N q) (hP : va_P G.1 vwCl (zws G N w) H) : ∀ U : State, U.heap = H → s.WarmedH U.vm → zPc G N w args args.toArray U := by
  intro U hU hW
  subst hU
  exact ⟨rfl, hP, zK.moved hW (fun a h1 h2 => hS.2.1 a h1 (fun h => h2 (hAd a h1 h))) hK⟩
/-- what a setting may change of the old cells lies in the world: true of a method's setting and of the law's -/
def zOld (k : zC) (G : zG) (N : Nat) : Prop := match k with
  | (_, _, _, _, s, _, _, _, _, _, _, A, _, _, _) => ∀ q, q < s.heap.size → A q → zA G N q
theorem zEnd.old {ret : Option FieldType} {r : Option Int32} (h : zEnd k G N ret r u) : zOld k G N := by
  obtain ⟨p, l, e, R, s, m, args, below, meth, c0, Q, A, nL, cells, slots⟩ := k
  intro q _ hq
  rw [h.2.1] at hq
  exact hq
theorem z_after {p : Program} {l : Launch} {e : Env} {R : Room} {s : State} {m : MethodId} {args : Array Value} {below : List Frame} {meth : Method} {c0 : Code} {Q : State → Prop} {A : Nat → Prop} {nL cells slots : Nat} {H : Heap} {locs : List Loc} {ls : Array Slot} {st0 rest : List Value} {r : Option Int32}
    (hg : zGeo G N) (hA : ∀ i, i < N → A (zad G i)) (hS : va_S A s.heap H locs) (hl : lv_has ls nL lv)
    (hr : va_Run p l e R s m args below meth c0 H locs cells slots 0 0 (F0 m pc ls st0) rest (fun st o t => (o = .returned (r.map Value.int) ∧ va_P G.1 vwCl (zws G N u) t.heap) ∧ va_F (zA G N) st t) (zA G N))
    (kk : zZ (p, l, e, R, s, m, args, below, meth, c0, Q, A, nL, cells, slots) G N u (pc + 3) lv ((r.map Value.int).toList ++ rest)) : W p l e R s m args below meth c0 H locs cells slots Q (F0 m pc ls st0) := by
  have hAz : ∀ q, zA G N q → A q := fun q ⟨i, hi, e⟩ => by rw [e]; exact hA i hi
  intro T hT X
  obtain ⟨v, st₀, t, T', L, h0, X', hL, e1, e2, ⟨⟨hv, hp⟩, hz, hk⟩, stp⟩ := hr T hT X
  cases hv
  rw [h0] at hz hk
  have hS' : va_S A s.heap T'.heap (locs ++ L) := ⟨Nat.le_trans hS.1 (by rw [e1]; exact hz), fun q h1 h2 => by rw [e1, hk q (Nat.lt_of_lt_of_le h1 hS.1) (fun z => h2 (hAz q z))]; exact hS.2.1 q h1 h2, fun q hq => by
      rcases List.mem_append.mp hq with h | h
      · exact hS.2.2 q h
      · exact hAz _ (hL q h)⟩
  obtain ⟨t2, a1, b1⟩ := kk T'.heap (locs ++ L) ls (by rw [e1]; exact hp) hS' hl T' rfl X'
  exact ⟨t2, stp t2 a1, b1⟩
theorem z_callV (ok : zOk k G N cc own fr lo) (old : zOld k G N) {y : MethodName} {cy : ByteArray} {maxL ny fy ly index ci : Nat} {ret : Option FieldType} {fs As rest st0 args : List Value} {r : Option Int32} {C : String} {T : u_T} {n : Nat} (d : decode cc pc = .ok (.invokevirtual index, 3)) (hM : zM y cy maxL ret fy ly G N args w r u) (hY : zY y cy maxL ret ny) (hw : Cond.methodLink own index y ∈ zTab) (i : Nat) (hi : i < N) (he : zE G w i = .inr (ci, fs)) (hc : vwCl[ci]? = some (C, T, n)) (hC : C = y.cls) (ha : args = .ref (zad G i) :: As) (hst : st0 = As.reverse ++ .ref (zad G i) :: rest) (hn : As.length = ny) (hroom : fy + 1 ≤ fr ∧ 8 + (maxL + 11) + ly ≤ lo) (hrest : (rest.map fun v => v.category).sum ≤ 8) (kk : zZ k G N u (pc + 3) lv ((r.map Value.int).toList ++ rest)) : zZ k G N w pc lv st0 := by
  subst hC; subst ha; subst hst
  obtain ⟨p, l, e, R, s, m, args, below, meth, c0, Q, A, nL, cells, slots⟩ := k
  intro H locs ls hP hS hl
  obtain ⟨y1, y2, y3, y4, y5, y6, y7, -⟩ := hY
  obtain ⟨hx, hb, hown, hml, hK, hg, -, rfl, rfl, hc1, hs1, hA, -⟩ := id ok
  refine z_after hg hA hS hl (va_runV (nL := nL) (Ts := zTab) (own := own) (C := y.cls) (b := zad G i) (As := As) (rest := rest) (n := ny) ⟨hx, hb, hml, hown, fun _ h => ok.word h⟩ (hM l) ⟨callB_of ny (Ts := zTab) (fun _ h => ok.word h) (fun w hw => ?_) rfl rfl rfl (ok.word y3) (ok.word hw) ⟨y5, y6, y7⟩ hroom, ok.word y1, ok.word y2⟩ ⟨z_blind, va_recv hK.1 hP (ci := ci) (q0 := i) hc (by rw [zws_get w hi, he]), z_pre hK hS old hP⟩ rfl hn hl.1 rfl (lv_room hrest) d ⟨hc1, hs1⟩) kk
  rw [List.mem_singleton.mp hw]
  exact ⟨y4, Or.inl rfl⟩
theorem z_callVN (ok : zOk k G N cc own fr lo) (old : zOld k G N) {y : MethodName} {cy : ByteArray} {maxL ny fy ly index ci : Nat} {ret : Option FieldType} {fs As rest st0 args : List Value} {r : Option Int32} {C host : String} {T : u_T} {n : Nat} (d : decode cc pc = .ok (.invokevirtual index, 3)) (hM : zM y cy maxL ret fy ly G N args w r u) (hY : zY y cy maxL ret ny) (hw : Cond.methodLinkNest own index y host ∈ zTab) (i : Nat) (hi : i < N) (he : zE G w i = .inr (ci, fs)) (hc : vwCl[ci]? = some (C, T, n)) (hC : C = y.cls) (ha : args = .ref (zad G i) :: As) (hst : st0 = As.reverse ++ .ref (zad G i) :: rest) (hn : As.length = ny) (hroom : fy + 1 ≤ fr ∧ 8 + (maxL + 11) + ly ≤ lo) (hrest : (rest.map fun v => v.category).sum ≤ 8) (kk : zZ k G N u (pc + 3) lv ((r.map Value.int).toList ++ rest)) : zZ k G N w pc lv st0 := by
  subst hC; subst ha; subst hst
  obtain ⟨p, l, e, R, s, m, args, below, meth, c0, Q, A, nL, cells, slots⟩ := k
  intro H locs ls hP hS hl
  obtain ⟨y1, y2, y3, y4, y5, y6, y7, -⟩ := hY
  obtain ⟨hx, hb, hown, hml, hK, hg, -, rfl, rfl, hc1, hs1, hA, -⟩ := id ok
  refine z_after hg hA hS hl (va_runVN (nL := nL) (Ts := zTab) (own := own) (host := host) (C := y.cls) (b := zad G i) (As := As) (rest := rest) (n := ny) ⟨hx, hb, hml, hown, fun _ h => ok.word h⟩ (hM l) ⟨va_cnB ny (Ts := zTab) (fun _ h => ok.word h) (fun w hw => ?_) rfl rfl rfl (va_Nw.of rfl (ok.word hw)) (ok.word y3) ⟨y5, y6, y7⟩ hroom, ok.word y1, ok.word y2⟩ ⟨z_blind, va_recv hK.1 hP (ci := ci) (q0 := i) hc (by rw [zws_get w hi, he]), z_pre hK hS old hP⟩ rfl hn hl.1 rfl (lv_room hrest) d ⟨hc1, hs1⟩) kk
  rw [List.mem_singleton.mp hw]
  exact ⟨y4, Or.inl rfl⟩
theorem z_callS (ok : zOk k G N cc own fr lo) (old : zOld k G N) {y : MethodName} {cy : ByteArray} {maxL ny fy ly index : Nat} {ret : Option FieldType} {rest st0 args : List Value} {r : Option Int32} (d : decode cc pc = .ok (.invokestatic index, 3)) (hM : zM y cy maxL ret fy ly G N args w r u) (hY : zYS y cy maxL ret ny) (hw : Cond.methodLink own index y ∈ zTab) (hst : st0 = args.reverse ++ rest) (hn : args.length = ny) (hroom : fy + 1 ≤ fr ∧ 8 + (maxL + 11) + ly ≤ lo) (hrest : (rest.map fun v => v.category).sum ≤ 8) (kk : zZ k G N u (pc + 3) lv ((r.map Value.int).toList ++ rest)) : zZ k G N w pc lv st0 := by
  subst hst
  obtain ⟨p, l, e, R, s, m, args', below, meth, c0, Q, A, nL, cells, slots⟩ := k
  intro H locs ls hP hS hl
  obtain ⟨y1, y3, y4, y5, y6, y7, -⟩ := hY
  obtain ⟨hx, hb, hown, hml, hK, hg, -, rfl, rfl, hc1, hs1, hA, -⟩ := id ok
  refine z_after hg hA hS hl (va_runS (nL := nL) (Ts := zTab) (own := own) (As := args) (rest := rest) (n := ny) ⟨hx, hb, hml, hown, fun _ h => ok.word h⟩ (hM l) ⟨callB_of ny (Ts := zTab) (fun _ h => ok.word h) (fun w hw => ?_) rfl rfl rfl (ok.word y3) (ok.word hw) ⟨y5, y6, y7⟩ hroom, ok.word y1⟩ ⟨z_blind, z_pre hK hS old hP⟩ rfl hn hl.1 rfl (lv_room hrest) d ⟨hc1, hs1⟩) kk
  rw [List.mem_singleton.mp hw]
  exact ⟨y4, Or.inl rfl⟩
theorem z_callSN (ok : zOk k G N cc own fr lo) (old : zOld k G N) {y : MethodName} {cy : ByteArray} {maxL ny fy ly index : Nat} {ret : Option FieldType} {rest st0 args : List Value} {r : Option Int32} {host : String} (d : decode cc pc = .ok (.invokestatic index, 3)) (hM : zM y cy maxL ret fy ly G N args w r u) (hY : zYS y cy maxL ret ny) (hw : Cond.methodLinkNest own index y host ∈ zTab) (hst : st0 = args.reverse ++ rest) (hn : args.length = ny) (hroom : fy + 1 ≤ fr ∧ 8 + (maxL + 11) + ly ≤ lo) (hrest : (rest.map fun v => v.category).sum ≤ 8) (kk : zZ k G N u (pc + 3) lv ((r.map Value.int).toList ++ rest)) : zZ k G N w pc lv st0 := by
  subst hst
  obtain ⟨p, l, e, R, s, m, args', below, meth, c0, Q, A, nL, cells, slots⟩ := k
  intro H locs ls hP hS hl
  obtain ⟨y1, y3, y4, y5, y6, y7, -⟩ := hY
  obtain ⟨hx, hb, hown, hml, hK, hg, -, rfl, rfl, hc1, hs1, hA, -⟩ := id ok
  refine z_after hg hA hS hl (va_runSN (nL := nL) (Ts := zTab) (own := own) (host := host) (As := args) (rest := rest) (n := ny) ⟨hx, hb, hml, hown, fun _ h => ok.word h⟩ (hM l) ⟨va_cnB ny (Ts := zTab) (fun _ h => ok.word h) (fun w hw => ?_) rfl rfl rfl (va_Nw.of rfl (ok.word hw)) (ok.word y3) ⟨y5, y6, y7⟩ hroom, ok.word y1, trivial⟩ ⟨z_blind, z_pre hK hS old hP⟩ rfl hn hl.1 rfl (lv_room hrest) d ⟨hc1, hs1⟩) kk
  rw [List.mem_singleton.mp hw]
  exact ⟨y4, Or.inl rfl⟩
/-! ends -/
theorem z_iret (ok : zOk k G N cc own fr lo) {ty : FieldType} {r : Int32} (hE : zEnd k G N (some ty) (some r) u) (d : decode cc pc = .ok (.ireturn, 1)) (hn : narrow ty (.int x) = .int x) (hr : x = r ∧ w = u) : zZ k G N w pc lv [.int x] := by
  obtain ⟨rfl, rfl⟩ := hr
  obtain ⟨p, l, e, R, s, m, args, below, meth, c0, Q, A, nL, cells, slots⟩ := k
  obtain ⟨h1, rfl, rfl, rfl, rfl⟩ := hE
  exact fun H locs ls hP hS hl => W.zret ok.1 ok.2.1 h1 hn (fun t ht _ => ⟨⟨rfl, by rw [ht]; exact hP⟩, hS.F ht⟩) hS.2.2 d ok.2.2.2.2.2.2.1
theorem z_vret (ok : zOk k G N cc own fr lo) (hE : zEnd k G N none none u) (d : decode cc pc = .ok (.return_, 1)) (hr : w = u) : zZ k G N w pc lv [] := by
  subst hr
  obtain ⟨p, l, e, R, s, m, args, below, meth, c0, Q, A, nL, cells, slots⟩ := k
  obtain ⟨h1, rfl, rfl, rfl, rfl⟩ := hE
  exact fun H locs ls hP hS hl => W.vret ok.1 ok.2.1 h1 (fun t ht _ => ⟨⟨rfl, by rw [ht]; exact hP⟩, hS.F ht⟩) hS.2.2 d ok.2.2.2.2.2.2.1
/-! Math, arraycopy, static rows -/
theorem z_max (ok : zOk k G N cc own fr lo) {index : Nat} (d : decode cc pc = .ok (.invokestatic index, 3)) (h1 : Cond.methodLink own index Lib.Math.max.name ∈ zTab) (h2 : Cond.static Lib.Math.max.name ∈ zTab) (h3 : Cond.initialized RJ9 ∈ zTab) (h4 : Cond.code Lib.Math.max.name Lib.Math.max.code 2 (some .int) ∈ zTab) (hroom : 1 ≤ fr ∧ (st.map fun v => v.category).sum + 13 ≤ lo) (kk : zZ k G N w (pc + 3) lv (.int (if x < y then y else x) :: st)) : zZ k G N w pc lv (.int y :: .int x :: st) := by
  have w1 := ok.word h1; have w2 := ok.word h2; have w3 := ok.word h3; have w4 := ok.word h4
  obtain ⟨p, l, e, R, s, m, args, below, meth, c0, Q, A, nL, cells, slots⟩ := k
  obtain ⟨hx, hb, hown, hml, hK, hg, -, rfl, rfl, hc1, hs1, hA, -⟩ := id ok
  exact fun H locs ls hP hS hl => va_mmax hx hb (by rw [hl.1]; exact hml) hown w1 w2 w3 w4 hroom.1 hroom.2 hc1 hs1 d (kk H locs ls hP hS hl)
theorem z_min (ok : zOk k G N cc own fr lo) {index : Nat} (d : decode cc pc = .ok (.invokestatic index, 3)) (h1 : Cond.methodLink own index Lib.Math.min.name ∈ zTab) (h2 : Cond.static Lib.Math.min.name ∈ zTab) (h3 : Cond.initialized RJ9 ∈ zTab) (h4 : Cond.code Lib.Math.min.name Lib.Math.min.code 2 (some .int) ∈ zTab) (hroom : 1 ≤ fr ∧ (st.map fun v => v.category).sum + 13 ≤ lo) (kk : zZ k G N w (pc + 3) lv (.int (if y < x then y else x) :: st)) : zZ k G N w pc lv (.int y :: .int x :: st) := by
  have w1 := ok.word h1; have w2 := ok.word h2; have w3 := ok.word h3; have w4 := ok.word h4
  obtain ⟨p, l, e, R, s, m, args, below, meth, c0, Q, A, nL, cells, slots⟩ := k
  obtain ⟨hx, hb, hown, hml, hK, hg, -, rfl, rfl, hc1, hs1, hA, -⟩ := id ok
  exact fun H locs ls hP hS hl => va_mmin hx hb (by rw [hl.1]; exact hml) hown w1 w2 w3 w4 hroom.1 hroom.2 hc1 hs1 d (kk H locs ls hP hS hl)
theorem z_abs (ok : zOk k G N cc own fr lo) {index : Nat} (d : decode cc pc = .ok (.invokestatic index, 3)) (h1 : Cond.methodLink own index Lib.Math.abs.name ∈ zTab) (h2 : Cond.static Lib.Math.abs.name ∈ zTab) (h3 : Cond.initialized RJ9 ∈ zTab) (h4 : Cond.code Lib.Math.abs.name Lib.Math.abs.code 1 (some .int) ∈ zTab) (hroom : 1 ≤ fr ∧ (st.map fun v => v.category).sum + 13 ≤ lo) (kk : zZ k G N w (pc + 3) lv (.int (if 0 ≤ x then x else 0 - x) :: st)) : zZ k G N w pc lv (.int x :: st) := by
  have w1 := ok.word h1; have w2 := ok.word h2; have w3 := ok.word h3; have w4 := ok.word h4
  obtain ⟨p, l, e, R, s, m, args, below, meth, c0, Q, A, nL, cells, slots⟩ := k
  obtain ⟨hx, hb, hown, hml, hK, hg, -, rfl, rfl, hc1, hs1, hA, -⟩ := id ok
  exact fun H locs ls hP hS hl => va_mabs hx hb (by rw [hl.1]; exact hml) hown w1 w2 w3 w4 hroom.1 hroom.2 hc1 hs1 d (kk H locs ls hP hS hl)
/-- a static row of the class, as the setting's start has it -/
def zSr (k : zC) (G : zG) (N : Nat) (nm : String) (t : Nat) (f : Nat → Int32) : Prop := match k with
  | (_, _, _, _, s, _, _, _, _, _, _, _, _, _, _) => va_Z RX2 nm "[I" (.ref t) (zA G N) s s.heap ∧ va_T .int t 6 (fun j => .int (f j)) (zA G N) s s.heap
theorem zSr_0 (ok : zOk k G N cc own fr lo) : ∃ t, zSr k G N "FIRST_ROW" t zRow0 := by
  obtain ⟨p, l, e, R, s, m, args, below, meth, c0, Q, A, nL, cells, slots⟩ := k
  exact ok.2.2.2.2.1.2.2.1
theorem zSr_1 (ok : zOk k G N cc own fr lo) : ∃ t, zSr k G N "FIRST_TOWERS" t zRow1 := by
  obtain ⟨p, l, e, R, s, m, args, below, meth, c0, Q, A, nL, cells, slots⟩ := k
  exact ok.2.2.2.2.1.2.2.2
theorem z_gets (ok : zOk k G N cc own fr lo) {ret : Option FieldType} {r : Option Int32} (hE : zEnd k G N ret r u) {index t : Nat} {nm host : String} {f : Nat → Int32} (d : decode cc pc = .ok (.getstatic index, 3)) (hs : zSr k G N nm t f) (h1 : Cond.fieldLinkNest own index RX2 nm "[I" host ∈ zTab) (kk : zZ k G N w (pc + 3) lv (.ref t :: st)) : zZ k G N w pc lv st := by
  have w1 := ok.word h1
  obtain ⟨p, l, e, R, s, m, args, below, meth, c0, Q, A, nL, cells, slots⟩ := k
  obtain ⟨-, rfl, -⟩ := hE
  exact fun H locs ls hP hS hl => va_getsN ok.1 ok.2.1 hs.1 hS ok.2.2.1 w1 (fun _ h => h) d (kk H locs ls hP hS hl)
theorem z_tald (ok : zOk k G N cc own fr lo) {ret : Option FieldType} {r : Option Int32} (hE : zEnd k G N ret r u) {t : Nat} {nm : String} {f : Nat → Int32} (d : decode cc pc = .ok (.iaload, 1)) (hs : zSr k G N nm t f) (c : Nat) (hx : x = nI c) (hc : c < 6) (kk : zZ k G N w (pc + 1) lv (.int (f c) :: st)) : zZ k G N w pc lv (.int x :: .ref t :: st) := by
  subst hx
  obtain ⟨p, l, e, R, s, m, args, below, meth, c0, Q, A, nL, cells, slots⟩ := k
  obtain ⟨-, rfl, -⟩ := hE
  exact fun H locs ls hP hS hl => va_ti ok.1 ok.2.1 hs.2 hS (zin hc (by omega)) (by rw [zcl (by omega)]) d (kk H locs ls hP hS hl)
theorem z_tlen (ok : zOk k G N cc own fr lo) {ret : Option FieldType} {r : Option Int32} (hE : zEnd k G N ret r u) {t : Nat} {nm : String} {f : Nat → Int32} (d : decode cc pc = .ok (.arraylength, 1)) (hs : zSr k G N nm t f) (kk : zZ k G N w (pc + 1) lv (.int 6 :: st)) : zZ k G N w pc lv (.ref t :: st) := by
  obtain ⟨p, l, e, R, s, m, args, below, meth, c0, Q, A, nL, cells, slots⟩ := k
  obtain ⟨-, rfl, -⟩ := hE
  exact fun H locs ls hP hS hl => va_tlen ok.1 ok.2.1 hs.2 hS rfl d (kk H locs ls hP hS hl)
/-- System.arraycopy of whole rows of n numbers: the row of i0 comes into the row of i -/
theorem z_copy (ok : zOk k G N cc own fr lo) {index : Nat} {v o v0 o0 : Nat} (d : decode cc pc = .ok (.invokestatic index, 3)) (h1 : Cond.methodLink own index arraycopyName ∈ zTab) (h2 : Cond.native arraycopyName ∈ zTab) (h3 : Cond.static arraycopyName ∈ zTab) (h4 : Cond.initialized RJ10 ∈ zTab) (i0 i : Nat) (hi0 : i0 < N) (hi : i < N) (he0 : zE G w i0 = zArr G.2.1 n v0 o0 w) (he : ∀ u, zE G u i = zArr G.2.1 n v o u) (hx : x = nI n) (hn : n < 2147483648) (hu : ∀ a b, xg u a b = if a = v ∧ o ≤ b ∧ b < o + n then xg w v0 (o0 + (b - o)) else xg w a b) (hu2 : u.2 = w.2) (hw : ∀ b, o ≤ b → b < o + n → zown v b = i)
    (hroom : 1 ≤ fr ∧ (st.map fun v => v.category).sum + (nativeFrameWords "java/lang/System" "arraycopy" 5 + 11) ≤ lo) (kk : zZ k G N u (pc + 3) lv st) : zZ k G N w pc lv (.int x :: .int 0 :: .ref (zad G i) :: .int 0 :: .ref (zad G i0) :: st) := by
  subst hx
  have w1 := ok.word h1; have w2 := ok.word h2; have w3 := ok.word h3; have w4 := ok.word h4
  obtain ⟨p, l, e, R, s, m, args, below, meth, c0, Q, A, nL, cells, slots⟩ := k
  obtain ⟨hx, hb, hown, hml, hK, hg, -, rfl, rfl, hc1, hs1, hA, -⟩ := id ok
  intro H locs ls hP hS hl
  refine va_copyi (c0 := G.2.1) (c1 := G.2.1) (n0 := n) (n1 := n) (ty := .int) (f := fun j => if j < n then xg w v0 (o0 + j) else 0) (g := fun j => if j < n then xg w v (o + j) else 0) hx hb (by rw [hl.1]; exact hml) hown w1 w2 w3 w4 hK.1 hP (hg.D hA w) hS i0 i 0 0 (by rw [zws_get w hi0, he0]; rfl) (by rw [zws_get w hi, he]; rfl) rfl rfl rfl (by decide) (by decide) (nI_nlt (Nat.zero_le _) hn) ?_ ?_ (fun _ _ => rfl) hroom.1 hroom.2 d (fun H1 locs1 hP1 hD1 hS1 => ?_)
  · rw [zcl hn]; show 0 + n ≤ n; omega
  · rw [zcl hn]; show 0 + n ≤ n; omega
  · rw [zcl hn] at hP1
    have e1 : va_cpy (fun j => if j < n then xg w v0 (o0 + j) else 0) (fun j => if j < n then xg w v (o + j) else 0) (0 : Int32).toNatClampNeg (0 : Int32).toNatClampNeg n = (fun j => if j < n then xg u v (o + j) else 0) := by
      have z0 : (0 : Int32).toNatClampNeg = 0 := rfl
      funext j
      simp only [va_cpy, z0]
      by_cases hj : j < n
      · simp only [Nat.zero_le, true_and, Nat.zero_add, Nat.sub_zero, hj, if_true]
        rw [hu, if_pos ⟨rfl, by omega, by omega⟩, show o + j - o = j by omega]
      · simp only [Nat.zero_le, true_and, Nat.zero_add, hj, if_false]
    rw [e1] at hP1
    have e2 := zws_set (G := G) (N := N) (w := w) (u := u) hi (he u) (fun q hq hne => zE_congr (by have := hg.1; omega) hu2 fun a b hab => by
      rw [hu]
      by_cases hc : a = v ∧ o ≤ b ∧ b < o + n
      · exact absurd (hab.symm.trans (by rw [hc.1]; exact hw b hc.2.1 hc.2.2)) hne
      · rw [if_neg hc])
    have hP2 : va_P G.1 vwCl ((zws G N w).set i (zad G i, zArr G.2.1 n v o u)) H1 := hP1
    rw [e2] at hP2
    exact kk H1 locs1 ls hP2 hS1 hl
end ZR
/-! naming what is worked out on the way -/
def zlet {α β : Type} (e : α) (f : α → β) : β := f e
theorem zlet_open {α β : Type} {e : α} {f : α → β} {T : β} (h : zlet e f = T) : ∃ x, x = e ∧ f x = T := ⟨e, rfl, h⟩
theorem zcell {x : Int32} {n : Nat} (h : vp_in x n) (hn : n < 2147483648) : ∃ c, c < n ∧ x = nI c ∧ (nI c).toNatClampNeg = c := by
  obtain ⟨c, h1, h2⟩ := vp_in_of h hn
  exact ⟨c, h1, h2, zcl (by omega)⟩
end
section
theorem zE_xp5 {G : zG} {w : xW} {i j k : Nat} (hi : i < 54) (h0 : i ≠ 0) (hj : 5 ≤ j) : zE G (xp w j k) i = zE G w i := by
  have h : zE G (xp w j k) i = zE G (w.1, w.2) i := by
    unfold zE
    rw [if_neg h0, if_neg h0]
    have : zRefs G (xp w j k) = zRefs G (w.1, w.2) := by
      unfold zRefs
      have : (fun q => if q < 5 then some (zad G (5 + 6 * zpg (xp w j k) q)) else none) = (fun q => if q < 5 then some (zad G (5 + 6 * zpg (w.1, w.2) q)) else none) := by
        funext q
        by_cases hq : q < 5
        · have : q ≠ j := by omega
          simp [hq, zpg, xp, this]
        · simp [hq]
      rw [this]
    rw [this]
    rfl
  exact h
/-! rows for each field and array of the world, by name -/
section ZF
variable {k : zC} {G : zG} {N : Nat} {cc : ByteArray} {own : String} {fr lo : Nat} {w u : xW} {pc : Nat} {lv : List (Nat × Value)} {st : List Value} {x y : Int32}
theorem z_get_X0_sides (ok : zOk k G N cc own fr lo) {index : Nat} (d : decode cc pc = .ok (.getfield index, 3)) (g : Nat) (hgi : g < 7) (hN : 47 ≤ N) (hw : Cond.fieldLink own index "ClockworkChess$Board" "sides" "[I" ∈ zTab) (kk : zZ k G N w (pc + 3) lv (.ref (zad G (7 + 6 * g)) :: st)) : zZ k G N w pc lv (.ref (zad G (6 + 6 * g)) :: st) :=
  z_get ok d (6 + 6 * g) (by omega) (zE_board G w hgi) rfl zu_X0 0 (by decide) hw rfl rfl kk
theorem z_getN_X0_sides (ok : zOk k G N cc own fr lo) {index : Nat} {host : String} (d : decode cc pc = .ok (.getfield index, 3)) (g : Nat) (hgi : g < 7) (hN : 47 ≤ N) (hw : Cond.fieldLinkNest own index "ClockworkChess$Board" "sides" "[I" host ∈ zTab) (kk : zZ k G N w (pc + 3) lv (.ref (zad G (7 + 6 * g)) :: st)) : zZ k G N w pc lv (.ref (zad G (6 + 6 * g)) :: st) :=
  z_getN ok d (6 + 6 * g) (by omega) (zE_board G w hgi) rfl zu_X0 0 (by decide) hw rfl rfl kk
theorem z_get_X0_kinds (ok : zOk k G N cc own fr lo) {index : Nat} (d : decode cc pc = .ok (.getfield index, 3)) (g : Nat) (hgi : g < 7) (hN : 47 ≤ N) (hw : Cond.fieldLink own index "ClockworkChess$Board" "kinds" "[I" ∈ zTab) (kk : zZ k G N w (pc + 3) lv (.ref (zad G (8 + 6 * g)) :: st)) : zZ k G N w pc lv (.ref (zad G (6 + 6 * g)) :: st) :=
  z_get ok d (6 + 6 * g) (by omega) (zE_board G w hgi) rfl zu_X0 1 (by decide) hw rfl rfl kk
theorem z_getN_X0_kinds (ok : zOk k G N cc own fr lo) {index : Nat} {host : String} (d : decode cc pc = .ok (.getfield index, 3)) (g : Nat) (hgi : g < 7) (hN : 47 ≤ N) (hw : Cond.fieldLinkNest own index "ClockworkChess$Board" "kinds" "[I" host ∈ zTab) (kk : zZ k G N w (pc + 3) lv (.ref (zad G (8 + 6 * g)) :: st)) : zZ k G N w pc lv (.ref (zad G (6 + 6 * g)) :: st) :=
  z_getN ok d (6 + 6 * g) (by omega) (zE_board G w hgi) rfl zu_X0 1 (by decide) hw rfl rfl kk
theorem z_get_X0_springs (ok : zOk k G N cc own fr lo) {index : Nat} (d : decode cc pc = .ok (.getfield index, 3)) (g : Nat) (hgi : g < 7) (hN : 47 ≤ N) (hw : Cond.fieldLink own index "ClockworkChess$Board" "springs" "[I" ∈ zTab) (kk : zZ k G N w (pc + 3) lv (.ref (zad G (9 + 6 * g)) :: st)) : zZ k G N w pc lv (.ref (zad G (6 + 6 * g)) :: st) :=
  z_get ok d (6 + 6 * g) (by omega) (zE_board G w hgi) rfl zu_X0 2 (by decide) hw rfl rfl kk
theorem z_getN_X0_springs (ok : zOk k G N cc own fr lo) {index : Nat} {host : String} (d : decode cc pc = .ok (.getfield index, 3)) (g : Nat) (hgi : g < 7) (hN : 47 ≤ N) (hw : Cond.fieldLinkNest own index "ClockworkChess$Board" "springs" "[I" host ∈ zTab) (kk : zZ k G N w (pc + 3) lv (.ref (zad G (9 + 6 * g)) :: st)) : zZ k G N w pc lv (.ref (zad G (6 + 6 * g)) :: st) :=
  z_getN ok d (6 + 6 * g) (by omega) (zE_board G w hgi) rfl zu_X0 2 (by decide) hw rfl rfl kk
theorem z_get_X0_towers (ok : zOk k G N cc own fr lo) {index : Nat} (d : decode cc pc = .ok (.getfield index, 3)) (g : Nat) (hgi : g < 7) (hN : 47 ≤ N) (hw : Cond.fieldLink own index "ClockworkChess$Board" "towers" "[I" ∈ zTab) (kk : zZ k G N w (pc + 3) lv (.ref (zad G (10 + 6 * g)) :: st)) : zZ k G N w pc lv (.ref (zad G (6 + 6 * g)) :: st) :=
  z_get ok d (6 + 6 * g) (by omega) (zE_board G w hgi) rfl zu_X0 3 (by decide) hw rfl rfl kk
theorem z_getN_X0_towers (ok : zOk k G N cc own fr lo) {index : Nat} {host : String} (d : decode cc pc = .ok (.getfield index, 3)) (g : Nat) (hgi : g < 7) (hN : 47 ≤ N) (hw : Cond.fieldLinkNest own index "ClockworkChess$Board" "towers" "[I" host ∈ zTab) (kk : zZ k G N w (pc + 3) lv (.ref (zad G (10 + 6 * g)) :: st)) : zZ k G N w pc lv (.ref (zad G (6 + 6 * g)) :: st) :=
  z_getN ok d (6 + 6 * g) (by omega) (zE_board G w hgi) rfl zu_X0 3 (by decide) hw rfl rfl kk
theorem z_get_X1_board (ok : zOk k G N cc own fr lo) {index : Nat} (d : decode cc pc = .ok (.getfield index, 3)) (g : Nat) (hgi : g < 7) (hN : 47 ≤ N) (hw : Cond.fieldLink own index "ClockworkChess$Game" "board" "LClockworkChess$Board;" ∈ zTab) (kk : zZ k G N w (pc + 3) lv (.ref (zad G (6 + 6 * g)) :: st)) : zZ k G N w pc lv (.ref (zad G (5 + 6 * g)) :: st) :=
  z_get ok d (5 + 6 * g) (by omega) (zE_game G w hgi) rfl zu_X1 0 (by decide) hw rfl rfl kk
theorem z_getN_X1_board (ok : zOk k G N cc own fr lo) {index : Nat} {host : String} (d : decode cc pc = .ok (.getfield index, 3)) (g : Nat) (hgi : g < 7) (hN : 47 ≤ N) (hw : Cond.fieldLinkNest own index "ClockworkChess$Game" "board" "LClockworkChess$Board;" host ∈ zTab) (kk : zZ k G N w (pc + 3) lv (.ref (zad G (6 + 6 * g)) :: st)) : zZ k G N w pc lv (.ref (zad G (5 + 6 * g)) :: st) :=
  z_getN ok d (5 + 6 * g) (by omega) (zE_game G w hgi) rfl zu_X1 0 (by decide) hw rfl rfl kk
theorem z_get_X1_limit (ok : zOk k G N cc own fr lo) {index : Nat} (d : decode cc pc = .ok (.getfield index, 3)) (g : Nat) (hgi : g < 7) (hN : 47 ≤ N) (hw : Cond.fieldLink own index "ClockworkChess$Game" "limit" "I" ∈ zTab) (kk : zZ k G N w (pc + 3) lv (.int (xg w g 149) :: st)) : zZ k G N w pc lv (.ref (zad G (5 + 6 * g)) :: st) :=
  z_get ok d (5 + 6 * g) (by omega) (zE_game G w hgi) rfl zu_X1 1 (by decide) hw rfl rfl kk
theorem z_getN_X1_limit (ok : zOk k G N cc own fr lo) {index : Nat} {host : String} (d : decode cc pc = .ok (.getfield index, 3)) (g : Nat) (hgi : g < 7) (hN : 47 ≤ N) (hw : Cond.fieldLinkNest own index "ClockworkChess$Game" "limit" "I" host ∈ zTab) (kk : zZ k G N w (pc + 3) lv (.int (xg w g 149) :: st)) : zZ k G N w pc lv (.ref (zad G (5 + 6 * g)) :: st) :=
  z_getN ok d (5 + 6 * g) (by omega) (zE_game G w hgi) rfl zu_X1 1 (by decide) hw rfl rfl kk
theorem z_get_X1_bonus (ok : zOk k G N cc own fr lo) {index : Nat} (d : decode cc pc = .ok (.getfield index, 3)) (g : Nat) (hgi : g < 7) (hN : 47 ≤ N) (hw : Cond.fieldLink own index "ClockworkChess$Game" "bonus" "I" ∈ zTab) (kk : zZ k G N w (pc + 3) lv (.int (xg w g 150) :: st)) : zZ k G N w pc lv (.ref (zad G (5 + 6 * g)) :: st) :=
  z_get ok d (5 + 6 * g) (by omega) (zE_game G w hgi) rfl zu_X1 2 (by decide) hw rfl rfl kk
theorem z_getN_X1_bonus (ok : zOk k G N cc own fr lo) {index : Nat} {host : String} (d : decode cc pc = .ok (.getfield index, 3)) (g : Nat) (hgi : g < 7) (hN : 47 ≤ N) (hw : Cond.fieldLinkNest own index "ClockworkChess$Game" "bonus" "I" host ∈ zTab) (kk : zZ k G N w (pc + 3) lv (.int (xg w g 150) :: st)) : zZ k G N w pc lv (.ref (zad G (5 + 6 * g)) :: st) :=
  z_getN ok d (5 + 6 * g) (by omega) (zE_game G w hgi) rfl zu_X1 2 (by decide) hw rfl rfl kk
theorem z_get_X1_winding (ok : zOk k G N cc own fr lo) {index : Nat} (d : decode cc pc = .ok (.getfield index, 3)) (g : Nat) (hgi : g < 7) (hN : 47 ≤ N) (hw : Cond.fieldLink own index "ClockworkChess$Game" "winding" "I" ∈ zTab) (kk : zZ k G N w (pc + 3) lv (.int (xg w g 151) :: st)) : zZ k G N w pc lv (.ref (zad G (5 + 6 * g)) :: st) :=
  z_get ok d (5 + 6 * g) (by omega) (zE_game G w hgi) rfl zu_X1 3 (by decide) hw rfl rfl kk
theorem z_getN_X1_winding (ok : zOk k G N cc own fr lo) {index : Nat} {host : String} (d : decode cc pc = .ok (.getfield index, 3)) (g : Nat) (hgi : g < 7) (hN : 47 ≤ N) (hw : Cond.fieldLinkNest own index "ClockworkChess$Game" "winding" "I" host ∈ zTab) (kk : zZ k G N w (pc + 3) lv (.int (xg w g 151) :: st)) : zZ k G N w pc lv (.ref (zad G (5 + 6 * g)) :: st) :=
  z_getN ok d (5 + 6 * g) (by omega) (zE_game G w hgi) rfl zu_X1 3 (by decide) hw rfl rfl kk
theorem z_get_X1_mover (ok : zOk k G N cc own fr lo) {index : Nat} (d : decode cc pc = .ok (.getfield index, 3)) (g : Nat) (hgi : g < 7) (hN : 47 ≤ N) (hw : Cond.fieldLink own index "ClockworkChess$Game" "mover" "I" ∈ zTab) (kk : zZ k G N w (pc + 3) lv (.int (xg w g 144) :: st)) : zZ k G N w pc lv (.ref (zad G (5 + 6 * g)) :: st) :=
  z_get ok d (5 + 6 * g) (by omega) (zE_game G w hgi) rfl zu_X1 4 (by decide) hw rfl rfl kk
theorem z_getN_X1_mover (ok : zOk k G N cc own fr lo) {index : Nat} {host : String} (d : decode cc pc = .ok (.getfield index, 3)) (g : Nat) (hgi : g < 7) (hN : 47 ≤ N) (hw : Cond.fieldLinkNest own index "ClockworkChess$Game" "mover" "I" host ∈ zTab) (kk : zZ k G N w (pc + 3) lv (.int (xg w g 144) :: st)) : zZ k G N w pc lv (.ref (zad G (5 + 6 * g)) :: st) :=
  z_getN ok d (5 + 6 * g) (by omega) (zE_game G w hgi) rfl zu_X1 4 (by decide) hw rfl rfl kk
theorem z_get_X1_ending (ok : zOk k G N cc own fr lo) {index : Nat} (d : decode cc pc = .ok (.getfield index, 3)) (g : Nat) (hgi : g < 7) (hN : 47 ≤ N) (hw : Cond.fieldLink own index "ClockworkChess$Game" "ending" "I" ∈ zTab) (kk : zZ k G N w (pc + 3) lv (.int (xg w g 145) :: st)) : zZ k G N w pc lv (.ref (zad G (5 + 6 * g)) :: st) :=
  z_get ok d (5 + 6 * g) (by omega) (zE_game G w hgi) rfl zu_X1 5 (by decide) hw rfl rfl kk
theorem z_getN_X1_ending (ok : zOk k G N cc own fr lo) {index : Nat} {host : String} (d : decode cc pc = .ok (.getfield index, 3)) (g : Nat) (hgi : g < 7) (hN : 47 ≤ N) (hw : Cond.fieldLinkNest own index "ClockworkChess$Game" "ending" "I" host ∈ zTab) (kk : zZ k G N w (pc + 3) lv (.int (xg w g 145) :: st)) : zZ k G N w pc lv (.ref (zad G (5 + 6 * g)) :: st) :=
  z_getN ok d (5 + 6 * g) (by omega) (zE_game G w hgi) rfl zu_X1 5 (by decide) hw rfl rfl kk
theorem z_get_X1_winner (ok : zOk k G N cc own fr lo) {index : Nat} (d : decode cc pc = .ok (.getfield index, 3)) (g : Nat) (hgi : g < 7) (hN : 47 ≤ N) (hw : Cond.fieldLink own index "ClockworkChess$Game" "winner" "I" ∈ zTab) (kk : zZ k G N w (pc + 3) lv (.int (xg w g 146) :: st)) : zZ k G N w pc lv (.ref (zad G (5 + 6 * g)) :: st) :=
  z_get ok d (5 + 6 * g) (by omega) (zE_game G w hgi) rfl zu_X1 6 (by decide) hw rfl rfl kk
theorem z_getN_X1_winner (ok : zOk k G N cc own fr lo) {index : Nat} {host : String} (d : decode cc pc = .ok (.getfield index, 3)) (g : Nat) (hgi : g < 7) (hN : 47 ≤ N) (hw : Cond.fieldLinkNest own index "ClockworkChess$Game" "winner" "I" host ∈ zTab) (kk : zZ k G N w (pc + 3) lv (.int (xg w g 146) :: st)) : zZ k G N w pc lv (.ref (zad G (5 + 6 * g)) :: st) :=
  z_getN ok d (5 + 6 * g) (by omega) (zE_game G w hgi) rfl zu_X1 6 (by decide) hw rfl rfl kk
theorem z_get_X1_turnsMade (ok : zOk k G N cc own fr lo) {index : Nat} (d : decode cc pc = .ok (.getfield index, 3)) (g : Nat) (hgi : g < 7) (hN : 47 ≤ N) (hw : Cond.fieldLink own index "ClockworkChess$Game" "turnsMade" "I" ∈ zTab) (kk : zZ k G N w (pc + 3) lv (.int (xg w g 147) :: st)) : zZ k G N w pc lv (.ref (zad G (5 + 6 * g)) :: st) :=
  z_get ok d (5 + 6 * g) (by omega) (zE_game G w hgi) rfl zu_X1 7 (by decide) hw rfl rfl kk
theorem z_getN_X1_turnsMade (ok : zOk k G N cc own fr lo) {index : Nat} {host : String} (d : decode cc pc = .ok (.getfield index, 3)) (g : Nat) (hgi : g < 7) (hN : 47 ≤ N) (hw : Cond.fieldLinkNest own index "ClockworkChess$Game" "turnsMade" "I" host ∈ zTab) (kk : zZ k G N w (pc + 3) lv (.int (xg w g 147) :: st)) : zZ k G N w pc lv (.ref (zad G (5 + 6 * g)) :: st) :=
  z_getN ok d (5 + 6 * g) (by omega) (zE_game G w hgi) rfl zu_X1 7 (by decide) hw rfl rfl kk
theorem z_get_X1_justPassed (ok : zOk k G N cc own fr lo) {index : Nat} (d : decode cc pc = .ok (.getfield index, 3)) (g : Nat) (hgi : g < 7) (hN : 47 ≤ N) (hw : Cond.fieldLink own index "ClockworkChess$Game" "justPassed" "Z" ∈ zTab) (kk : zZ k G N w (pc + 3) lv (.int (zb (xg w g 148)) :: st)) : zZ k G N w pc lv (.ref (zad G (5 + 6 * g)) :: st) :=
  z_get ok d (5 + 6 * g) (by omega) (zE_game G w hgi) rfl zu_X1 8 (by decide) hw rfl rfl kk
theorem z_getN_X1_justPassed (ok : zOk k G N cc own fr lo) {index : Nat} {host : String} (d : decode cc pc = .ok (.getfield index, 3)) (g : Nat) (hgi : g < 7) (hN : 47 ≤ N) (hw : Cond.fieldLinkNest own index "ClockworkChess$Game" "justPassed" "Z" host ∈ zTab) (kk : zZ k G N w (pc + 3) lv (.int (zb (xg w g 148)) :: st)) : zZ k G N w pc lv (.ref (zad G (5 + 6 * g)) :: st) :=
  z_getN ok d (5 + 6 * g) (by omega) (zE_game G w hgi) rfl zu_X1 8 (by decide) hw rfl rfl kk
theorem z_get_X1_atBeginning (ok : zOk k G N cc own fr lo) {index : Nat} (d : decode cc pc = .ok (.getfield index, 3)) (g : Nat) (hgi : g < 7) (hN : 47 ≤ N) (hw : Cond.fieldLink own index "ClockworkChess$Game" "atBeginning" "I" ∈ zTab) (kk : zZ k G N w (pc + 3) lv (.int (xg w g 152) :: st)) : zZ k G N w pc lv (.ref (zad G (5 + 6 * g)) :: st) :=
  z_get ok d (5 + 6 * g) (by omega) (zE_game G w hgi) rfl zu_X1 9 (by decide) hw rfl rfl kk
theorem z_getN_X1_atBeginning (ok : zOk k G N cc own fr lo) {index : Nat} {host : String} (d : decode cc pc = .ok (.getfield index, 3)) (g : Nat) (hgi : g < 7) (hN : 47 ≤ N) (hw : Cond.fieldLinkNest own index "ClockworkChess$Game" "atBeginning" "I" host ∈ zTab) (kk : zZ k G N w (pc + 3) lv (.int (xg w g 152) :: st)) : zZ k G N w pc lv (.ref (zad G (5 + 6 * g)) :: st) :=
  z_getN ok d (5 + 6 * g) (by omega) (zE_game G w hgi) rfl zu_X1 9 (by decide) hw rfl rfl kk
theorem z_get_X1_wound (ok : zOk k G N cc own fr lo) {index : Nat} (d : decode cc pc = .ok (.getfield index, 3)) (g : Nat) (hgi : g < 7) (hN : 47 ≤ N) (hw : Cond.fieldLink own index "ClockworkChess$Game" "wound" "I" ∈ zTab) (kk : zZ k G N w (pc + 3) lv (.int (xg w g 153) :: st)) : zZ k G N w pc lv (.ref (zad G (5 + 6 * g)) :: st) :=
  z_get ok d (5 + 6 * g) (by omega) (zE_game G w hgi) rfl zu_X1 10 (by decide) hw rfl rfl kk
theorem z_getN_X1_wound (ok : zOk k G N cc own fr lo) {index : Nat} {host : String} (d : decode cc pc = .ok (.getfield index, 3)) (g : Nat) (hgi : g < 7) (hN : 47 ≤ N) (hw : Cond.fieldLinkNest own index "ClockworkChess$Game" "wound" "I" host ∈ zTab) (kk : zZ k G N w (pc + 3) lv (.int (xg w g 153) :: st)) : zZ k G N w pc lv (.ref (zad G (5 + 6 * g)) :: st) :=
  z_getN ok d (5 + 6 * g) (by omega) (zE_game G w hgi) rfl zu_X1 10 (by decide) hw rfl rfl kk
theorem z_get_X1_gainedByBonus (ok : zOk k G N cc own fr lo) {index : Nat} (d : decode cc pc = .ok (.getfield index, 3)) (g : Nat) (hgi : g < 7) (hN : 47 ≤ N) (hw : Cond.fieldLink own index "ClockworkChess$Game" "gainedByBonus" "I" ∈ zTab) (kk : zZ k G N w (pc + 3) lv (.int (xg w g 154) :: st)) : zZ k G N w pc lv (.ref (zad G (5 + 6 * g)) :: st) :=
  z_get ok d (5 + 6 * g) (by omega) (zE_game G w hgi) rfl zu_X1 11 (by decide) hw rfl rfl kk
theorem z_getN_X1_gainedByBonus (ok : zOk k G N cc own fr lo) {index : Nat} {host : String} (d : decode cc pc = .ok (.getfield index, 3)) (g : Nat) (hgi : g < 7) (hN : 47 ≤ N) (hw : Cond.fieldLinkNest own index "ClockworkChess$Game" "gainedByBonus" "I" host ∈ zTab) (kk : zZ k G N w (pc + 3) lv (.int (xg w g 154) :: st)) : zZ k G N w pc lv (.ref (zad G (5 + 6 * g)) :: st) :=
  z_getN ok d (5 + 6 * g) (by omega) (zE_game G w hgi) rfl zu_X1 11 (by decide) hw rfl rfl kk
theorem z_get_X1_spent (ok : zOk k G N cc own fr lo) {index : Nat} (d : decode cc pc = .ok (.getfield index, 3)) (g : Nat) (hgi : g < 7) (hN : 47 ≤ N) (hw : Cond.fieldLink own index "ClockworkChess$Game" "spent" "I" ∈ zTab) (kk : zZ k G N w (pc + 3) lv (.int (xg w g 155) :: st)) : zZ k G N w pc lv (.ref (zad G (5 + 6 * g)) :: st) :=
  z_get ok d (5 + 6 * g) (by omega) (zE_game G w hgi) rfl zu_X1 12 (by decide) hw rfl rfl kk
theorem z_getN_X1_spent (ok : zOk k G N cc own fr lo) {index : Nat} {host : String} (d : decode cc pc = .ok (.getfield index, 3)) (g : Nat) (hgi : g < 7) (hN : 47 ≤ N) (hw : Cond.fieldLinkNest own index "ClockworkChess$Game" "spent" "I" host ∈ zTab) (kk : zZ k G N w (pc + 3) lv (.int (xg w g 155) :: st)) : zZ k G N w pc lv (.ref (zad G (5 + 6 * g)) :: st) :=
  z_getN ok d (5 + 6 * g) (by omega) (zE_game G w hgi) rfl zu_X1 12 (by decide) hw rfl rfl kk
theorem z_get_X1_lost (ok : zOk k G N cc own fr lo) {index : Nat} (d : decode cc pc = .ok (.getfield index, 3)) (g : Nat) (hgi : g < 7) (hN : 47 ≤ N) (hw : Cond.fieldLink own index "ClockworkChess$Game" "lost" "I" ∈ zTab) (kk : zZ k G N w (pc + 3) lv (.int (xg w g 156) :: st)) : zZ k G N w pc lv (.ref (zad G (5 + 6 * g)) :: st) :=
  z_get ok d (5 + 6 * g) (by omega) (zE_game G w hgi) rfl zu_X1 13 (by decide) hw rfl rfl kk
theorem z_getN_X1_lost (ok : zOk k G N cc own fr lo) {index : Nat} {host : String} (d : decode cc pc = .ok (.getfield index, 3)) (g : Nat) (hgi : g < 7) (hN : 47 ≤ N) (hw : Cond.fieldLinkNest own index "ClockworkChess$Game" "lost" "I" host ∈ zTab) (kk : zZ k G N w (pc + 3) lv (.int (xg w g 156) :: st)) : zZ k G N w pc lv (.ref (zad G (5 + 6 * g)) :: st) :=
  z_getN ok d (5 + 6 * g) (by omega) (zE_game G w hgi) rfl zu_X1 13 (by decide) hw rfl rfl kk
theorem z_get_X1_putOn (ok : zOk k G N cc own fr lo) {index : Nat} (d : decode cc pc = .ok (.getfield index, 3)) (g : Nat) (hgi : g < 7) (hN : 47 ≤ N) (hw : Cond.fieldLink own index "ClockworkChess$Game" "putOn" "I" ∈ zTab) (kk : zZ k G N w (pc + 3) lv (.int (xg w g 158) :: st)) : zZ k G N w pc lv (.ref (zad G (5 + 6 * g)) :: st) :=
  z_get ok d (5 + 6 * g) (by omega) (zE_game G w hgi) rfl zu_X1 14 (by decide) hw rfl rfl kk
theorem z_getN_X1_putOn (ok : zOk k G N cc own fr lo) {index : Nat} {host : String} (d : decode cc pc = .ok (.getfield index, 3)) (g : Nat) (hgi : g < 7) (hN : 47 ≤ N) (hw : Cond.fieldLinkNest own index "ClockworkChess$Game" "putOn" "I" host ∈ zTab) (kk : zZ k G N w (pc + 3) lv (.int (xg w g 158) :: st)) : zZ k G N w pc lv (.ref (zad G (5 + 6 * g)) :: st) :=
  z_getN ok d (5 + 6 * g) (by omega) (zE_game G w hgi) rfl zu_X1 14 (by decide) hw rfl rfl kk
theorem z_get_X2_game (ok : zOk k G N cc own fr lo) {index : Nat} (d : decode cc pc = .ok (.getfield index, 3)) (hN : 47 ≤ N) (hw : Cond.fieldLink own index "ClockworkChess" "game" "LClockworkChess$Game;" ∈ zTab) (kk : zZ k G N w (pc + 3) lv (.ref (zad G 5) :: st)) : zZ k G N w pc lv (.ref (zad G 0) :: st) :=
  z_get ok d 0 (by omega) (zE_0 G w) rfl zu_X2 0 (by decide) hw rfl rfl kk
theorem z_getN_X2_game (ok : zOk k G N cc own fr lo) {index : Nat} {host : String} (d : decode cc pc = .ok (.getfield index, 3)) (hN : 47 ≤ N) (hw : Cond.fieldLinkNest own index "ClockworkChess" "game" "LClockworkChess$Game;" host ∈ zTab) (kk : zZ k G N w (pc + 3) lv (.ref (zad G 5) :: st)) : zZ k G N w pc lv (.ref (zad G 0) :: st) :=
  z_getN ok d 0 (by omega) (zE_0 G w) rfl zu_X2 0 (by decide) hw rfl rfl kk
theorem z_get_X2_trial (ok : zOk k G N cc own fr lo) {index : Nat} (d : decode cc pc = .ok (.getfield index, 3)) (hN : 47 ≤ N) (hw : Cond.fieldLink own index "ClockworkChess" "trial" "LClockworkChess$Game;" ∈ zTab) (kk : zZ k G N w (pc + 3) lv (.ref (zad G 11) :: st)) : zZ k G N w pc lv (.ref (zad G 0) :: st) :=
  z_get ok d 0 (by omega) (zE_0 G w) rfl zu_X2 1 (by decide) hw rfl rfl kk
theorem z_getN_X2_trial (ok : zOk k G N cc own fr lo) {index : Nat} {host : String} (d : decode cc pc = .ok (.getfield index, 3)) (hN : 47 ≤ N) (hw : Cond.fieldLinkNest own index "ClockworkChess" "trial" "LClockworkChess$Game;" host ∈ zTab) (kk : zZ k G N w (pc + 3) lv (.ref (zad G 11) :: st)) : zZ k G N w pc lv (.ref (zad G 0) :: st) :=
  z_getN ok d 0 (by omega) (zE_0 G w) rfl zu_X2 1 (by decide) hw rfl rfl kk
theorem z_get_X2_states (ok : zOk k G N cc own fr lo) {index : Nat} (d : decode cc pc = .ok (.getfield index, 3)) (hN : 47 ≤ N) (hw : Cond.fieldLink own index "ClockworkChess" "states" "[LClockworkChess$Game;" ∈ zTab) (kk : zZ k G N w (pc + 3) lv (.ref (zad G 1) :: st)) : zZ k G N w pc lv (.ref (zad G 0) :: st) :=
  z_get ok d 0 (by omega) (zE_0 G w) rfl zu_X2 2 (by decide) hw rfl rfl kk
theorem z_getN_X2_states (ok : zOk k G N cc own fr lo) {index : Nat} {host : String} (d : decode cc pc = .ok (.getfield index, 3)) (hN : 47 ≤ N) (hw : Cond.fieldLinkNest own index "ClockworkChess" "states" "[LClockworkChess$Game;" host ∈ zTab) (kk : zZ k G N w (pc + 3) lv (.ref (zad G 1) :: st)) : zZ k G N w pc lv (.ref (zad G 0) :: st) :=
  z_getN ok d 0 (by omega) (zE_0 G w) rfl zu_X2 2 (by decide) hw rfl rfl kk
theorem z_get_X2_stateCount (ok : zOk k G N cc own fr lo) {index : Nat} (d : decode cc pc = .ok (.getfield index, 3)) (hN : 47 ≤ N) (hw : Cond.fieldLink own index "ClockworkChess" "stateCount" "I" ∈ zTab) (kk : zZ k G N w (pc + 3) lv (.int (xg w 10 0) :: st)) : zZ k G N w pc lv (.ref (zad G 0) :: st) :=
  z_get ok d 0 (by omega) (zE_0 G w) rfl zu_X2 3 (by decide) hw rfl rfl kk
theorem z_getN_X2_stateCount (ok : zOk k G N cc own fr lo) {index : Nat} {host : String} (d : decode cc pc = .ok (.getfield index, 3)) (hN : 47 ≤ N) (hw : Cond.fieldLinkNest own index "ClockworkChess" "stateCount" "I" host ∈ zTab) (kk : zZ k G N w (pc + 3) lv (.int (xg w 10 0) :: st)) : zZ k G N w pc lv (.ref (zad G 0) :: st) :=
  z_getN ok d 0 (by omega) (zE_0 G w) rfl zu_X2 3 (by decide) hw rfl rfl kk
theorem z_get_X2_text (ok : zOk k G N cc own fr lo) {index : Nat} (d : decode cc pc = .ok (.getfield index, 3)) (hN : 47 ≤ N) (hw : Cond.fieldLink own index "ClockworkChess" "text" "[C" ∈ zTab) (kk : zZ k G N w (pc + 3) lv (.ref (zad G 2) :: st)) : zZ k G N w pc lv (.ref (zad G 0) :: st) :=
  z_get ok d 0 (by omega) (zE_0 G w) rfl zu_X2 4 (by decide) hw rfl rfl kk
theorem z_getN_X2_text (ok : zOk k G N cc own fr lo) {index : Nat} {host : String} (d : decode cc pc = .ok (.getfield index, 3)) (hN : 47 ≤ N) (hw : Cond.fieldLinkNest own index "ClockworkChess" "text" "[C" host ∈ zTab) (kk : zZ k G N w (pc + 3) lv (.ref (zad G 2) :: st)) : zZ k G N w pc lv (.ref (zad G 0) :: st) :=
  z_getN ok d 0 (by omega) (zE_0 G w) rfl zu_X2 4 (by decide) hw rfl rfl kk
theorem z_get_X2_textLength (ok : zOk k G N cc own fr lo) {index : Nat} (d : decode cc pc = .ok (.getfield index, 3)) (hN : 47 ≤ N) (hw : Cond.fieldLink own index "ClockworkChess" "textLength" "I" ∈ zTab) (kk : zZ k G N w (pc + 3) lv (.int (xg w 10 1) :: st)) : zZ k G N w pc lv (.ref (zad G 0) :: st) :=
  z_get ok d 0 (by omega) (zE_0 G w) rfl zu_X2 5 (by decide) hw rfl rfl kk
theorem z_getN_X2_textLength (ok : zOk k G N cc own fr lo) {index : Nat} {host : String} (d : decode cc pc = .ok (.getfield index, 3)) (hN : 47 ≤ N) (hw : Cond.fieldLinkNest own index "ClockworkChess" "textLength" "I" host ∈ zTab) (kk : zZ k G N w (pc + 3) lv (.int (xg w 10 1) :: st)) : zZ k G N w pc lv (.ref (zad G 0) :: st) :=
  z_getN ok d 0 (by omega) (zE_0 G w) rfl zu_X2 5 (by decide) hw rfl rfl kk
theorem z_get_X2_springLeft (ok : zOk k G N cc own fr lo) {index : Nat} (d : decode cc pc = .ok (.getfield index, 3)) (hN : 47 ≤ N) (hw : Cond.fieldLink own index "ClockworkChess" "springLeft" "[I" ∈ zTab) (kk : zZ k G N w (pc + 3) lv (.ref (zad G (zpr w 5)) :: st)) : zZ k G N w pc lv (.ref (zad G 0) :: st) :=
  z_get ok d 0 (by omega) (zE_0 G w) rfl zu_X2 6 (by decide) hw rfl rfl kk
theorem z_getN_X2_springLeft (ok : zOk k G N cc own fr lo) {index : Nat} {host : String} (d : decode cc pc = .ok (.getfield index, 3)) (hN : 47 ≤ N) (hw : Cond.fieldLinkNest own index "ClockworkChess" "springLeft" "[I" host ∈ zTab) (kk : zZ k G N w (pc + 3) lv (.ref (zad G (zpr w 5)) :: st)) : zZ k G N w pc lv (.ref (zad G 0) :: st) :=
  z_getN ok d 0 (by omega) (zE_0 G w) rfl zu_X2 6 (by decide) hw rfl rfl kk
theorem z_get_X2_springLeftNext (ok : zOk k G N cc own fr lo) {index : Nat} (d : decode cc pc = .ok (.getfield index, 3)) (hN : 47 ≤ N) (hw : Cond.fieldLink own index "ClockworkChess" "springLeftNext" "[I" ∈ zTab) (kk : zZ k G N w (pc + 3) lv (.ref (zad G (zpr w 6)) :: st)) : zZ k G N w pc lv (.ref (zad G 0) :: st) :=
  z_get ok d 0 (by omega) (zE_0 G w) rfl zu_X2 7 (by decide) hw rfl rfl kk
theorem z_getN_X2_springLeftNext (ok : zOk k G N cc own fr lo) {index : Nat} {host : String} (d : decode cc pc = .ok (.getfield index, 3)) (hN : 47 ≤ N) (hw : Cond.fieldLinkNest own index "ClockworkChess" "springLeftNext" "[I" host ∈ zTab) (kk : zZ k G N w (pc + 3) lv (.ref (zad G (zpr w 6)) :: st)) : zZ k G N w pc lv (.ref (zad G 0) :: st) :=
  z_getN ok d 0 (by omega) (zE_0 G w) rfl zu_X2 7 (by decide) hw rfl rfl kk
theorem z_get_X3_st (ok : zOk k G N cc own fr lo) {index : Nat} (d : decode cc pc = .ok (.getfield index, 3)) (hN : 54 ≤ N) (hw : Cond.fieldLink own index "ClockworkChessModel" "st" "[I" ∈ zTab) (kk : zZ k G N w (pc + 3) lv (.ref (zad G 48) :: st)) : zZ k G N w pc lv (.ref (zad G 47) :: st) :=
  z_get ok d 47 (by omega) (zE_47 G w) rfl zu_X3 0 (by decide) hw rfl rfl kk
theorem z_getN_X3_st (ok : zOk k G N cc own fr lo) {index : Nat} {host : String} (d : decode cc pc = .ok (.getfield index, 3)) (hN : 54 ≤ N) (hw : Cond.fieldLinkNest own index "ClockworkChessModel" "st" "[I" host ∈ zTab) (kk : zZ k G N w (pc + 3) lv (.ref (zad G 48) :: st)) : zZ k G N w pc lv (.ref (zad G 47) :: st) :=
  z_getN ok d 47 (by omega) (zE_47 G w) rfl zu_X3 0 (by decide) hw rfl rfl kk
theorem z_get_X3_past (ok : zOk k G N cc own fr lo) {index : Nat} (d : decode cc pc = .ok (.getfield index, 3)) (hN : 54 ≤ N) (hw : Cond.fieldLink own index "ClockworkChessModel" "past" "[I" ∈ zTab) (kk : zZ k G N w (pc + 3) lv (.ref (zad G 49) :: st)) : zZ k G N w pc lv (.ref (zad G 47) :: st) :=
  z_get ok d 47 (by omega) (zE_47 G w) rfl zu_X3 1 (by decide) hw rfl rfl kk
theorem z_getN_X3_past (ok : zOk k G N cc own fr lo) {index : Nat} {host : String} (d : decode cc pc = .ok (.getfield index, 3)) (hN : 54 ≤ N) (hw : Cond.fieldLinkNest own index "ClockworkChessModel" "past" "[I" host ∈ zTab) (kk : zZ k G N w (pc + 3) lv (.ref (zad G 49) :: st)) : zZ k G N w pc lv (.ref (zad G 47) :: st) :=
  z_getN ok d 47 (by omega) (zE_47 G w) rfl zu_X3 1 (by decide) hw rfl rfl kk
theorem z_get_X3_aside (ok : zOk k G N cc own fr lo) {index : Nat} (d : decode cc pc = .ok (.getfield index, 3)) (hN : 54 ≤ N) (hw : Cond.fieldLink own index "ClockworkChessModel" "aside" "[I" ∈ zTab) (kk : zZ k G N w (pc + 3) lv (.ref (zad G 50) :: st)) : zZ k G N w pc lv (.ref (zad G 47) :: st) :=
  z_get ok d 47 (by omega) (zE_47 G w) rfl zu_X3 2 (by decide) hw rfl rfl kk
theorem z_getN_X3_aside (ok : zOk k G N cc own fr lo) {index : Nat} {host : String} (d : decode cc pc = .ok (.getfield index, 3)) (hN : 54 ≤ N) (hw : Cond.fieldLinkNest own index "ClockworkChessModel" "aside" "[I" host ∈ zTab) (kk : zZ k G N w (pc + 3) lv (.ref (zad G 50) :: st)) : zZ k G N w pc lv (.ref (zad G 47) :: st) :=
  z_getN ok d 47 (by omega) (zE_47 G w) rfl zu_X3 2 (by decide) hw rfl rfl kk
theorem z_get_X3_pasts (ok : zOk k G N cc own fr lo) {index : Nat} (d : decode cc pc = .ok (.getfield index, 3)) (hN : 54 ≤ N) (hw : Cond.fieldLink own index "ClockworkChessModel" "pasts" "I" ∈ zTab) (kk : zZ k G N w (pc + 3) lv (.int (xg w 17 0) :: st)) : zZ k G N w pc lv (.ref (zad G 47) :: st) :=
  z_get ok d 47 (by omega) (zE_47 G w) rfl zu_X3 3 (by decide) hw rfl rfl kk
theorem z_getN_X3_pasts (ok : zOk k G N cc own fr lo) {index : Nat} {host : String} (d : decode cc pc = .ok (.getfield index, 3)) (hN : 54 ≤ N) (hw : Cond.fieldLinkNest own index "ClockworkChessModel" "pasts" "I" host ∈ zTab) (kk : zZ k G N w (pc + 3) lv (.int (xg w 17 0) :: st)) : zZ k G N w pc lv (.ref (zad G 47) :: st) :=
  z_getN ok d 47 (by omega) (zE_47 G w) rfl zu_X3 3 (by decide) hw rfl rfl kk
theorem z_get_X3_text (ok : zOk k G N cc own fr lo) {index : Nat} (d : decode cc pc = .ok (.getfield index, 3)) (hN : 54 ≤ N) (hw : Cond.fieldLink own index "ClockworkChessModel" "text" "[I" ∈ zTab) (kk : zZ k G N w (pc + 3) lv (.ref (zad G 51) :: st)) : zZ k G N w pc lv (.ref (zad G 47) :: st) :=
  z_get ok d 47 (by omega) (zE_47 G w) rfl zu_X3 4 (by decide) hw rfl rfl kk
theorem z_getN_X3_text (ok : zOk k G N cc own fr lo) {index : Nat} {host : String} (d : decode cc pc = .ok (.getfield index, 3)) (hN : 54 ≤ N) (hw : Cond.fieldLinkNest own index "ClockworkChessModel" "text" "[I" host ∈ zTab) (kk : zZ k G N w (pc + 3) lv (.ref (zad G 51) :: st)) : zZ k G N w pc lv (.ref (zad G 47) :: st) :=
  z_getN ok d 47 (by omega) (zE_47 G w) rfl zu_X3 4 (by decide) hw rfl rfl kk
theorem z_get_X3_length (ok : zOk k G N cc own fr lo) {index : Nat} (d : decode cc pc = .ok (.getfield index, 3)) (hN : 54 ≤ N) (hw : Cond.fieldLink own index "ClockworkChessModel" "length" "I" ∈ zTab) (kk : zZ k G N w (pc + 3) lv (.int (xg w 17 1) :: st)) : zZ k G N w pc lv (.ref (zad G 47) :: st) :=
  z_get ok d 47 (by omega) (zE_47 G w) rfl zu_X3 5 (by decide) hw rfl rfl kk
theorem z_getN_X3_length (ok : zOk k G N cc own fr lo) {index : Nat} {host : String} (d : decode cc pc = .ok (.getfield index, 3)) (hN : 54 ≤ N) (hw : Cond.fieldLinkNest own index "ClockworkChessModel" "length" "I" host ∈ zTab) (kk : zZ k G N w (pc + 3) lv (.int (xg w 17 1) :: st)) : zZ k G N w pc lv (.ref (zad G 47) :: st) :=
  z_getN ok d 47 (by omega) (zE_47 G w) rfl zu_X3 5 (by decide) hw rfl rfl kk
theorem z_get_X3_most (ok : zOk k G N cc own fr lo) {index : Nat} (d : decode cc pc = .ok (.getfield index, 3)) (hN : 54 ≤ N) (hw : Cond.fieldLink own index "ClockworkChessModel" "most" "[I" ∈ zTab) (kk : zZ k G N w (pc + 3) lv (.ref (zad G 52) :: st)) : zZ k G N w pc lv (.ref (zad G 47) :: st) :=
  z_get ok d 47 (by omega) (zE_47 G w) rfl zu_X3 6 (by decide) hw rfl rfl kk
theorem z_getN_X3_most (ok : zOk k G N cc own fr lo) {index : Nat} {host : String} (d : decode cc pc = .ok (.getfield index, 3)) (hN : 54 ≤ N) (hw : Cond.fieldLinkNest own index "ClockworkChessModel" "most" "[I" host ∈ zTab) (kk : zZ k G N w (pc + 3) lv (.ref (zad G 52) :: st)) : zZ k G N w pc lv (.ref (zad G 47) :: st) :=
  z_getN ok d 47 (by omega) (zE_47 G w) rfl zu_X3 6 (by decide) hw rfl rfl kk
theorem z_get_X3_then (ok : zOk k G N cc own fr lo) {index : Nat} (d : decode cc pc = .ok (.getfield index, 3)) (hN : 54 ≤ N) (hw : Cond.fieldLink own index "ClockworkChessModel" "then" "[I" ∈ zTab) (kk : zZ k G N w (pc + 3) lv (.ref (zad G 53) :: st)) : zZ k G N w pc lv (.ref (zad G 47) :: st) :=
  z_get ok d 47 (by omega) (zE_47 G w) rfl zu_X3 7 (by decide) hw rfl rfl kk
theorem z_getN_X3_then (ok : zOk k G N cc own fr lo) {index : Nat} {host : String} (d : decode cc pc = .ok (.getfield index, 3)) (hN : 54 ≤ N) (hw : Cond.fieldLinkNest own index "ClockworkChessModel" "then" "[I" host ∈ zTab) (kk : zZ k G N w (pc + 3) lv (.ref (zad G 53) :: st)) : zZ k G N w pc lv (.ref (zad G 47) :: st) :=
  z_getN ok d 47 (by omega) (zE_47 G w) rfl zu_X3 7 (by decide) hw rfl rfl kk
theorem z_get_X3_spot (ok : zOk k G N cc own fr lo) {index : Nat} (d : decode cc pc = .ok (.getfield index, 3)) (hN : 54 ≤ N) (hw : Cond.fieldLink own index "ClockworkChessModel" "spot" "I" ∈ zTab) (kk : zZ k G N w (pc + 3) lv (.int (xg w 17 2) :: st)) : zZ k G N w pc lv (.ref (zad G 47) :: st) :=
  z_get ok d 47 (by omega) (zE_47 G w) rfl zu_X3 8 (by decide) hw rfl rfl kk
theorem z_getN_X3_spot (ok : zOk k G N cc own fr lo) {index : Nat} {host : String} (d : decode cc pc = .ok (.getfield index, 3)) (hN : 54 ≤ N) (hw : Cond.fieldLinkNest own index "ClockworkChessModel" "spot" "I" host ∈ zTab) (kk : zZ k G N w (pc + 3) lv (.int (xg w 17 2) :: st)) : zZ k G N w pc lv (.ref (zad G 47) :: st) :=
  z_getN ok d 47 (by omega) (zE_47 G w) rfl zu_X3 8 (by decide) hw rfl rfl kk
theorem z_get_X3_itsFrom (ok : zOk k G N cc own fr lo) {index : Nat} (d : decode cc pc = .ok (.getfield index, 3)) (hN : 54 ≤ N) (hw : Cond.fieldLink own index "ClockworkChessModel" "itsFrom" "I" ∈ zTab) (kk : zZ k G N w (pc + 3) lv (.int (xg w 17 3) :: st)) : zZ k G N w pc lv (.ref (zad G 47) :: st) :=
  z_get ok d 47 (by omega) (zE_47 G w) rfl zu_X3 9 (by decide) hw rfl rfl kk
theorem z_getN_X3_itsFrom (ok : zOk k G N cc own fr lo) {index : Nat} {host : String} (d : decode cc pc = .ok (.getfield index, 3)) (hN : 54 ≤ N) (hw : Cond.fieldLinkNest own index "ClockworkChessModel" "itsFrom" "I" host ∈ zTab) (kk : zZ k G N w (pc + 3) lv (.int (xg w 17 3) :: st)) : zZ k G N w pc lv (.ref (zad G 47) :: st) :=
  z_getN ok d 47 (by omega) (zE_47 G w) rfl zu_X3 9 (by decide) hw rfl rfl kk
theorem z_get_X3_itsTo (ok : zOk k G N cc own fr lo) {index : Nat} (d : decode cc pc = .ok (.getfield index, 3)) (hN : 54 ≤ N) (hw : Cond.fieldLink own index "ClockworkChessModel" "itsTo" "I" ∈ zTab) (kk : zZ k G N w (pc + 3) lv (.int (xg w 17 4) :: st)) : zZ k G N w pc lv (.ref (zad G 47) :: st) :=
  z_get ok d 47 (by omega) (zE_47 G w) rfl zu_X3 10 (by decide) hw rfl rfl kk
theorem z_getN_X3_itsTo (ok : zOk k G N cc own fr lo) {index : Nat} {host : String} (d : decode cc pc = .ok (.getfield index, 3)) (hN : 54 ≤ N) (hw : Cond.fieldLinkNest own index "ClockworkChessModel" "itsTo" "I" host ∈ zTab) (kk : zZ k G N w (pc + 3) lv (.int (xg w 17 4) :: st)) : zZ k G N w pc lv (.ref (zad G 47) :: st) :=
  z_getN ok d 47 (by omega) (zE_47 G w) rfl zu_X3 10 (by decide) hw rfl rfl kk
theorem z_get_X3_from (ok : zOk k G N cc own fr lo) {index : Nat} (d : decode cc pc = .ok (.getfield index, 3)) (hN : 54 ≤ N) (hw : Cond.fieldLink own index "ClockworkChessModel" "from" "I" ∈ zTab) (kk : zZ k G N w (pc + 3) lv (.int (xg w 17 5) :: st)) : zZ k G N w pc lv (.ref (zad G 47) :: st) :=
  z_get ok d 47 (by omega) (zE_47 G w) rfl zu_X3 11 (by decide) hw rfl rfl kk
theorem z_getN_X3_from (ok : zOk k G N cc own fr lo) {index : Nat} {host : String} (d : decode cc pc = .ok (.getfield index, 3)) (hN : 54 ≤ N) (hw : Cond.fieldLinkNest own index "ClockworkChessModel" "from" "I" host ∈ zTab) (kk : zZ k G N w (pc + 3) lv (.int (xg w 17 5) :: st)) : zZ k G N w pc lv (.ref (zad G 47) :: st) :=
  z_getN ok d 47 (by omega) (zE_47 G w) rfl zu_X3 11 (by decide) hw rfl rfl kk
theorem z_get_X3_many (ok : zOk k G N cc own fr lo) {index : Nat} (d : decode cc pc = .ok (.getfield index, 3)) (hN : 54 ≤ N) (hw : Cond.fieldLink own index "ClockworkChessModel" "many" "I" ∈ zTab) (kk : zZ k G N w (pc + 3) lv (.int (xg w 17 6) :: st)) : zZ k G N w pc lv (.ref (zad G 47) :: st) :=
  z_get ok d 47 (by omega) (zE_47 G w) rfl zu_X3 12 (by decide) hw rfl rfl kk
theorem z_getN_X3_many (ok : zOk k G N cc own fr lo) {index : Nat} {host : String} (d : decode cc pc = .ok (.getfield index, 3)) (hN : 54 ≤ N) (hw : Cond.fieldLinkNest own index "ClockworkChessModel" "many" "I" host ∈ zTab) (kk : zZ k G N w (pc + 3) lv (.int (xg w 17 6) :: st)) : zZ k G N w pc lv (.ref (zad G 47) :: st) :=
  z_getN ok d 47 (by omega) (zE_47 G w) rfl zu_X3 12 (by decide) hw rfl rfl kk
theorem zOk_54 (ok : zOk k G N cc own fr lo) : N ≤ 54 := by
  obtain ⟨p, l, e, R, s, m, args, below, meth, c0, Q, A, nL, cells, slots⟩ := k
  exact ok.2.2.2.2.2.1.1
theorem zOk_geo (ok : zOk k G N cc own fr lo) : zGeo G N := by
  obtain ⟨p, l, e, R, s, m, args, below, meth, c0, Q, A, nL, cells, slots⟩ := k
  exact ok.2.2.2.2.2.1
theorem z_put_X1_limit (ok : zOk k G N cc own fr lo) {index : Nat} (d : decode cc pc = .ok (.putfield index, 3)) (g : Nat) (hgi : g < 7) (hN : 47 ≤ N) (hw : Cond.fieldLink own index "ClockworkChess$Game" "limit" "I" ∈ zTab) (kk : zZ k G N (xs w g 149 x) (pc + 3) lv st) : zZ k G N w pc lv (.int x :: .ref (zad G (5 + 6 * g)) :: st) :=
  z_put (ty := .int) ok d (xs w g 149 x) (5 + 6 * g) (by omega) (zE_game G w hgi) rfl zu_X1 tyX1 tyX1_ok nmX1 1 (by decide) hw ⟨rfl, rfl⟩ (by decide +kernel) rfl rfl (Nat.le_of_ble_eq_true rfl) (by rw [zE_game _ _ hgi]; simp [zGame, xg_xs]) (fun q hq hne => zE_xs (by have := zOk_54 ok; omega) (by rw [zown_game hgi (by decide)]; exact hne)) kk
theorem z_put_X1_bonus (ok : zOk k G N cc own fr lo) {index : Nat} (d : decode cc pc = .ok (.putfield index, 3)) (g : Nat) (hgi : g < 7) (hN : 47 ≤ N) (hw : Cond.fieldLink own index "ClockworkChess$Game" "bonus" "I" ∈ zTab) (kk : zZ k G N (xs w g 150 x) (pc + 3) lv st) : zZ k G N w pc lv (.int x :: .ref (zad G (5 + 6 * g)) :: st) :=
  z_put (ty := .int) ok d (xs w g 150 x) (5 + 6 * g) (by omega) (zE_game G w hgi) rfl zu_X1 tyX1 tyX1_ok nmX1 2 (by decide) hw ⟨rfl, rfl⟩ (by decide +kernel) rfl rfl (Nat.le_of_ble_eq_true rfl) (by rw [zE_game _ _ hgi]; simp [zGame, xg_xs]) (fun q hq hne => zE_xs (by have := zOk_54 ok; omega) (by rw [zown_game hgi (by decide)]; exact hne)) kk
theorem z_put_X1_winding (ok : zOk k G N cc own fr lo) {index : Nat} (d : decode cc pc = .ok (.putfield index, 3)) (g : Nat) (hgi : g < 7) (hN : 47 ≤ N) (hw : Cond.fieldLink own index "ClockworkChess$Game" "winding" "I" ∈ zTab) (kk : zZ k G N (xs w g 151 x) (pc + 3) lv st) : zZ k G N w pc lv (.int x :: .ref (zad G (5 + 6 * g)) :: st) :=
  z_put (ty := .int) ok d (xs w g 151 x) (5 + 6 * g) (by omega) (zE_game G w hgi) rfl zu_X1 tyX1 tyX1_ok nmX1 3 (by decide) hw ⟨rfl, rfl⟩ (by decide +kernel) rfl rfl (Nat.le_of_ble_eq_true rfl) (by rw [zE_game _ _ hgi]; simp [zGame, xg_xs]) (fun q hq hne => zE_xs (by have := zOk_54 ok; omega) (by rw [zown_game hgi (by decide)]; exact hne)) kk
theorem z_put_X1_mover (ok : zOk k G N cc own fr lo) {index : Nat} (d : decode cc pc = .ok (.putfield index, 3)) (g : Nat) (hgi : g < 7) (hN : 47 ≤ N) (hw : Cond.fieldLink own index "ClockworkChess$Game" "mover" "I" ∈ zTab) (kk : zZ k G N (xs w g 144 x) (pc + 3) lv st) : zZ k G N w pc lv (.int x :: .ref (zad G (5 + 6 * g)) :: st) :=
  z_put (ty := .int) ok d (xs w g 144 x) (5 + 6 * g) (by omega) (zE_game G w hgi) rfl zu_X1 tyX1 tyX1_ok nmX1 4 (by decide) hw ⟨rfl, rfl⟩ (by decide +kernel) rfl rfl (Nat.le_of_ble_eq_true rfl) (by rw [zE_game _ _ hgi]; simp [zGame, xg_xs]) (fun q hq hne => zE_xs (by have := zOk_54 ok; omega) (by rw [zown_game hgi (by decide)]; exact hne)) kk
theorem z_put_X1_ending (ok : zOk k G N cc own fr lo) {index : Nat} (d : decode cc pc = .ok (.putfield index, 3)) (g : Nat) (hgi : g < 7) (hN : 47 ≤ N) (hw : Cond.fieldLink own index "ClockworkChess$Game" "ending" "I" ∈ zTab) (kk : zZ k G N (xs w g 145 x) (pc + 3) lv st) : zZ k G N w pc lv (.int x :: .ref (zad G (5 + 6 * g)) :: st) :=
  z_put (ty := .int) ok d (xs w g 145 x) (5 + 6 * g) (by omega) (zE_game G w hgi) rfl zu_X1 tyX1 tyX1_ok nmX1 5 (by decide) hw ⟨rfl, rfl⟩ (by decide +kernel) rfl rfl (Nat.le_of_ble_eq_true rfl) (by rw [zE_game _ _ hgi]; simp [zGame, xg_xs]) (fun q hq hne => zE_xs (by have := zOk_54 ok; omega) (by rw [zown_game hgi (by decide)]; exact hne)) kk
theorem z_put_X1_winner (ok : zOk k G N cc own fr lo) {index : Nat} (d : decode cc pc = .ok (.putfield index, 3)) (g : Nat) (hgi : g < 7) (hN : 47 ≤ N) (hw : Cond.fieldLink own index "ClockworkChess$Game" "winner" "I" ∈ zTab) (kk : zZ k G N (xs w g 146 x) (pc + 3) lv st) : zZ k G N w pc lv (.int x :: .ref (zad G (5 + 6 * g)) :: st) :=
  z_put (ty := .int) ok d (xs w g 146 x) (5 + 6 * g) (by omega) (zE_game G w hgi) rfl zu_X1 tyX1 tyX1_ok nmX1 6 (by decide) hw ⟨rfl, rfl⟩ (by decide +kernel) rfl rfl (Nat.le_of_ble_eq_true rfl) (by rw [zE_game _ _ hgi]; simp [zGame, xg_xs]) (fun q hq hne => zE_xs (by have := zOk_54 ok; omega) (by rw [zown_game hgi (by decide)]; exact hne)) kk
theorem z_put_X1_turnsMade (ok : zOk k G N cc own fr lo) {index : Nat} (d : decode cc pc = .ok (.putfield index, 3)) (g : Nat) (hgi : g < 7) (hN : 47 ≤ N) (hw : Cond.fieldLink own index "ClockworkChess$Game" "turnsMade" "I" ∈ zTab) (kk : zZ k G N (xs w g 147 x) (pc + 3) lv st) : zZ k G N w pc lv (.int x :: .ref (zad G (5 + 6 * g)) :: st) :=
  z_put (ty := .int) ok d (xs w g 147 x) (5 + 6 * g) (by omega) (zE_game G w hgi) rfl zu_X1 tyX1 tyX1_ok nmX1 7 (by decide) hw ⟨rfl, rfl⟩ (by decide +kernel) rfl rfl (Nat.le_of_ble_eq_true rfl) (by rw [zE_game _ _ hgi]; simp [zGame, xg_xs]) (fun q hq hne => zE_xs (by have := zOk_54 ok; omega) (by rw [zown_game hgi (by decide)]; exact hne)) kk
theorem z_put_X1_justPassed (ok : zOk k G N cc own fr lo) {index : Nat} (d : decode cc pc = .ok (.putfield index, 3)) (g : Nat) (hgi : g < 7) (hN : 47 ≤ N) (hx : x = zb x) (hw : Cond.fieldLink own index "ClockworkChess$Game" "justPassed" "Z" ∈ zTab) (kk : zZ k G N (xs w g 148 x) (pc + 3) lv st) : zZ k G N w pc lv (.int x :: .ref (zad G (5 + 6 * g)) :: st) :=
  z_put (ty := .boolean) ok d (xs w g 148 x) (5 + 6 * g) (by omega) (zE_game G w hgi) rfl zu_X1 tyX1 tyX1_ok nmX1 8 (by decide) hw ⟨rfl, rfl⟩ (by decide +kernel) (by rw [hx]; exact zb_nar x) (by rw [hx]; exact zb_fit x) (Nat.le_of_ble_eq_true rfl) (by rw [zE_game _ _ hgi]; simp [zGame, xg_xs, ← hx]) (fun q hq hne => zE_xs (by have := zOk_54 ok; omega) (by rw [zown_game hgi (by decide)]; exact hne)) kk
theorem z_put_X1_atBeginning (ok : zOk k G N cc own fr lo) {index : Nat} (d : decode cc pc = .ok (.putfield index, 3)) (g : Nat) (hgi : g < 7) (hN : 47 ≤ N) (hw : Cond.fieldLink own index "ClockworkChess$Game" "atBeginning" "I" ∈ zTab) (kk : zZ k G N (xs w g 152 x) (pc + 3) lv st) : zZ k G N w pc lv (.int x :: .ref (zad G (5 + 6 * g)) :: st) :=
  z_put (ty := .int) ok d (xs w g 152 x) (5 + 6 * g) (by omega) (zE_game G w hgi) rfl zu_X1 tyX1 tyX1_ok nmX1 9 (by decide) hw ⟨rfl, rfl⟩ (by decide +kernel) rfl rfl (Nat.le_of_ble_eq_true rfl) (by rw [zE_game _ _ hgi]; simp [zGame, xg_xs]) (fun q hq hne => zE_xs (by have := zOk_54 ok; omega) (by rw [zown_game hgi (by decide)]; exact hne)) kk
theorem z_put_X1_wound (ok : zOk k G N cc own fr lo) {index : Nat} (d : decode cc pc = .ok (.putfield index, 3)) (g : Nat) (hgi : g < 7) (hN : 47 ≤ N) (hw : Cond.fieldLink own index "ClockworkChess$Game" "wound" "I" ∈ zTab) (kk : zZ k G N (xs w g 153 x) (pc + 3) lv st) : zZ k G N w pc lv (.int x :: .ref (zad G (5 + 6 * g)) :: st) :=
  z_put (ty := .int) ok d (xs w g 153 x) (5 + 6 * g) (by omega) (zE_game G w hgi) rfl zu_X1 tyX1 tyX1_ok nmX1 10 (by decide) hw ⟨rfl, rfl⟩ (by decide +kernel) rfl rfl (Nat.le_of_ble_eq_true rfl) (by rw [zE_game _ _ hgi]; simp [zGame, xg_xs]) (fun q hq hne => zE_xs (by have := zOk_54 ok; omega) (by rw [zown_game hgi (by decide)]; exact hne)) kk
theorem z_put_X1_gainedByBonus (ok : zOk k G N cc own fr lo) {index : Nat} (d : decode cc pc = .ok (.putfield index, 3)) (g : Nat) (hgi : g < 7) (hN : 47 ≤ N) (hw : Cond.fieldLink own index "ClockworkChess$Game" "gainedByBonus" "I" ∈ zTab) (kk : zZ k G N (xs w g 154 x) (pc + 3) lv st) : zZ k G N w pc lv (.int x :: .ref (zad G (5 + 6 * g)) :: st) :=
  z_put (ty := .int) ok d (xs w g 154 x) (5 + 6 * g) (by omega) (zE_game G w hgi) rfl zu_X1 tyX1 tyX1_ok nmX1 11 (by decide) hw ⟨rfl, rfl⟩ (by decide +kernel) rfl rfl (Nat.le_of_ble_eq_true rfl) (by rw [zE_game _ _ hgi]; simp [zGame, xg_xs]) (fun q hq hne => zE_xs (by have := zOk_54 ok; omega) (by rw [zown_game hgi (by decide)]; exact hne)) kk
theorem z_put_X1_spent (ok : zOk k G N cc own fr lo) {index : Nat} (d : decode cc pc = .ok (.putfield index, 3)) (g : Nat) (hgi : g < 7) (hN : 47 ≤ N) (hw : Cond.fieldLink own index "ClockworkChess$Game" "spent" "I" ∈ zTab) (kk : zZ k G N (xs w g 155 x) (pc + 3) lv st) : zZ k G N w pc lv (.int x :: .ref (zad G (5 + 6 * g)) :: st) :=
  z_put (ty := .int) ok d (xs w g 155 x) (5 + 6 * g) (by omega) (zE_game G w hgi) rfl zu_X1 tyX1 tyX1_ok nmX1 12 (by decide) hw ⟨rfl, rfl⟩ (by decide +kernel) rfl rfl (Nat.le_of_ble_eq_true rfl) (by rw [zE_game _ _ hgi]; simp [zGame, xg_xs]) (fun q hq hne => zE_xs (by have := zOk_54 ok; omega) (by rw [zown_game hgi (by decide)]; exact hne)) kk
theorem z_put_X1_lost (ok : zOk k G N cc own fr lo) {index : Nat} (d : decode cc pc = .ok (.putfield index, 3)) (g : Nat) (hgi : g < 7) (hN : 47 ≤ N) (hw : Cond.fieldLink own index "ClockworkChess$Game" "lost" "I" ∈ zTab) (kk : zZ k G N (xs w g 156 x) (pc + 3) lv st) : zZ k G N w pc lv (.int x :: .ref (zad G (5 + 6 * g)) :: st) :=
  z_put (ty := .int) ok d (xs w g 156 x) (5 + 6 * g) (by omega) (zE_game G w hgi) rfl zu_X1 tyX1 tyX1_ok nmX1 13 (by decide) hw ⟨rfl, rfl⟩ (by decide +kernel) rfl rfl (Nat.le_of_ble_eq_true rfl) (by rw [zE_game _ _ hgi]; simp [zGame, xg_xs]) (fun q hq hne => zE_xs (by have := zOk_54 ok; omega) (by rw [zown_game hgi (by decide)]; exact hne)) kk
theorem z_put_X1_putOn (ok : zOk k G N cc own fr lo) {index : Nat} (d : decode cc pc = .ok (.putfield index, 3)) (g : Nat) (hgi : g < 7) (hN : 47 ≤ N) (hw : Cond.fieldLink own index "ClockworkChess$Game" "putOn" "I" ∈ zTab) (kk : zZ k G N (xs w g 158 x) (pc + 3) lv st) : zZ k G N w pc lv (.int x :: .ref (zad G (5 + 6 * g)) :: st) :=
  z_put (ty := .int) ok d (xs w g 158 x) (5 + 6 * g) (by omega) (zE_game G w hgi) rfl zu_X1 tyX1 tyX1_ok nmX1 14 (by decide) hw ⟨rfl, rfl⟩ (by decide +kernel) rfl rfl (Nat.le_of_ble_eq_true rfl) (by rw [zE_game _ _ hgi]; simp [zGame, xg_xs]) (fun q hq hne => zE_xs (by have := zOk_54 ok; omega) (by rw [zown_game hgi (by decide)]; exact hne)) kk
theorem z_put_X2_stateCount (ok : zOk k G N cc own fr lo) {index : Nat} (d : decode cc pc = .ok (.putfield index, 3)) (hN : 47 ≤ N) (hw : Cond.fieldLink own index "ClockworkChess" "stateCount" "I" ∈ zTab) (kk : zZ k G N (xs w 10 0 x) (pc + 3) lv st) : zZ k G N w pc lv (.int x :: .ref (zad G 0) :: st) :=
  z_put (ty := .int) ok d (xs w 10 0 x) 0 (by omega) (zE_0 G w) rfl zu_X2 tyX2 tyX2_ok nmX2 3 (by decide) hw ⟨rfl, rfl⟩ (by decide +kernel) rfl rfl (Nat.le_of_ble_eq_true rfl) (by rw [zE_0]; simp [zOuter, zpr, xs, xg]) (fun q hq hne => zE_xs (by have := zOk_54 ok; omega) (by rw [show zown 10 0 = 0 from rfl]; exact hne)) kk
theorem z_put_X2_textLength (ok : zOk k G N cc own fr lo) {index : Nat} (d : decode cc pc = .ok (.putfield index, 3)) (hN : 47 ≤ N) (hw : Cond.fieldLink own index "ClockworkChess" "textLength" "I" ∈ zTab) (kk : zZ k G N (xs w 10 1 x) (pc + 3) lv st) : zZ k G N w pc lv (.int x :: .ref (zad G 0) :: st) :=
  z_put (ty := .int) ok d (xs w 10 1 x) 0 (by omega) (zE_0 G w) rfl zu_X2 tyX2 tyX2_ok nmX2 5 (by decide) hw ⟨rfl, rfl⟩ (by decide +kernel) rfl rfl (Nat.le_of_ble_eq_true rfl) (by rw [zE_0]; simp [zOuter, zpr, xs, xg]) (fun q hq hne => zE_xs (by have := zOk_54 ok; omega) (by rw [show zown 10 1 = 0 from rfl]; exact hne)) kk
theorem z_put_X3_pasts (ok : zOk k G N cc own fr lo) {index : Nat} (d : decode cc pc = .ok (.putfield index, 3)) (hN : 54 ≤ N) (hw : Cond.fieldLink own index "ClockworkChessModel" "pasts" "I" ∈ zTab) (kk : zZ k G N (xs w 17 0 x) (pc + 3) lv st) : zZ k G N w pc lv (.int x :: .ref (zad G 47) :: st) :=
  z_put (ty := .int) ok d (xs w 17 0 x) 47 (by omega) (zE_47 G w) rfl zu_X3 tyX3 tyX3_ok nmX3 3 (by decide) hw ⟨rfl, rfl⟩ (by decide +kernel) rfl rfl (Nat.le_of_ble_eq_true rfl) (by rw [zE_47]; simp [zModel, xg_xs]) (fun q hq hne => zE_xs (by have := zOk_54 ok; omega) (by rw [show zown 17 0 = 47 from rfl]; exact hne)) kk
theorem z_put_X3_length (ok : zOk k G N cc own fr lo) {index : Nat} (d : decode cc pc = .ok (.putfield index, 3)) (hN : 54 ≤ N) (hw : Cond.fieldLink own index "ClockworkChessModel" "length" "I" ∈ zTab) (kk : zZ k G N (xs w 17 1 x) (pc + 3) lv st) : zZ k G N w pc lv (.int x :: .ref (zad G 47) :: st) :=
  z_put (ty := .int) ok d (xs w 17 1 x) 47 (by omega) (zE_47 G w) rfl zu_X3 tyX3 tyX3_ok nmX3 5 (by decide) hw ⟨rfl, rfl⟩ (by decide +kernel) rfl rfl (Nat.le_of_ble_eq_true rfl) (by rw [zE_47]; simp [zModel, xg_xs]) (fun q hq hne => zE_xs (by have := zOk_54 ok; omega) (by rw [show zown 17 1 = 47 from rfl]; exact hne)) kk
theorem z_put_X3_spot (ok : zOk k G N cc own fr lo) {index : Nat} (d : decode cc pc = .ok (.putfield index, 3)) (hN : 54 ≤ N) (hw : Cond.fieldLink own index "ClockworkChessModel" "spot" "I" ∈ zTab) (kk : zZ k G N (xs w 17 2 x) (pc + 3) lv st) : zZ k G N w pc lv (.int x :: .ref (zad G 47) :: st) :=
  z_put (ty := .int) ok d (xs w 17 2 x) 47 (by omega) (zE_47 G w) rfl zu_X3 tyX3 tyX3_ok nmX3 8 (by decide) hw ⟨rfl, rfl⟩ (by decide +kernel) rfl rfl (Nat.le_of_ble_eq_true rfl) (by rw [zE_47]; simp [zModel, xg_xs]) (fun q hq hne => zE_xs (by have := zOk_54 ok; omega) (by rw [show zown 17 2 = 47 from rfl]; exact hne)) kk
theorem z_put_X3_itsFrom (ok : zOk k G N cc own fr lo) {index : Nat} (d : decode cc pc = .ok (.putfield index, 3)) (hN : 54 ≤ N) (hw : Cond.fieldLink own index "ClockworkChessModel" "itsFrom" "I" ∈ zTab) (kk : zZ k G N (xs w 17 3 x) (pc + 3) lv st) : zZ k G N w pc lv (.int x :: .ref (zad G 47) :: st) :=
  z_put (ty := .int) ok d (xs w 17 3 x) 47 (by omega) (zE_47 G w) rfl zu_X3 tyX3 tyX3_ok nmX3 9 (by decide) hw ⟨rfl, rfl⟩ (by decide +kernel) rfl rfl (Nat.le_of_ble_eq_true rfl) (by rw [zE_47]; simp [zModel, xg_xs]) (fun q hq hne => zE_xs (by have := zOk_54 ok; omega) (by rw [show zown 17 3 = 47 from rfl]; exact hne)) kk
theorem z_put_X3_itsTo (ok : zOk k G N cc own fr lo) {index : Nat} (d : decode cc pc = .ok (.putfield index, 3)) (hN : 54 ≤ N) (hw : Cond.fieldLink own index "ClockworkChessModel" "itsTo" "I" ∈ zTab) (kk : zZ k G N (xs w 17 4 x) (pc + 3) lv st) : zZ k G N w pc lv (.int x :: .ref (zad G 47) :: st) :=
  z_put (ty := .int) ok d (xs w 17 4 x) 47 (by omega) (zE_47 G w) rfl zu_X3 tyX3 tyX3_ok nmX3 10 (by decide) hw ⟨rfl, rfl⟩ (by decide +kernel) rfl rfl (Nat.le_of_ble_eq_true rfl) (by rw [zE_47]; simp [zModel, xg_xs]) (fun q hq hne => zE_xs (by have := zOk_54 ok; omega) (by rw [show zown 17 4 = 47 from rfl]; exact hne)) kk
theorem z_put_X3_from (ok : zOk k G N cc own fr lo) {index : Nat} (d : decode cc pc = .ok (.putfield index, 3)) (hN : 54 ≤ N) (hw : Cond.fieldLink own index "ClockworkChessModel" "from" "I" ∈ zTab) (kk : zZ k G N (xs w 17 5 x) (pc + 3) lv st) : zZ k G N w pc lv (.int x :: .ref (zad G 47) :: st) :=
  z_put (ty := .int) ok d (xs w 17 5 x) 47 (by omega) (zE_47 G w) rfl zu_X3 tyX3 tyX3_ok nmX3 11 (by decide) hw ⟨rfl, rfl⟩ (by decide +kernel) rfl rfl (Nat.le_of_ble_eq_true rfl) (by rw [zE_47]; simp [zModel, xg_xs]) (fun q hq hne => zE_xs (by have := zOk_54 ok; omega) (by rw [show zown 17 5 = 47 from rfl]; exact hne)) kk
theorem z_put_X3_many (ok : zOk k G N cc own fr lo) {index : Nat} (d : decode cc pc = .ok (.putfield index, 3)) (hN : 54 ≤ N) (hw : Cond.fieldLink own index "ClockworkChessModel" "many" "I" ∈ zTab) (kk : zZ k G N (xs w 17 6 x) (pc + 3) lv st) : zZ k G N w pc lv (.int x :: .ref (zad G 47) :: st) :=
  z_put (ty := .int) ok d (xs w 17 6 x) 47 (by omega) (zE_47 G w) rfl zu_X3 tyX3 tyX3_ok nmX3 12 (by decide) hw ⟨rfl, rfl⟩ (by decide +kernel) rfl rfl (Nat.le_of_ble_eq_true rfl) (by rw [zE_47]; simp [zModel, xg_xs]) (fun q hq hne => zE_xs (by have := zOk_54 ok; omega) (by rw [show zown 17 6 = 47 from rfl]; exact hne)) kk
theorem z_put_X2_springLeft (ok : zOk k G N cc own fr lo) {index : Nat} (d : decode cc pc = .ok (.putfield index, 3)) (hN : 47 ≤ N) (t : Nat) (ht : t = 3 ∨ t = 4) (hw : Cond.fieldLink own index "ClockworkChess" "springLeft" "[I" ∈ zTab) (kk : zZ k G N (xp w 5 (t - 3)) (pc + 3) lv st) : zZ k G N w pc lv (.ref (zad G t) :: .ref (zad G 0) :: st) :=
  z_put (ty := .array .int) ok d (xp w 5 (t - 3)) 0 (by omega) (zE_0 G w) rfl zu_X2 tyX2 tyX2_ok nmX2 6 (by decide) hw ⟨rfl, rfl⟩ (by decide +kernel) rfl rfl (Nat.le_of_ble_eq_true rfl) (by rcases ht with rfl | rfl <;> rw [zE_0] <;> simp [zOuter, xp, zpr, xg]) (fun q hq hne => zE_xp5 (by have := zOk_54 ok; omega) hne (by decide)) kk
theorem z_put_X2_springLeftNext (ok : zOk k G N cc own fr lo) {index : Nat} (d : decode cc pc = .ok (.putfield index, 3)) (hN : 47 ≤ N) (t : Nat) (ht : t = 3 ∨ t = 4) (hw : Cond.fieldLink own index "ClockworkChess" "springLeftNext" "[I" ∈ zTab) (kk : zZ k G N (xp w 6 (t - 3)) (pc + 3) lv st) : zZ k G N w pc lv (.ref (zad G t) :: .ref (zad G 0) :: st) :=
  z_put (ty := .array .int) ok d (xp w 6 (t - 3)) 0 (by omega) (zE_0 G w) rfl zu_X2 tyX2 tyX2_ok nmX2 7 (by decide) hw ⟨rfl, rfl⟩ (by decide +kernel) rfl rfl (Nat.le_of_ble_eq_true rfl) (by rcases ht with rfl | rfl <;> rw [zE_0] <;> simp [zOuter, xp, zpr, xg]) (fun q hq hne => zE_xp5 (by have := zOk_54 ok; omega) hne (by decide)) kk
end ZF
section ZH
variable {k : zC} {G : zG} {N : Nat} {cc : ByteArray} {own : String} {fr lo : Nat} {w u : xW} {pc : Nat} {lv : List (Nat × Value)} {st : List Value} {x y : Int32}
theorem z_gld0 (ok : zOk k G N cc own fr lo) (d : decode cc pc = .ok (.iaload, 1)) (g : Nat) (hgi : g < 7) (hN : 47 ≤ N) (c : Nat) (hx : x = nI c) (hc : c < 36) (kk : zZ k G N w (pc + 1) lv (.int (xg w g c) :: st)) : zZ k G N w pc lv (.int x :: .ref (zad G (7 + 6 * g)) :: st) :=
  z_iald ok d (7 + 6 * g) (by omega) (zE_arr (r := 0) G w hgi (by decide)) c hx hc (by decide) (by simpa using kk)
theorem z_gst0 (ok : zOk k G N cc own fr lo) (d : decode cc pc = .ok (.iastore, 1)) (g : Nat) (hgi : g < 7) (hN : 47 ≤ N) (c : Nat) (hx : x = nI c) (hc : c < 36) (kk : zZ k G N (xs w g c y) (pc + 1) lv st) : zZ k G N w pc lv (.int y :: .int x :: .ref (zad G (7 + 6 * g)) :: st) :=
  z_iast ok d (7 + 6 * g) (by omega) (fun u => zE_arr (r := 0) G u hgi (by decide)) c hx hc (by decide) ((zown_arr (r := 0) hgi (by decide) hc).trans (by omega)) (by simpa using kk)
theorem z_gld1 (ok : zOk k G N cc own fr lo) (d : decode cc pc = .ok (.iaload, 1)) (g : Nat) (hgi : g < 7) (hN : 47 ≤ N) (c : Nat) (hx : x = nI c) (hc : c < 36) (kk : zZ k G N w (pc + 1) lv (.int (xg w g (36 + c)) :: st)) : zZ k G N w pc lv (.int x :: .ref (zad G (8 + 6 * g)) :: st) :=
  z_iald ok d (8 + 6 * g) (by omega) (zE_arr (r := 1) G w hgi (by decide)) c hx hc (by decide) kk
theorem z_gst1 (ok : zOk k G N cc own fr lo) (d : decode cc pc = .ok (.iastore, 1)) (g : Nat) (hgi : g < 7) (hN : 47 ≤ N) (c : Nat) (hx : x = nI c) (hc : c < 36) (kk : zZ k G N (xs w g (36 + c) y) (pc + 1) lv st) : zZ k G N w pc lv (.int y :: .int x :: .ref (zad G (8 + 6 * g)) :: st) :=
  z_iast ok d (8 + 6 * g) (by omega) (fun u => zE_arr (r := 1) G u hgi (by decide)) c hx hc (by decide) ((zown_arr (r := 1) hgi (by decide) hc).trans (by omega)) kk
theorem z_gld2 (ok : zOk k G N cc own fr lo) (d : decode cc pc = .ok (.iaload, 1)) (g : Nat) (hgi : g < 7) (hN : 47 ≤ N) (c : Nat) (hx : x = nI c) (hc : c < 36) (kk : zZ k G N w (pc + 1) lv (.int (xg w g (72 + c)) :: st)) : zZ k G N w pc lv (.int x :: .ref (zad G (9 + 6 * g)) :: st) :=
  z_iald ok d (9 + 6 * g) (by omega) (zE_arr (r := 2) G w hgi (by decide)) c hx hc (by decide) kk
theorem z_gst2 (ok : zOk k G N cc own fr lo) (d : decode cc pc = .ok (.iastore, 1)) (g : Nat) (hgi : g < 7) (hN : 47 ≤ N) (c : Nat) (hx : x = nI c) (hc : c < 36) (kk : zZ k G N (xs w g (72 + c) y) (pc + 1) lv st) : zZ k G N w pc lv (.int y :: .int x :: .ref (zad G (9 + 6 * g)) :: st) :=
  z_iast ok d (9 + 6 * g) (by omega) (fun u => zE_arr (r := 2) G u hgi (by decide)) c hx hc (by decide) ((zown_arr (r := 2) hgi (by decide) hc).trans (by omega)) kk
theorem z_gld3 (ok : zOk k G N cc own fr lo) (d : decode cc pc = .ok (.iaload, 1)) (g : Nat) (hgi : g < 7) (hN : 47 ≤ N) (c : Nat) (hx : x = nI c) (hc : c < 36) (kk : zZ k G N w (pc + 1) lv (.int (xg w g (108 + c)) :: st)) : zZ k G N w pc lv (.int x :: .ref (zad G (10 + 6 * g)) :: st) :=
  z_iald ok d (10 + 6 * g) (by omega) (zE_arr (r := 3) G w hgi (by decide)) c hx hc (by decide) kk
theorem z_gst3 (ok : zOk k G N cc own fr lo) (d : decode cc pc = .ok (.iastore, 1)) (g : Nat) (hgi : g < 7) (hN : 47 ≤ N) (c : Nat) (hx : x = nI c) (hc : c < 36) (kk : zZ k G N (xs w g (108 + c) y) (pc + 1) lv st) : zZ k G N w pc lv (.int y :: .int x :: .ref (zad G (10 + 6 * g)) :: st) :=
  z_iast ok d (10 + 6 * g) (by omega) (fun u => zE_arr (r := 3) G u hgi (by decide)) c hx hc (by decide) ((zown_arr (r := 3) hgi (by decide) hc).trans (by omega)) kk
theorem z_mld48 (ok : zOk k G N cc own fr lo) (d : decode cc pc = .ok (.iaload, 1)) (hN : 54 ≤ N) (c : Nat) (hx : x = nI c) (hc : c < 159) (kk : zZ k G N w (pc + 1) lv (.int (xg w 11 c) :: st)) : zZ k G N w pc lv (.int x :: .ref (zad G 48) :: st) :=
  z_iald ok d 48 (by omega) (zE_48 G w) c hx hc (Nat.le_of_ble_eq_true rfl) (by rw [Nat.zero_add]; exact kk)
theorem z_mst48 (ok : zOk k G N cc own fr lo) (d : decode cc pc = .ok (.iastore, 1)) (hN : 54 ≤ N) (c : Nat) (hx : x = nI c) (hc : c < 159) (kk : zZ k G N (xs w 11 c y) (pc + 1) lv st) : zZ k G N w pc lv (.int y :: .int x :: .ref (zad G 48) :: st) :=
  z_iast ok d 48 (by omega) (fun u => zE_48 G u) c hx hc (by decide) rfl (by rw [Nat.zero_add]; exact kk)
theorem z_mld49 (ok : zOk k G N cc own fr lo) (d : decode cc pc = .ok (.iaload, 1)) (hN : 54 ≤ N) (c : Nat) (hx : x = nI c) (hc : c < 795) (kk : zZ k G N w (pc + 1) lv (.int (xg w 12 c) :: st)) : zZ k G N w pc lv (.int x :: .ref (zad G 49) :: st) :=
  z_iald ok d 49 (by omega) (zE_49 G w) c hx hc (Nat.le_of_ble_eq_true rfl) (by rw [Nat.zero_add]; exact kk)
theorem z_mst49 (ok : zOk k G N cc own fr lo) (d : decode cc pc = .ok (.iastore, 1)) (hN : 54 ≤ N) (c : Nat) (hx : x = nI c) (hc : c < 795) (kk : zZ k G N (xs w 12 c y) (pc + 1) lv st) : zZ k G N w pc lv (.int y :: .int x :: .ref (zad G 49) :: st) :=
  z_iast ok d 49 (by omega) (fun u => zE_49 G u) c hx hc (by decide) rfl (by rw [Nat.zero_add]; exact kk)
theorem z_mld50 (ok : zOk k G N cc own fr lo) (d : decode cc pc = .ok (.iaload, 1)) (hN : 54 ≤ N) (c : Nat) (hx : x = nI c) (hc : c < 159) (kk : zZ k G N w (pc + 1) lv (.int (xg w 13 c) :: st)) : zZ k G N w pc lv (.int x :: .ref (zad G 50) :: st) :=
  z_iald ok d 50 (by omega) (zE_50 G w) c hx hc (Nat.le_of_ble_eq_true rfl) (by rw [Nat.zero_add]; exact kk)
theorem z_mst50 (ok : zOk k G N cc own fr lo) (d : decode cc pc = .ok (.iastore, 1)) (hN : 54 ≤ N) (c : Nat) (hx : x = nI c) (hc : c < 159) (kk : zZ k G N (xs w 13 c y) (pc + 1) lv st) : zZ k G N w pc lv (.int y :: .int x :: .ref (zad G 50) :: st) :=
  z_iast ok d 50 (by omega) (fun u => zE_50 G u) c hx hc (by decide) rfl (by rw [Nat.zero_add]; exact kk)
theorem z_mld51 (ok : zOk k G N cc own fr lo) (d : decode cc pc = .ok (.iaload, 1)) (hN : 54 ≤ N) (c : Nat) (hx : x = nI c) (hc : c < 80) (kk : zZ k G N w (pc + 1) lv (.int (xg w 14 c) :: st)) : zZ k G N w pc lv (.int x :: .ref (zad G 51) :: st) :=
  z_iald ok d 51 (by omega) (zE_51 G w) c hx hc (Nat.le_of_ble_eq_true rfl) (by rw [Nat.zero_add]; exact kk)
theorem z_mst51 (ok : zOk k G N cc own fr lo) (d : decode cc pc = .ok (.iastore, 1)) (hN : 54 ≤ N) (c : Nat) (hx : x = nI c) (hc : c < 80) (kk : zZ k G N (xs w 14 c y) (pc + 1) lv st) : zZ k G N w pc lv (.int y :: .int x :: .ref (zad G 51) :: st) :=
  z_iast ok d 51 (by omega) (fun u => zE_51 G u) c hx hc (by decide) rfl (by rw [Nat.zero_add]; exact kk)
theorem z_mld52 (ok : zOk k G N cc own fr lo) (d : decode cc pc = .ok (.iaload, 1)) (hN : 54 ≤ N) (c : Nat) (hx : x = nI c) (hc : c < 36) (kk : zZ k G N w (pc + 1) lv (.int (xg w 15 c) :: st)) : zZ k G N w pc lv (.int x :: .ref (zad G 52) :: st) :=
  z_iald ok d 52 (by omega) (zE_52 G w) c hx hc (Nat.le_of_ble_eq_true rfl) (by rw [Nat.zero_add]; exact kk)
theorem z_mst52 (ok : zOk k G N cc own fr lo) (d : decode cc pc = .ok (.iastore, 1)) (hN : 54 ≤ N) (c : Nat) (hx : x = nI c) (hc : c < 36) (kk : zZ k G N (xs w 15 c y) (pc + 1) lv st) : zZ k G N w pc lv (.int y :: .int x :: .ref (zad G 52) :: st) :=
  z_iast ok d 52 (by omega) (fun u => zE_52 G u) c hx hc (by decide) rfl (by rw [Nat.zero_add]; exact kk)
theorem z_mld53 (ok : zOk k G N cc own fr lo) (d : decode cc pc = .ok (.iaload, 1)) (hN : 54 ≤ N) (c : Nat) (hx : x = nI c) (hc : c < 36) (kk : zZ k G N w (pc + 1) lv (.int (xg w 16 c) :: st)) : zZ k G N w pc lv (.int x :: .ref (zad G 53) :: st) :=
  z_iald ok d 53 (by omega) (zE_53 G w) c hx hc (Nat.le_of_ble_eq_true rfl) (by rw [Nat.zero_add]; exact kk)
theorem z_mst53 (ok : zOk k G N cc own fr lo) (d : decode cc pc = .ok (.iastore, 1)) (hN : 54 ≤ N) (c : Nat) (hx : x = nI c) (hc : c < 36) (kk : zZ k G N (xs w 16 c y) (pc + 1) lv st) : zZ k G N w pc lv (.int y :: .int x :: .ref (zad G 53) :: st) :=
  z_iast ok d 53 (by omega) (fun u => zE_53 G u) c hx hc (by decide) rfl (by rw [Nat.zero_add]; exact kk)
theorem z_rld (ok : zOk k G N cc own fr lo) (d : decode cc pc = .ok (.iaload, 1)) (z : xW) (j : Nat) (hN : 47 ≤ N) (c : Nat) (hx : x = nI c) (hc : c < 36) (kk : zZ k G N w (pc + 1) lv (.int (xg w (5 + zpr z j) c) :: st)) : zZ k G N w pc lv (.int x :: .ref (zad G (zpr z j)) :: st) :=
  z_iald ok d (zpr z j) (by have := zpr_lt z j; omega) (zE_row G z w j) c hx hc (Nat.le_of_ble_eq_true rfl) (by rw [Nat.zero_add]; exact kk)
theorem z_rst (ok : zOk k G N cc own fr lo) (d : decode cc pc = .ok (.iastore, 1)) (z : xW) (j : Nat) (hN : 47 ≤ N) (c : Nat) (hx : x = nI c) (hc : c < 36) (kk : zZ k G N (xs w (5 + zpr z j) c y) (pc + 1) lv st) : zZ k G N w pc lv (.int y :: .int x :: .ref (zad G (zpr z j)) :: st) :=
  z_iast ok d (zpr z j) (by have := zpr_lt z j; omega) (fun u => zE_row G z u j) c hx hc (by decide) (by have h : zpr z j = 3 ∨ zpr z j = 4 := by { unfold zpr; omega }; rcases h with h | h <;> rw [h] <;> rfl) (by rw [Nat.zero_add]; exact kk)
/-- calls that answer a number, and calls that answer nothing -/
theorem z_callVi (ok : zOk k G N cc own fr lo) (old : zOld k G N) {yy : MethodName} {cy : ByteArray} {maxL ny fy ly index ci : Nat} {ret : Option FieldType} {fs As st0 args : List Value} {r : Int32} {C : String} {T : u_T} {n : Nat} (d : decode cc pc = .ok (.invokevirtual index, 3)) (rest : List Value) (hM : zM yy cy maxL ret fy ly G N args w (some r) u) (hY : zY yy cy maxL ret ny) (hw : Cond.methodLink own index yy ∈ zTab) (i : Nat) (hi : i < N) (he : zE G w i = .inr (ci, fs)) (hc : vwCl[ci]? = some (C, T, n)) (hC : C = yy.cls) (ha : args = .ref (zad G i) :: As) (hst : st0 = As.reverse ++ .ref (zad G i) :: rest) (hn : As.length = ny) (hroom : fy + 1 ≤ fr ∧ 8 + (maxL + 11) + ly ≤ lo) (hrest : (rest.map fun v => v.category).sum ≤ 8) (kk : zZ k G N u (pc + 3) lv (.int r :: rest)) : zZ k G N w pc lv st0 := z_callV ok old d hM hY hw i hi he hc hC ha hst hn hroom hrest kk
theorem z_callVv (ok : zOk k G N cc own fr lo) (old : zOld k G N) {yy : MethodName} {cy : ByteArray} {maxL ny fy ly index ci : Nat} {ret : Option FieldType} {fs As st0 args : List Value} {C : String} {T : u_T} {n : Nat} (d : decode cc pc = .ok (.invokevirtual index, 3)) (rest : List Value) (hM : zM yy cy maxL ret fy ly G N args w none u) (hY : zY yy cy maxL ret ny) (hw : Cond.methodLink own index yy ∈ zTab) (i : Nat) (hi : i < N) (he : zE G w i = .inr (ci, fs)) (hc : vwCl[ci]? = some (C, T, n)) (hC : C = yy.cls) (ha : args = .ref (zad G i) :: As) (hst : st0 = As.reverse ++ .ref (zad G i) :: rest) (hn : As.length = ny) (hroom : fy + 1 ≤ fr ∧ 8 + (maxL + 11) + ly ≤ lo) (hrest : (rest.map fun v => v.category).sum ≤ 8) (kk : zZ k G N u (pc + 3) lv rest) : zZ k G N w pc lv st0 := z_callV ok old d hM hY hw i hi he hc hC ha hst hn hroom hrest kk
theorem z_callVNi (ok : zOk k G N cc own fr lo) (old : zOld k G N) {yy : MethodName} {cy : ByteArray} {maxL ny fy ly index ci : Nat} {ret : Option FieldType} {fs As st0 args : List Value} {r : Int32} {C host : String} {T : u_T} {n : Nat} (d : decode cc pc = .ok (.invokevirtual index, 3)) (rest : List Value) (hM : zM yy cy maxL ret fy ly G N args w (some r) u) (hY : zY yy cy maxL ret ny) (hw : Cond.methodLinkNest own index yy host ∈ zTab) (i : Nat) (hi : i < N) (he : zE G w i = .inr (ci, fs)) (hc : vwCl[ci]? = some (C, T, n)) (hC : C = yy.cls) (ha : args = .ref (zad G i) :: As) (hst : st0 = As.reverse ++ .ref (zad G i) :: rest) (hn : As.length = ny) (hroom : fy + 1 ≤ fr ∧ 8 + (maxL + 11) + ly ≤ lo) (hrest : (rest.map fun v => v.category).sum ≤ 8) (kk : zZ k G N u (pc + 3) lv (.int r :: rest)) : zZ k G N w pc lv st0 := z_callVN ok old d hM hY hw i hi he hc hC ha hst hn hroom hrest kk
theorem z_callVNv (ok : zOk k G N cc own fr lo) (old : zOld k G N) {yy : MethodName} {cy : ByteArray} {maxL ny fy ly index ci : Nat} {ret : Option FieldType} {fs As st0 args : List Value} {C host : String} {T : u_T} {n : Nat} (d : decode cc pc = .ok (.invokevirtual index, 3)) (rest : List Value) (hM : zM yy cy maxL ret fy ly G N args w none u) (hY : zY yy cy maxL ret ny) (hw : Cond.methodLinkNest own index yy host ∈ zTab) (i : Nat) (hi : i < N) (he : zE G w i = .inr (ci, fs)) (hc : vwCl[ci]? = some (C, T, n)) (hC : C = yy.cls) (ha : args = .ref (zad G i) :: As) (hst : st0 = As.reverse ++ .ref (zad G i) :: rest) (hn : As.length = ny) (hroom : fy + 1 ≤ fr ∧ 8 + (maxL + 11) + ly ≤ lo) (hrest : (rest.map fun v => v.category).sum ≤ 8) (kk : zZ k G N u (pc + 3) lv rest) : zZ k G N w pc lv st0 := z_callVN ok old d hM hY hw i hi he hc hC ha hst hn hroom hrest kk
theorem z_callSi (ok : zOk k G N cc own fr lo) (old : zOld k G N) {yy : MethodName} {cy : ByteArray} {maxL ny fy ly index : Nat} {ret : Option FieldType} {st0 args : List Value} {r : Int32} (d : decode cc pc = .ok (.invokestatic index, 3)) (rest : List Value) (hM : zM yy cy maxL ret fy ly G N args w (some r) u) (hY : zYS yy cy maxL ret ny) (hw : Cond.methodLink own index yy ∈ zTab) (hst : st0 = args.reverse ++ rest) (hn : args.length = ny) (hroom : fy + 1 ≤ fr ∧ 8 + (maxL + 11) + ly ≤ lo) (hrest : (rest.map fun v => v.category).sum ≤ 8) (kk : zZ k G N u (pc + 3) lv (.int r :: rest)) : zZ k G N w pc lv st0 := z_callS ok old d hM hY hw hst hn hroom hrest kk
theorem z_callSNi (ok : zOk k G N cc own fr lo) (old : zOld k G N) {yy : MethodName} {cy : ByteArray} {maxL ny fy ly index : Nat} {ret : Option FieldType} {st0 args : List Value} {r : Int32} {host : String} (d : decode cc pc = .ok (.invokestatic index, 3)) (rest : List Value) (hM : zM yy cy maxL ret fy ly G N args w (some r) u) (hY : zYS yy cy maxL ret ny) (hw : Cond.methodLinkNest own index yy host ∈ zTab) (hst : st0 = args.reverse ++ rest) (hn : args.length = ny) (hroom : fy + 1 ≤ fr ∧ 8 + (maxL + 11) + ly ≤ lo) (hrest : (rest.map fun v => v.category).sum ≤ 8) (kk : zZ k G N u (pc + 3) lv (.int r :: rest)) : zZ k G N w pc lv st0 := z_callSN ok old d hM hY hw hst hn hroom hrest kk
theorem z_iadd_0 (ok : zOk k G N cc own fr lo) (d : decode cc pc = .ok (.iadd, 1)) (kk : zZ k G N w (pc + 1) lv (.int y :: st)) : zZ k G N w pc lv (.int y :: .int 0 :: st) := z_iadd ok d (by rw [Int32.zero_add]; exact kk)
end ZH
end
section
/-! small facts that the laid rows name -/
theorem z_incn (a b : Nat) : nI a + Int32.ofInt (b : Int) = nI (a + b) := by
  rw [← nI_add]
  rfl
theorem zg_lt {N g : Nat} (hN : 47 ≤ N) (hg : g < 7) : 5 + 6 * g < N := by omega
theorem zg_lt' {N g : Nat} (hN : 47 ≤ N) (hg : g < 7) : 6 + 6 * g < N := by omega
theorem zpr_34 (w : xW) (j : Nat) : zpr w j = 3 ∨ zpr w j = 4 := by unfold zpr; omega
theorem zidxN {x : Int32} {n : Nat} (hn : n < 2147483648) (h1 : ¬ x < 0) (h2 : ¬ nI n ≤ x) : x = nI x.toNatClampNeg ∧ x.toNatClampNeg < n := by
  rcases pk_ix x hn with h | h | ⟨j, hj, rfl⟩
  · exact absurd h h1
  · exact absurd h h2
  · rw [zcl (by omega)]; exact ⟨rfl, hj⟩
theorem zidx {x : Int32} (h1 : ¬ x < 0) (h2 : ¬ 36 ≤ x) : x = nI x.toNatClampNeg ∧ x.toNatClampNeg < 36 := zidxN (by decide) h1 h2
theorem zidx5 {x : Int32} (h1 : ¬ x < 0) (h2 : ¬ 5 ≤ x) : x = nI x.toNatClampNeg ∧ x.toNatClampNeg < 5 := zidxN (by decide) h1 h2
theorem zidx80 {x : Int32} (h1 : ¬ x < 0) (h2 : ¬ 80 ≤ x) : x = nI x.toNatClampNeg ∧ x.toNatClampNeg < 80 := zidxN (by decide) h1 h2
theorem zcellx {x : Int32} {n c : Nat} (h : x = nI x.toNatClampNeg ∧ x.toNatClampNeg < n) (hc : c = x.toNatClampNeg) : c < n ∧ x = nI c := by
  subst hc
  exact ⟨h.2, h.1⟩
theorem ztab_outN {x : Int32} {n : Nat} (hn : n < 2147483648) (h : ∀ j, j < n → ¬ x = nI j) : x.toInt < 0 ∨ (n : Int) - 1 < x.toInt := by
  rcases pk_ix x hn with q | q | ⟨j, hj, rfl⟩
  · left
    have := Int32.lt_iff_toInt_lt.mp q
    simpa using this
  · right
    have := Int32.le_iff_toInt_le.mp q
    rw [nI_toInt (by omega)] at this
    omega
  · exact absurd rfl (h j hj)
theorem ztab_out4 {x : Int32} (h0 : ¬ x = 0) (h1 : ¬ x = 1) (h2 : ¬ x = 2) (h3 : ¬ x = 3) : x.toInt < 0 ∨ 3 < x.toInt := ztab_outN (n := 4) (by decide) fun j hj => by
  rcases (by omega : j = 0 ∨ j = 1 ∨ j = 2 ∨ j = 3) with rfl | rfl | rfl | rfl <;> assumption
theorem ztab_out3 {x : Int32} (h0 : ¬ x = 0) (h1 : ¬ x = 1) (h2 : ¬ x = 2) : x.toInt < 0 ∨ 2 < x.toInt := ztab_outN (n := 3) (by decide) fun j hj => by
  rcases (by omega : j = 0 ∨ j = 1 ∨ j = 2) with rfl | rfl | rfl <;> assumption
theorem ztab_out6 {x : Int32} (h0 : ¬ x = 0) (h1 : ¬ x = 1) (h2 : ¬ x = 2) (h3 : ¬ x = 3) (h4 : ¬ x = 4) (h5 : ¬ x = 5) : x.toInt < 0 ∨ 5 < x.toInt := ztab_outN (n := 6) (by decide) fun j hj => by
  rcases (by omega : j = 0 ∨ j = 1 ∨ j = 2 ∨ j = 3 ∨ j = 4 ∨ j = 5) with rfl | rfl | rfl | rfl | rfl | rfl <;> assumption
theorem ztab_out13 {x : Int32} (h0 : ¬ x = 0) (h1 : ¬ x = 1) (h2 : ¬ x = 2) (h3 : ¬ x = 3) (h4 : ¬ x = 4) (h5 : ¬ x = 5) (h6 : ¬ x = 6) (h7 : ¬ x = 7) (h8 : ¬ x = 8) (h9 : ¬ x = 9) (h10 : ¬ x = 10) (h11 : ¬ x = 11) (h12 : ¬ x = 12) : x.toInt < 0 ∨ 12 < x.toInt := ztab_outN (n := 13) (by decide) fun j hj => by
  rcases (by omega : j = 0 ∨ j = 1 ∨ j = 2 ∨ j = 3 ∨ j = 4 ∨ j = 5 ∨ j = 6 ∨ j = 7 ∨ j = 8 ∨ j = 9 ∨ j = 10 ∨ j = 11 ∨ j = 12) with rfl | rfl | rfl | rfl | rfl | rfl | rfl | rfl | rfl | rfl | rfl | rfl | rfl <;> assumption
theorem ztab_out26 {x : Int32} (h0 : ¬ x = 0) (h1 : ¬ x = 1) (h2 : ¬ x = 2) (h3 : ¬ x = 3) (h4 : ¬ x = 4) (h5 : ¬ x = 5) (h6 : ¬ x = 6) (h7 : ¬ x = 7) (h8 : ¬ x = 8) (h9 : ¬ x = 9) (h10 : ¬ x = 10) (h11 : ¬ x = 11) (h12 : ¬ x = 12) (h13 : ¬ x = 13) (h14 : ¬ x = 14) (h15 : ¬ x = 15) (h16 : ¬ x = 16) (h17 : ¬ x = 17) (h18 : ¬ x = 18) (h19 : ¬ x = 19) (h20 : ¬ x = 20) (h21 : ¬ x = 21) (h22 : ¬ x = 22) (h23 : ¬ x = 23) (h24 : ¬ x = 24) (h25 : ¬ x = 25) : x.toInt < 0 ∨ 25 < x.toInt := ztab_outN (n := 26) (by decide) fun j hj => by
  rcases (by omega : j = 0 ∨ j = 1 ∨ j = 2 ∨ j = 3 ∨ j = 4 ∨ j = 5 ∨ j = 6 ∨ j = 7 ∨ j = 8 ∨ j = 9 ∨ j = 10 ∨ j = 11 ∨ j = 12 ∨ j = 13 ∨ j = 14 ∨ j = 15 ∨ j = 16 ∨ j = 17 ∨ j = 18 ∨ j = 19 ∨ j = 20 ∨ j = 21 ∨ j = 22 ∨ j = 23 ∨ j = 24 ∨ j = 25) with rfl | rfl | rfl | rfl | rfl | rfl | rfl | rfl | rfl | rfl | rfl | rfl | rfl | rfl | rfl | rfl | rfl | rfl | rfl | rfl | rfl | rfl | rfl | rfl | rfl | rfl <;> assumption
theorem zlook_out2 {x : Int32} {a b df : Int} (h0 : ¬ x = 0) (h1 : ¬ x = 1) : Op.lookupswitch.offset [(0, a), (1, b)] df x.toInt = df := by
  have e0 : ¬ x.toInt = 0 := fun h => h0 (Int32.toInt_inj.mp h)
  have e1 : ¬ x.toInt = 1 := fun h => h1 (Int32.toInt_inj.mp h)
  simp [Op.lookupswitch.offset, e0, e1, Ne.symm e0, Ne.symm e1]
/-- 36 numbers of one row over those of another -/
def xcopy (w : xW) (v o v0 o0 : Nat) : xW := (fun a b => if a = v ∧ o ≤ b ∧ b < o + 36 then xg w v0 (o0 + (b - o)) else w.1 a b, w.2)
theorem xcopy_xg (w : xW) (v o v0 o0 a b : Nat) : xg (xcopy w v o v0 o0) a b = if a = v ∧ o ≤ b ∧ b < o + 36 then xg w v0 (o0 + (b - o)) else xg w a b := rfl
theorem zown_cp {g r b : Nat} (hg : g < 7) (hr : r < 4) (h1 : 36 * r ≤ b) (h2 : b < 36 * r + 36) : zown g b = 7 + r + 6 * g := by
  obtain ⟨c, e⟩ : ∃ c, b = 36 * r + c := ⟨b - 36 * r, by omega⟩
  subst e
  exact zown_arr hg hr (by omega)
theorem zown_row (w : xW) (j b : Nat) : zown (5 + zpr w j) b = zpr w j := by
  rcases zpr_34 w j with h | h <;> rw [h] <;> rfl
theorem znative : nativeFrameWords "java/lang/System" "arraycopy" 5 + 11 ≤ 60 := by decide
theorem zabs5 {x : Int32} (h : -6 < x.toInt ∧ x.toInt < 6) : 0 ≤ (if 0 ≤ x then x else 0 - x).toInt ∧ (if 0 ≤ x then x else 0 - x).toInt < 6 := by
  by_cases h0 : 0 ≤ x
  · rw [if_pos h0]
    have := Int32.le_iff_toInt_le.mp h0
    have e : (0 : Int32).toInt = 0 := rfl
    omega
  · rw [if_neg h0]
    have h1 : ¬ (0 : Int32).toInt ≤ x.toInt := fun q => h0 (Int32.le_iff_toInt_le.mpr q)
    have e : (0 : Int32).toInt = 0 := rfl
    have e2 : (0 - x).toInt = 0 - x.toInt := by
      rw [Int32.toInt_sub, e]
      rw [Int.bmod_eq_of_le] <;> omega
    omega
theorem zmax5 {a b x : Int32} (ha : -6 < a.toInt ∧ a.toInt < 6) (hb : -6 < b.toInt ∧ b.toInt < 6) (hx : x = if (if 0 ≤ a then a else 0 - a) < (if 0 ≤ b then b else 0 - b) then (if 0 ≤ b then b else 0 - b) else (if 0 ≤ a then a else 0 - a)) : x.toInt < 6 := by
  have h1 := zabs5 ha
  have h2 := zabs5 hb
  subst hx
  by_cases h : (if 0 ≤ a then a else 0 - a) < (if 0 ≤ b then b else 0 - b)
  · rw [if_pos h]; omega
  · rw [if_neg h]; omega
theorem zsteps_lt {x : Int32} {d : Nat} (h : ¬ x ≤ nI d) (hx : x.toInt < 6) (hd : d < 2147483648) : d < 5 := by
  have h1 : ¬ x.toInt ≤ (nI d).toInt := fun q => h (Int32.le_iff_toInt_le.mpr q)
  rw [nI_toInt hd] at h1
  omega
theorem zdiff5 {a b : Nat} (ha : a < 6) (hb : b < 6) : -6 < (nI a - nI b).toInt ∧ (nI a - nI b).toInt < 6 := by
  rw [pk_sub_toInt (by omega) (by omega)]
  omega
end
section
def d_J6_compare_7cf53 (w : xW) (a0 : Int32) (a1 : Int32) : Int32 :=
  if a1 ≤ a0 then (if a0 = a1 then (0)
  else (1))
  else ((-1))
set_option maxRecDepth 100000 in
set_option maxHeartbeats 4000000 in
theorem c_J6_compare_7cf53 (G : zG) (N : Nat) (hN : 47 ≤ N) (hg : zGeo G N) (w : xW) (a0 : Int32) (a1 : Int32) : zM yJ6_compare_7cf53 cJ6_compare_7cf53 2 (some .int) 0 0 G N [.int a0, .int a1] w (some (d_J6_compare_7cf53 w a0 a1)) w := by
  generalize hT : d_J6_compare_7cf53 w a0 a1 = r
  unfold d_J6_compare_7cf53 at hT
  refine zM_of zy_J6_compare_7cf53.2.2.2.2.2.2 hg ⟨Nat.le_of_ble_eq_true rfl, by decide⟩ rfl (fun k ok hE hI => ?_)
  have old := hE.old
  refine z_iload_n ok dJ6_compare_7cf53_0 0 rfl ?_
  refine z_iload_n ok dJ6_compare_7cf53_1 1 rfl ?_
  refine z_icmp_ge ok dJ6_compare_7cf53_2 9 (by decide) (fun c1 => ?_) (fun c1 => ?_)
  · rw [if_pos c1] at hT
    refine z_iload_n ok dJ6_compare_7cf53_9 0 rfl ?_
    refine z_iload_n ok dJ6_compare_7cf53_10 1 rfl ?_
    refine z_icmp_ne ok dJ6_compare_7cf53_11 18 (by decide) (fun c2 => ?_) (fun c2 => ?_)
    · rw [if_neg c2] at hT
      refine z_iconst ok dJ6_compare_7cf53_18 (x := 1) (by decide) ?_
      exact z_iret ok hE dJ6_compare_7cf53_19 rfl ⟨hT, rfl⟩
    · rw [if_pos c2] at hT
      refine z_iconst ok dJ6_compare_7cf53_14 (x := 0) (by decide) ?_
      refine z_goto ok dJ6_compare_7cf53_15 19 (by decide) ?_
      exact z_iret ok hE dJ6_compare_7cf53_19 rfl ⟨hT, rfl⟩
  · rw [if_neg c1] at hT
    refine z_iconst ok dJ6_compare_7cf53_5 (x := (-1)) (by decide) ?_
    refine z_goto ok dJ6_compare_7cf53_6 19 (by decide) ?_
    exact z_iret ok hE dJ6_compare_7cf53_19 rfl ⟨hT, rfl⟩

def d_X2_isCell (w : xW) (c : Int32) : Int32 :=
  if c < 0 then (0)
  else (if 36 ≤ c then (0)
  else (1))
set_option maxRecDepth 100000 in
set_option maxHeartbeats 4000000 in
theorem c_X2_isCell (G : zG) (N : Nat) (hN : 47 ≤ N) (hg : zGeo G N) (w : xW) (c : Int32) : zM yX2_isCell cX2_isCell 1 (some .boolean) 0 0 G N [.int c] w (some (d_X2_isCell w c)) w := by
  generalize hT : d_X2_isCell w c = r
  unfold d_X2_isCell at hT
  refine zM_of zy_X2_isCell.2.2.2.2.2.2 hg ⟨Nat.le_of_ble_eq_true rfl, by decide⟩ rfl (fun k ok hE hI => ?_)
  have old := hE.old
  refine z_iload_n ok dX2_isCell_0 0 rfl ?_
  refine z_if_lt ok dX2_isCell_1 14 (by decide) (fun c1 => ?_) (fun c1 => ?_)
  · rw [if_pos c1] at hT
    refine z_iconst ok dX2_isCell_14 (x := 0) (by decide) ?_
    exact z_iret ok hE dX2_isCell_15 rfl ⟨hT, rfl⟩
  · rw [if_neg c1] at hT
    refine z_iload_n ok dX2_isCell_4 0 rfl ?_
    refine z_bipush ok dX2_isCell_5 (x := 36) (by decide) ?_
    refine z_icmp_ge ok dX2_isCell_7 14 (by decide) (fun c2 => ?_) (fun c2 => ?_)
    · rw [if_pos c2] at hT
      refine z_iconst ok dX2_isCell_14 (x := 0) (by decide) ?_
      exact z_iret ok hE dX2_isCell_15 rfl ⟨hT, rfl⟩
    · rw [if_neg c2] at hT
      refine z_iconst ok dX2_isCell_10 (x := 1) (by decide) ?_
      refine z_goto ok dX2_isCell_11 15 (by decide) ?_
      exact z_iret ok hE dX2_isCell_15 rfl ⟨hT, rfl⟩

def d_X0_place (w : xW) (g : Nat) (c : Nat) (side : Int32) (kind : Int32) (spring : Int32) : xW :=
  if (d_X2_isCell w (nI c)) = 0 then (w)
  else (zlet (xs w g (c) side) fun w2 =>
  zlet (xs w2 g (36 + c) kind) fun w3 =>
  zlet (xs w3 g (72 + c) spring) fun w4 =>
  w4)
set_option maxRecDepth 100000 in
set_option maxHeartbeats 4000000 in
theorem c_X0_place (G : zG) (N : Nat) (hN : 47 ≤ N) (hg : zGeo G N) (w : xW) (g : Nat) (h_g : g < 7) (c : Nat) (h_c : c < 36) (side : Int32) (kind : Int32) (spring : Int32) : zM yX0_place cX0_place 5 none 1 20 G N [.ref (zad G (6 + 6 * g)), .int (nI c), .int side, .int kind, .int spring] w none (d_X0_place w g c side kind spring) := by
  generalize hT : d_X0_place w g c side kind spring = u
  unfold d_X0_place at hT
  refine zM_of zy_X0_place.2.2.2.2.2.2.2 hg ⟨Nat.le_of_ble_eq_true rfl, by decide⟩ rfl (fun k ok hE hI => ?_)
  have old := hE.old
  refine z_iload_n ok dX0_place_0 1 rfl ?_
  refine z_callSNi ok old dX0_place_1 [] (c_X2_isCell G N hN hg w (nI c)) zy_X2_isCell zw_187 rfl rfl (by decide) (Nat.le_of_ble_eq_true rfl) ?_
  refine z_if_eq ok dX0_place_4 29 (by decide) (fun c1 => ?_) (fun c1 => ?_)
  · rw [if_pos c1] at hT
    exact z_vret ok hE dX0_place_29 hT
  · rw [if_neg c1] at hT
    refine z_aload_n ok dX0_place_7 0 rfl ?_
    refine z_get_X0_sides ok dX0_place_8 g h_g hN zw_104 ?_
    refine z_iload_n ok dX0_place_11 1 rfl ?_
    refine z_iload_n ok dX0_place_12 2 rfl ?_
    refine z_gst0 ok dX0_place_13 g h_g hN c rfl (by omega) ?_
    replace hT := zlet_open hT
    obtain ⟨w2, hw2, hT⟩ := hT
    rw [← hw2]
    refine z_aload_n ok dX0_place_14 0 rfl ?_
    refine z_get_X0_kinds ok dX0_place_15 g h_g hN zw_105 ?_
    refine z_iload_n ok dX0_place_18 1 rfl ?_
    refine z_iload_n ok dX0_place_19 3 rfl ?_
    refine z_gst1 ok dX0_place_20 g h_g hN c rfl (by omega) ?_
    replace hT := zlet_open hT
    obtain ⟨w3, hw3, hT⟩ := hT
    rw [← hw3]
    refine z_aload_n ok dX0_place_21 0 rfl ?_
    refine z_get_X0_springs ok dX0_place_22 g h_g hN zw_106 ?_
    refine z_iload_n ok dX0_place_25 1 rfl ?_
    refine z_iload ok dX0_place_26 4 rfl ?_
    refine z_gst2 ok dX0_place_28 g h_g hN c rfl (by omega) ?_
    replace hT := zlet_open hT
    obtain ⟨w4, hw4, hT⟩ := hT
    rw [← hw4]
    exact z_vret ok hE dX0_place_29 hT

def d_X0_empty (w : xW) (g : Nat) (c : Nat) : xW :=
  zlet (d_X0_place w g c (-1) 0 0) fun w1 =>
  w1
set_option maxRecDepth 100000 in
set_option maxHeartbeats 4000000 in
theorem c_X0_empty (G : zG) (N : Nat) (hN : 47 ≤ N) (hg : zGeo G N) (w : xW) (g : Nat) (h_g : g < 7) (c : Nat) (h_c : c < 36) : zM yX0_empty cX0_empty 2 none 2 44 G N [.ref (zad G (6 + 6 * g)), .int (nI c)] w none (d_X0_empty w g c) := by
  generalize hT : d_X0_empty w g c = u
  unfold d_X0_empty at hT
  refine zM_of zy_X0_empty.2.2.2.2.2.2.2 hg ⟨Nat.le_of_ble_eq_true rfl, by decide⟩ rfl (fun k ok hE hI => ?_)
  have old := hE.old
  refine z_aload_n ok dX0_empty_0 0 rfl ?_
  refine z_iload_n ok dX0_empty_1 1 rfl ?_
  refine z_iconst ok dX0_empty_2 (x := (-1)) (by decide) ?_
  refine z_iconst ok dX0_empty_3 (x := 0) (by decide) ?_
  refine z_iconst ok dX0_empty_4 (x := 0) (by decide) ?_
  refine z_callVv ok old dX0_empty_5 [] (c_X0_place G N hN hg w g h_g c (by omega) (-1) 0 0) zy_X0_place zw_183 (6 + 6 * g) (zg_lt' hN h_g) (zE_board G w h_g) rfl rfl rfl rfl rfl (by decide) (Nat.le_of_ble_eq_true rfl) ?_
  replace hT := zlet_open hT
  obtain ⟨w1, hw1, hT⟩ := hT
  rw [← hw1]
  exact z_vret ok hE dX0_empty_8 hT

def d_X0_changeSpring (w : xW) (g : Nat) (c : Nat) (spring : Int32) : xW :=
  if (d_X2_isCell w (nI c)) = 0 then (w)
  else (zlet (xs w g (72 + c) spring) fun w2 =>
  w2)
set_option maxRecDepth 100000 in
set_option maxHeartbeats 4000000 in
theorem c_X0_changeSpring (G : zG) (N : Nat) (hN : 47 ≤ N) (hg : zGeo G N) (w : xW) (g : Nat) (h_g : g < 7) (c : Nat) (h_c : c < 36) (spring : Int32) : zM yX0_changeSpring cX0_changeSpring 3 none 1 20 G N [.ref (zad G (6 + 6 * g)), .int (nI c), .int spring] w none (d_X0_changeSpring w g c spring) := by
  generalize hT : d_X0_changeSpring w g c spring = u
  unfold d_X0_changeSpring at hT
  refine zM_of zy_X0_changeSpring.2.2.2.2.2.2.2 hg ⟨Nat.le_of_ble_eq_true rfl, by decide⟩ rfl (fun k ok hE hI => ?_)
  have old := hE.old
  refine z_iload_n ok dX0_changeSpring_0 1 rfl ?_
  refine z_callSNi ok old dX0_changeSpring_1 [] (c_X2_isCell G N hN hg w (nI c)) zy_X2_isCell zw_187 rfl rfl (by decide) (Nat.le_of_ble_eq_true rfl) ?_
  refine z_if_eq ok dX0_changeSpring_4 14 (by decide) (fun c1 => ?_) (fun c1 => ?_)
  · rw [if_pos c1] at hT
    exact z_vret ok hE dX0_changeSpring_14 hT
  · rw [if_neg c1] at hT
    refine z_aload_n ok dX0_changeSpring_7 0 rfl ?_
    refine z_get_X0_springs ok dX0_changeSpring_8 g h_g hN zw_106 ?_
    refine z_iload_n ok dX0_changeSpring_11 1 rfl ?_
    refine z_iload_n ok dX0_changeSpring_12 2 rfl ?_
    refine z_gst2 ok dX0_changeSpring_13 g h_g hN c rfl (by omega) ?_
    replace hT := zlet_open hT
    obtain ⟨w2, hw2, hT⟩ := hT
    rw [← hw2]
    exact z_vret ok hE dX0_changeSpring_14 hT

def d_X0_markTower (w : xW) (g : Nat) (c : Nat) (b : Int32) : xW :=
  if (d_X2_isCell w (nI c)) = 0 then (w)
  else (if b = 0 then (zlet (xs w g (108 + c) 0) fun w3 =>
  w3)
  else (zlet (xs w g (108 + c) 1) fun w4 =>
  w4))
set_option maxRecDepth 100000 in
set_option maxHeartbeats 4000000 in
theorem c_X0_markTower (G : zG) (N : Nat) (hN : 47 ≤ N) (hg : zGeo G N) (w : xW) (g : Nat) (h_g : g < 7) (c : Nat) (h_c : c < 36) (b : Int32) : zM yX0_markTower cX0_markTower 3 none 1 20 G N [.ref (zad G (6 + 6 * g)), .int (nI c), .int b] w none (d_X0_markTower w g c b) := by
  generalize hT : d_X0_markTower w g c b = u
  unfold d_X0_markTower at hT
  refine zM_of zy_X0_markTower.2.2.2.2.2.2.2 hg ⟨Nat.le_of_ble_eq_true rfl, by decide⟩ rfl (fun k ok hE hI => ?_)
  have old := hE.old
  refine z_iload_n ok dX0_markTower_0 1 rfl ?_
  refine z_callSNi ok old dX0_markTower_1 [] (c_X2_isCell G N hN hg w (nI c)) zy_X2_isCell zw_187 rfl rfl (by decide) (Nat.le_of_ble_eq_true rfl) ?_
  refine z_if_eq ok dX0_markTower_4 22 (by decide) (fun c1 => ?_) (fun c1 => ?_)
  · rw [if_pos c1] at hT
    exact z_vret ok hE dX0_markTower_22 hT
  · rw [if_neg c1] at hT
    refine z_aload_n ok dX0_markTower_7 0 rfl ?_
    refine z_get_X0_towers ok dX0_markTower_8 g h_g hN zw_107 ?_
    refine z_iload_n ok dX0_markTower_11 1 rfl ?_
    refine z_iload_n ok dX0_markTower_12 2 rfl ?_
    refine z_if_eq ok dX0_markTower_13 20 (by decide) (fun c2 => ?_) (fun c2 => ?_)
    · rw [if_pos c2] at hT
      refine z_iconst ok dX0_markTower_20 (x := 0) (by decide) ?_
      refine z_gst3 ok dX0_markTower_21 g h_g hN c rfl (by omega) ?_
      replace hT := zlet_open hT
      obtain ⟨w3, hw3, hT⟩ := hT
      rw [← hw3]
      exact z_vret ok hE dX0_markTower_22 hT
    · rw [if_neg c2] at hT
      refine z_iconst ok dX0_markTower_16 (x := 1) (by decide) ?_
      refine z_goto ok dX0_markTower_17 21 (by decide) ?_
      refine z_gst3 ok dX0_markTower_21 g h_g hN c rfl (by omega) ?_
      replace hT := zlet_open hT
      obtain ⟨w4, hw4, hT⟩ := hT
      rw [← hw4]
      exact z_vret ok hE dX0_markTower_22 hT

def d_X0_sideOn (w : xW) (g : Nat) (c : Nat) : Int32 :=
  if (d_X2_isCell w (nI c)) = 0 then ((-1))
  else ((xg w g c))
set_option maxRecDepth 100000 in
set_option maxHeartbeats 4000000 in
theorem c_X0_sideOn (G : zG) (N : Nat) (hN : 47 ≤ N) (hg : zGeo G N) (w : xW) (g : Nat) (h_g : g < 7) (c : Nat) (h_c : c < 36) : zM yX0_sideOn cX0_sideOn 2 (some .int) 1 20 G N [.ref (zad G (6 + 6 * g)), .int (nI c)] w (some (d_X0_sideOn w g c)) w := by
  generalize hT : d_X0_sideOn w g c = r
  unfold d_X0_sideOn at hT
  refine zM_of zy_X0_sideOn.2.2.2.2.2.2.2 hg ⟨Nat.le_of_ble_eq_true rfl, by decide⟩ rfl (fun k ok hE hI => ?_)
  have old := hE.old
  refine z_iload_n ok dX0_sideOn_0 1 rfl ?_
  refine z_callSNi ok old dX0_sideOn_1 [] (c_X2_isCell G N hN hg w (nI c)) zy_X2_isCell zw_187 rfl rfl (by decide) (Nat.le_of_ble_eq_true rfl) ?_
  refine z_if_eq ok dX0_sideOn_4 16 (by decide) (fun c1 => ?_) (fun c1 => ?_)
  · rw [if_pos c1] at hT
    refine z_iconst ok dX0_sideOn_16 (x := (-1)) (by decide) ?_
    exact z_iret ok hE dX0_sideOn_17 rfl ⟨hT, rfl⟩
  · rw [if_neg c1] at hT
    refine z_aload_n ok dX0_sideOn_7 0 rfl ?_
    refine z_get_X0_sides ok dX0_sideOn_8 g h_g hN zw_104 ?_
    refine z_iload_n ok dX0_sideOn_11 1 rfl ?_
    refine z_gld0 ok dX0_sideOn_12 g h_g hN c rfl (by omega) ?_
    refine z_goto ok dX0_sideOn_13 17 (by decide) ?_
    exact z_iret ok hE dX0_sideOn_17 rfl ⟨hT, rfl⟩

def d_X0_hasPiece (w : xW) (g : Nat) (c : Nat) : Int32 :=
  if (d_X0_sideOn w g c) = (-1) then (0)
  else (1)
set_option maxRecDepth 100000 in
set_option maxHeartbeats 4000000 in
theorem c_X0_hasPiece (G : zG) (N : Nat) (hN : 47 ≤ N) (hg : zGeo G N) (w : xW) (g : Nat) (h_g : g < 7) (c : Nat) (h_c : c < 36) : zM yX0_hasPiece cX0_hasPiece 2 (some .boolean) 2 41 G N [.ref (zad G (6 + 6 * g)), .int (nI c)] w (some (d_X0_hasPiece w g c)) w := by
  generalize hT : d_X0_hasPiece w g c = r
  unfold d_X0_hasPiece at hT
  refine zM_of zy_X0_hasPiece.2.2.2.2.2.2.2 hg ⟨Nat.le_of_ble_eq_true rfl, by decide⟩ rfl (fun k ok hE hI => ?_)
  have old := hE.old
  refine z_aload_n ok dX0_hasPiece_0 0 rfl ?_
  refine z_iload_n ok dX0_hasPiece_1 1 rfl ?_
  refine z_callVi ok old dX0_hasPiece_2 [] (c_X0_sideOn G N hN hg w g h_g c (by omega)) zy_X0_sideOn zw_295 (6 + 6 * g) (zg_lt' hN h_g) (zE_board G w h_g) rfl rfl rfl rfl rfl (by decide) (Nat.le_of_ble_eq_true rfl) ?_
  refine z_iconst ok dX0_hasPiece_5 (x := (-1)) (by decide) ?_
  refine z_icmp_eq ok dX0_hasPiece_6 13 (by decide) (fun c1 => ?_) (fun c1 => ?_)
  · rw [if_pos c1] at hT
    refine z_iconst ok dX0_hasPiece_13 (x := 0) (by decide) ?_
    exact z_iret ok hE dX0_hasPiece_14 rfl ⟨hT, rfl⟩
  · rw [if_neg c1] at hT
    refine z_iconst ok dX0_hasPiece_9 (x := 1) (by decide) ?_
    refine z_goto ok dX0_hasPiece_10 14 (by decide) ?_
    exact z_iret ok hE dX0_hasPiece_14 rfl ⟨hT, rfl⟩

def d_X0_kindOn (w : xW) (g : Nat) (c : Nat) : Int32 :=
  if (d_X2_isCell w (nI c)) = 0 then (0)
  else ((xg w g (36 + c)))
set_option maxRecDepth 100000 in
set_option maxHeartbeats 4000000 in
theorem c_X0_kindOn (G : zG) (N : Nat) (hN : 47 ≤ N) (hg : zGeo G N) (w : xW) (g : Nat) (h_g : g < 7) (c : Nat) (h_c : c < 36) : zM yX0_kindOn cX0_kindOn 2 (some .int) 1 20 G N [.ref (zad G (6 + 6 * g)), .int (nI c)] w (some (d_X0_kindOn w g c)) w := by
  generalize hT : d_X0_kindOn w g c = r
  unfold d_X0_kindOn at hT
  refine zM_of zy_X0_kindOn.2.2.2.2.2.2.2 hg ⟨Nat.le_of_ble_eq_true rfl, by decide⟩ rfl (fun k ok hE hI => ?_)
  have old := hE.old
  refine z_iload_n ok dX0_kindOn_0 1 rfl ?_
  refine z_callSNi ok old dX0_kindOn_1 [] (c_X2_isCell G N hN hg w (nI c)) zy_X2_isCell zw_187 rfl rfl (by decide) (Nat.le_of_ble_eq_true rfl) ?_
  refine z_if_eq ok dX0_kindOn_4 16 (by decide) (fun c1 => ?_) (fun c1 => ?_)
  · rw [if_pos c1] at hT
    refine z_iconst ok dX0_kindOn_16 (x := 0) (by decide) ?_
    exact z_iret ok hE dX0_kindOn_17 rfl ⟨hT, rfl⟩
  · rw [if_neg c1] at hT
    refine z_aload_n ok dX0_kindOn_7 0 rfl ?_
    refine z_get_X0_kinds ok dX0_kindOn_8 g h_g hN zw_105 ?_
    refine z_iload_n ok dX0_kindOn_11 1 rfl ?_
    refine z_gld1 ok dX0_kindOn_12 g h_g hN c rfl (by omega) ?_
    refine z_goto ok dX0_kindOn_13 17 (by decide) ?_
    exact z_iret ok hE dX0_kindOn_17 rfl ⟨hT, rfl⟩

def d_X0_springOn (w : xW) (g : Nat) (c : Nat) : Int32 :=
  if (d_X2_isCell w (nI c)) = 0 then (0)
  else ((xg w g (72 + c)))
set_option maxRecDepth 100000 in
set_option maxHeartbeats 4000000 in
theorem c_X0_springOn (G : zG) (N : Nat) (hN : 47 ≤ N) (hg : zGeo G N) (w : xW) (g : Nat) (h_g : g < 7) (c : Nat) (h_c : c < 36) : zM yX0_springOn cX0_springOn 2 (some .int) 1 20 G N [.ref (zad G (6 + 6 * g)), .int (nI c)] w (some (d_X0_springOn w g c)) w := by
  generalize hT : d_X0_springOn w g c = r
  unfold d_X0_springOn at hT
  refine zM_of zy_X0_springOn.2.2.2.2.2.2.2 hg ⟨Nat.le_of_ble_eq_true rfl, by decide⟩ rfl (fun k ok hE hI => ?_)
  have old := hE.old
  refine z_iload_n ok dX0_springOn_0 1 rfl ?_
  refine z_callSNi ok old dX0_springOn_1 [] (c_X2_isCell G N hN hg w (nI c)) zy_X2_isCell zw_187 rfl rfl (by decide) (Nat.le_of_ble_eq_true rfl) ?_
  refine z_if_eq ok dX0_springOn_4 16 (by decide) (fun c1 => ?_) (fun c1 => ?_)
  · rw [if_pos c1] at hT
    refine z_iconst ok dX0_springOn_16 (x := 0) (by decide) ?_
    exact z_iret ok hE dX0_springOn_17 rfl ⟨hT, rfl⟩
  · rw [if_neg c1] at hT
    refine z_aload_n ok dX0_springOn_7 0 rfl ?_
    refine z_get_X0_springs ok dX0_springOn_8 g h_g hN zw_106 ?_
    refine z_iload_n ok dX0_springOn_11 1 rfl ?_
    refine z_gld2 ok dX0_springOn_12 g h_g hN c rfl (by omega) ?_
    refine z_goto ok dX0_springOn_13 17 (by decide) ?_
    exact z_iret ok hE dX0_springOn_17 rfl ⟨hT, rfl⟩

def d_X0_isTower (w : xW) (g : Nat) (c : Nat) : Int32 :=
  if (d_X2_isCell w (nI c)) = 0 then (0)
  else (if (xg w g (108 + c)) = 1 then (1)
  else (0))
set_option maxRecDepth 100000 in
set_option maxHeartbeats 4000000 in
theorem c_X0_isTower (G : zG) (N : Nat) (hN : 47 ≤ N) (hg : zGeo G N) (w : xW) (g : Nat) (h_g : g < 7) (c : Nat) (h_c : c < 36) : zM yX0_isTower cX0_isTower 2 (some .boolean) 1 20 G N [.ref (zad G (6 + 6 * g)), .int (nI c)] w (some (d_X0_isTower w g c)) w := by
  generalize hT : d_X0_isTower w g c = r
  unfold d_X0_isTower at hT
  refine zM_of zy_X0_isTower.2.2.2.2.2.2.2 hg ⟨Nat.le_of_ble_eq_true rfl, by decide⟩ rfl (fun k ok hE hI => ?_)
  have old := hE.old
  refine z_iload_n ok dX0_isTower_0 1 rfl ?_
  refine z_callSNi ok old dX0_isTower_1 [] (c_X2_isCell G N hN hg w (nI c)) zy_X2_isCell zw_187 rfl rfl (by decide) (Nat.le_of_ble_eq_true rfl) ?_
  refine z_if_eq ok dX0_isTower_4 21 (by decide) (fun c1 => ?_) (fun c1 => ?_)
  · rw [if_pos c1] at hT
    refine z_iconst ok dX0_isTower_21 (x := 0) (by decide) ?_
    exact z_iret ok hE dX0_isTower_22 rfl ⟨hT, rfl⟩
  · rw [if_neg c1] at hT
    refine z_aload_n ok dX0_isTower_7 0 rfl ?_
    refine z_get_X0_towers ok dX0_isTower_8 g h_g hN zw_107 ?_
    refine z_iload_n ok dX0_isTower_11 1 rfl ?_
    refine z_gld3 ok dX0_isTower_12 g h_g hN c rfl (by omega) ?_
    refine z_iconst ok dX0_isTower_13 (x := 1) (by decide) ?_
    refine z_icmp_ne ok dX0_isTower_14 21 (by decide) (fun c2 => ?_) (fun c2 => ?_)
    · rw [if_neg c2] at hT
      refine z_iconst ok dX0_isTower_21 (x := 0) (by decide) ?_
      exact z_iret ok hE dX0_isTower_22 rfl ⟨hT, rfl⟩
    · rw [if_pos c2] at hT
      refine z_iconst ok dX0_isTower_17 (x := 1) (by decide) ?_
      refine z_goto ok dX0_isTower_18 22 (by decide) ?_
      exact z_iret ok hE dX0_isTower_22 rfl ⟨hT, rfl⟩

def d_X0_springsOf_4k  (e1_2 : Int32) (e1_3 : Nat) : Int32 :=
  e1_2
def d_X0_springsOf_4 (w : xW) (g : Nat) (side : Int32) (kt1 : Int32 → Nat → Int32) : Nat → Int32 → Nat → Int32
  | 0, _, _ => default
  | n1 + 1, v1_2, v1_3 => if 36 ≤ v1_3 then (kt1 v1_2 v1_3)
  else (if (xg w g v1_3) = side then (zlet ((v1_2 + (xg w g (72 + v1_3)))) fun x4 =>
  d_X0_springsOf_4 w g side kt1 n1 x4 (v1_3 + 1))
  else (d_X0_springsOf_4 w g side kt1 n1 v1_2 (v1_3 + 1)))
def d_X0_springsOf (w : xW) (g : Nat) (side : Int32) : Int32 :=
  d_X0_springsOf_4 w g side d_X0_springsOf_4k 37 0 0
set_option maxRecDepth 100000 in
set_option maxHeartbeats 4000000 in
theorem c_X0_springsOf (G : zG) (N : Nat) (hN : 47 ≤ N) (hg : zGeo G N) (w : xW) (g : Nat) (h_g : g < 7) (side : Int32) : zM yX0_springsOf cX0_springsOf 4 (some .int) 0 0 G N [.ref (zad G (6 + 6 * g)), .int side] w (some (d_X0_springsOf w g side)) w := by
  generalize hT : d_X0_springsOf w g side = r
  unfold d_X0_springsOf at hT
  refine zM_of zy_X0_springsOf.2.2.2.2.2.2.2 hg ⟨Nat.le_of_ble_eq_true rfl, by decide⟩ rfl (fun k ok hE hI => ?_)
  have old := hE.old
  refine z_iconst ok dX0_springsOf_0 (x := 0) (by decide) ?_
  refine z_istore_n ok dX0_springsOf_1 (hI 2 (by decide)) (lv' := [(2, .int 0), (0, .ref (zad G (6 + 6 * g))), (1, .int side)]) rfl ?_
  refine z_iconst ok dX0_springsOf_2 (x := 0) (by decide) ?_
  refine z_istore_n ok dX0_springsOf_3 (hI 3 (by decide)) (lv' := [(3, .int 0), (2, .int 0), (0, .ref (zad G (6 + 6 * g))), (1, .int side)]) rfl ?_
  refine z_locs [2, 3, 1, 0] (lv' := [(0, .ref (zad G (6 + 6 * g))), (1, .int side), (2, .int 0), (3, .int 0)]) rfl ?_
  obtain ⟨kt1, hkt1⟩ : ∃ z, z = d_X0_springsOf_4k := ⟨_, rfl⟩
  rw [← hkt1] at hT
  have hk1 : ∀ (e1_2 : Int32) (e1_3 : Nat), e1_3 ≤ 36 → kt1 e1_2 e1_3 = r → zZ k G N w 35 [(0, .ref (zad G (6 + 6 * g))), (1, .int side), (2, .int e1_2), (3, .int (nI e1_3))] [] := by
    intro e1_2 e1_3 q1_0 hT1
    rw [hkt1, d_X0_springsOf_4k] at hT1
    refine z_iload_n ok dX0_springsOf_35 2 rfl ?_
    exact z_iret ok hE dX0_springsOf_36 rfl ⟨hT1, rfl⟩
  have hl1 : ∀ (n1 : Nat) (v1_2 : Int32) (v1_3 : Nat), 36 < v1_3 + n1 → v1_3 ≤ 36 → d_X0_springsOf_4 w g side kt1 n1 v1_2 v1_3 = r → zZ k G N w 4 [(0, .ref (zad G (6 + 6 * g))), (1, .int side), (2, .int v1_2), (3, .int (nI v1_3))] [] := by
    intro n1
    induction n1 with
    | zero =>
      intro v1_2 v1_3 q1_0 q1_1
      exact absurd q1_0 (by omega)
    | succ n1 ih1 =>
      intro v1_2 v1_3 q1_0 q1_1 hT1
      rw [d_X0_springsOf_4] at hT1
      refine z_iload_n ok dX0_springsOf_4 3 rfl ?_
      refine z_bipush ok dX0_springsOf_5 (x := 36) (by decide) ?_
      refine z_icmp_ge_n ok dX0_springsOf_7 35 (by decide) v1_3 36 rfl rfl (by omega) (fun c2 => ?_) (fun c2 => ?_)
      · rw [if_pos c2] at hT1
        refine z_locs [0, 1, 2, 3] (lv' := [(0, .ref (zad G (6 + 6 * g))), (1, .int side), (2, .int v1_2), (3, .int (nI v1_3))]) rfl ?_
        exact hk1 v1_2 v1_3 (by omega) hT1
      · rw [if_neg c2] at hT1
        refine z_aload_n ok dX0_springsOf_10 0 rfl ?_
        refine z_get_X0_sides ok dX0_springsOf_11 g h_g hN zw_104 ?_
        refine z_iload_n ok dX0_springsOf_14 3 rfl ?_
        refine z_gld0 ok dX0_springsOf_15 g h_g hN v1_3 rfl (by omega) ?_
        refine z_iload_n ok dX0_springsOf_16 1 rfl ?_
        refine z_icmp_ne ok dX0_springsOf_17 29 (by decide) (fun c3 => ?_) (fun c3 => ?_)
        · rw [if_neg c3] at hT1
          refine z_iinc ok dX0_springsOf_29 (hI 3 (by decide)) 3 rfl (y := (nI (v1_3 + 1))) (z_incn v1_3 1) (lv' := [(3, .int (nI (v1_3 + 1))), (0, .ref (zad G (6 + 6 * g))), (1, .int side), (2, .int v1_2)]) rfl ?_
          refine z_goto ok dX0_springsOf_32 4 (by decide) ?_
          refine z_locs [1, 2, 3, 0] (lv' := [(0, .ref (zad G (6 + 6 * g))), (1, .int side), (2, .int v1_2), (3, .int (nI (v1_3 + 1)))]) rfl ?_
          exact ih1 v1_2 (v1_3 + 1) (by omega) (by omega) hT1
        · rw [if_pos c3] at hT1
          refine z_iload_n ok dX0_springsOf_20 2 rfl ?_
          refine z_aload_n ok dX0_springsOf_21 0 rfl ?_
          refine z_get_X0_springs ok dX0_springsOf_22 g h_g hN zw_106 ?_
          refine z_iload_n ok dX0_springsOf_25 3 rfl ?_
          refine z_gld2 ok dX0_springsOf_26 g h_g hN v1_3 rfl (by omega) ?_
          refine z_iadd ok dX0_springsOf_27 ?_
          replace hT1 := zlet_open hT1
          obtain ⟨x4, hx4, hT1⟩ := hT1
          rw [← hx4]
          refine z_istore_n ok dX0_springsOf_28 (hI 2 (by decide)) (lv' := [(2, .int x4), (0, .ref (zad G (6 + 6 * g))), (1, .int side), (3, .int (nI v1_3))]) rfl ?_
          refine z_iinc ok dX0_springsOf_29 (hI 3 (by decide)) 3 rfl (y := (nI (v1_3 + 1))) (z_incn v1_3 1) (lv' := [(3, .int (nI (v1_3 + 1))), (2, .int x4), (0, .ref (zad G (6 + 6 * g))), (1, .int side)]) rfl ?_
          refine z_goto ok dX0_springsOf_32 4 (by decide) ?_
          refine z_locs [2, 3, 1, 0] (lv' := [(0, .ref (zad G (6 + 6 * g))), (1, .int side), (2, .int x4), (3, .int (nI (v1_3 + 1)))]) rfl ?_
          exact ih1 x4 (v1_3 + 1) (by omega) (by omega) hT1
  exact hl1 37 0 0 (by omega) (by omega) hT

def d_X0_springsInAll (w : xW) (g : Nat) : Int32 :=
  ((d_X0_springsOf w g 0) + (d_X0_springsOf w g 1))
set_option maxRecDepth 100000 in
set_option maxHeartbeats 4000000 in
theorem c_X0_springsInAll (G : zG) (N : Nat) (hN : 47 ≤ N) (hg : zGeo G N) (w : xW) (g : Nat) (h_g : g < 7) : zM yX0_springsInAll cX0_springsInAll 1 (some .int) 1 23 G N [.ref (zad G (6 + 6 * g))] w (some (d_X0_springsInAll w g)) w := by
  generalize hT : d_X0_springsInAll w g = r
  unfold d_X0_springsInAll at hT
  refine zM_of zy_X0_springsInAll.2.2.2.2.2.2.2 hg ⟨Nat.le_of_ble_eq_true rfl, by decide⟩ rfl (fun k ok hE hI => ?_)
  have old := hE.old
  refine z_aload_n ok dX0_springsInAll_0 0 rfl ?_
  refine z_iconst ok dX0_springsInAll_1 (x := 0) (by decide) ?_
  refine z_callVi ok old dX0_springsInAll_2 [] (c_X0_springsOf G N hN hg w g h_g 0) zy_X0_springsOf zw_202 (6 + 6 * g) (zg_lt' hN h_g) (zE_board G w h_g) rfl rfl rfl rfl rfl (by decide) (Nat.le_of_ble_eq_true rfl) ?_
  refine z_aload_n ok dX0_springsInAll_5 0 rfl ?_
  refine z_iconst ok dX0_springsInAll_6 (x := 1) (by decide) ?_
  refine z_callVi ok old dX0_springsInAll_7 [.int (d_X0_springsOf w g 0)] (c_X0_springsOf G N hN hg w g h_g 1) zy_X0_springsOf zw_202 (6 + 6 * g) (zg_lt' hN h_g) (zE_board G w h_g) rfl rfl rfl rfl rfl (by decide) (Nat.le_of_ble_eq_true rfl) ?_
  refine z_iadd ok dX0_springsInAll_10 ?_
  exact z_iret ok hE dX0_springsInAll_11 rfl ⟨hT, rfl⟩

def d_X0_piecesInAll_4k  (e1_1 : Int32) (e1_2 : Nat) : Int32 :=
  e1_1
def d_X0_piecesInAll_4 (w : xW) (g : Nat) (kt1 : Int32 → Nat → Int32) : Nat → Int32 → Nat → Int32
  | 0, _, _ => default
  | n1 + 1, v1_1, v1_2 => if 36 ≤ v1_2 then (kt1 v1_1 v1_2)
  else (if (xg w g v1_2) = (-1) then (d_X0_piecesInAll_4 w g kt1 n1 v1_1 (v1_2 + 1))
  else (d_X0_piecesInAll_4 w g kt1 n1 (v1_1 + 1) (v1_2 + 1)))
def d_X0_piecesInAll (w : xW) (g : Nat) : Int32 :=
  d_X0_piecesInAll_4 w g d_X0_piecesInAll_4k 37 0 0
set_option maxRecDepth 100000 in
set_option maxHeartbeats 4000000 in
theorem c_X0_piecesInAll (G : zG) (N : Nat) (hN : 47 ≤ N) (hg : zGeo G N) (w : xW) (g : Nat) (h_g : g < 7) : zM yX0_piecesInAll cX0_piecesInAll 3 (some .int) 0 0 G N [.ref (zad G (6 + 6 * g))] w (some (d_X0_piecesInAll w g)) w := by
  generalize hT : d_X0_piecesInAll w g = r
  unfold d_X0_piecesInAll at hT
  refine zM_of zy_X0_piecesInAll.2.2.2.2.2.2.2 hg ⟨Nat.le_of_ble_eq_true rfl, by decide⟩ rfl (fun k ok hE hI => ?_)
  have old := hE.old
  refine z_iconst ok dX0_piecesInAll_0 (x := 0) (by decide) ?_
  refine z_istore_n ok dX0_piecesInAll_1 (hI 1 (by decide)) (lv' := [(1, .int 0), (0, .ref (zad G (6 + 6 * g)))]) rfl ?_
  refine z_iconst ok dX0_piecesInAll_2 (x := 0) (by decide) ?_
  refine z_istore_n ok dX0_piecesInAll_3 (hI 2 (by decide)) (lv' := [(2, .int 0), (1, .int 0), (0, .ref (zad G (6 + 6 * g)))]) rfl ?_
  refine z_locs [2, 1, 0] (lv' := [(0, .ref (zad G (6 + 6 * g))), (1, .int 0), (2, .int 0)]) rfl ?_
  obtain ⟨kt1, hkt1⟩ : ∃ z, z = d_X0_piecesInAll_4k := ⟨_, rfl⟩
  rw [← hkt1] at hT
  have hk1 : ∀ (e1_1 : Int32) (e1_2 : Nat), e1_2 ≤ 36 → kt1 e1_1 e1_2 = r → zZ k G N w 29 [(0, .ref (zad G (6 + 6 * g))), (1, .int e1_1), (2, .int (nI e1_2))] [] := by
    intro e1_1 e1_2 q1_0 hT1
    rw [hkt1, d_X0_piecesInAll_4k] at hT1
    refine z_iload_n ok dX0_piecesInAll_29 1 rfl ?_
    exact z_iret ok hE dX0_piecesInAll_30 rfl ⟨hT1, rfl⟩
  have hl1 : ∀ (n1 : Nat) (v1_1 : Int32) (v1_2 : Nat), 36 < v1_2 + n1 → v1_2 ≤ 36 → d_X0_piecesInAll_4 w g kt1 n1 v1_1 v1_2 = r → zZ k G N w 4 [(0, .ref (zad G (6 + 6 * g))), (1, .int v1_1), (2, .int (nI v1_2))] [] := by
    intro n1
    induction n1 with
    | zero =>
      intro v1_1 v1_2 q1_0 q1_1
      exact absurd q1_0 (by omega)
    | succ n1 ih1 =>
      intro v1_1 v1_2 q1_0 q1_1 hT1
      rw [d_X0_piecesInAll_4] at hT1
      refine z_iload_n ok dX0_piecesInAll_4 2 rfl ?_
      refine z_bipush ok dX0_piecesInAll_5 (x := 36) (by decide) ?_
      refine z_icmp_ge_n ok dX0_piecesInAll_7 29 (by decide) v1_2 36 rfl rfl (by omega) (fun c2 => ?_) (fun c2 => ?_)
      · rw [if_pos c2] at hT1
        refine z_locs [0, 1, 2] (lv' := [(0, .ref (zad G (6 + 6 * g))), (1, .int v1_1), (2, .int (nI v1_2))]) rfl ?_
        exact hk1 v1_1 v1_2 (by omega) hT1
      · rw [if_neg c2] at hT1
        refine z_aload_n ok dX0_piecesInAll_10 0 rfl ?_
        refine z_get_X0_sides ok dX0_piecesInAll_11 g h_g hN zw_104 ?_
        refine z_iload_n ok dX0_piecesInAll_14 2 rfl ?_
        refine z_gld0 ok dX0_piecesInAll_15 g h_g hN v1_2 rfl (by omega) ?_
        refine z_iconst ok dX0_piecesInAll_16 (x := (-1)) (by decide) ?_
        refine z_icmp_eq ok dX0_piecesInAll_17 23 (by decide) (fun c3 => ?_) (fun c3 => ?_)
        · rw [if_pos c3] at hT1
          refine z_iinc ok dX0_piecesInAll_23 (hI 2 (by decide)) 2 rfl (y := (nI (v1_2 + 1))) (z_incn v1_2 1) (lv' := [(2, .int (nI (v1_2 + 1))), (0, .ref (zad G (6 + 6 * g))), (1, .int v1_1)]) rfl ?_
          refine z_goto ok dX0_piecesInAll_26 4 (by decide) ?_
          refine z_locs [1, 2, 0] (lv' := [(0, .ref (zad G (6 + 6 * g))), (1, .int v1_1), (2, .int (nI (v1_2 + 1)))]) rfl ?_
          exact ih1 v1_1 (v1_2 + 1) (by omega) (by omega) hT1
        · rw [if_neg c3] at hT1
          refine z_iinc ok dX0_piecesInAll_20 (hI 1 (by decide)) 1 rfl (y := (v1_1 + 1)) rfl (lv' := [(1, .int (v1_1 + 1)), (0, .ref (zad G (6 + 6 * g))), (2, .int (nI v1_2))]) rfl ?_
          refine z_iinc ok dX0_piecesInAll_23 (hI 2 (by decide)) 2 rfl (y := (nI (v1_2 + 1))) (z_incn v1_2 1) (lv' := [(2, .int (nI (v1_2 + 1))), (1, .int (v1_1 + 1)), (0, .ref (zad G (6 + 6 * g)))]) rfl ?_
          refine z_goto ok dX0_piecesInAll_26 4 (by decide) ?_
          refine z_locs [2, 1, 0] (lv' := [(0, .ref (zad G (6 + 6 * g))), (1, .int (v1_1 + 1)), (2, .int (nI (v1_2 + 1)))]) rfl ?_
          exact ih1 (v1_1 + 1) (v1_2 + 1) (by omega) (by omega) hT1
  exact hl1 37 0 0 (by omega) (by omega) hT

def d_X0_towersInAll_4k  (e1_1 : Int32) (e1_2 : Nat) : Int32 :=
  e1_1
def d_X0_towersInAll_4 (w : xW) (g : Nat) (kt1 : Int32 → Nat → Int32) : Nat → Int32 → Nat → Int32
  | 0, _, _ => default
  | n1 + 1, v1_1, v1_2 => if 36 ≤ v1_2 then (kt1 v1_1 v1_2)
  else (zlet ((v1_1 + (xg w g (108 + v1_2)))) fun x3 =>
  d_X0_towersInAll_4 w g kt1 n1 x3 (v1_2 + 1))
def d_X0_towersInAll (w : xW) (g : Nat) : Int32 :=
  d_X0_towersInAll_4 w g d_X0_towersInAll_4k 37 0 0
set_option maxRecDepth 100000 in
set_option maxHeartbeats 4000000 in
theorem c_X0_towersInAll (G : zG) (N : Nat) (hN : 47 ≤ N) (hg : zGeo G N) (w : xW) (g : Nat) (h_g : g < 7) : zM yX0_towersInAll cX0_towersInAll 3 (some .int) 0 0 G N [.ref (zad G (6 + 6 * g))] w (some (d_X0_towersInAll w g)) w := by
  generalize hT : d_X0_towersInAll w g = r
  unfold d_X0_towersInAll at hT
  refine zM_of zy_X0_towersInAll.2.2.2.2.2.2.2 hg ⟨Nat.le_of_ble_eq_true rfl, by decide⟩ rfl (fun k ok hE hI => ?_)
  have old := hE.old
  refine z_iconst ok dX0_towersInAll_0 (x := 0) (by decide) ?_
  refine z_istore_n ok dX0_towersInAll_1 (hI 1 (by decide)) (lv' := [(1, .int 0), (0, .ref (zad G (6 + 6 * g)))]) rfl ?_
  refine z_iconst ok dX0_towersInAll_2 (x := 0) (by decide) ?_
  refine z_istore_n ok dX0_towersInAll_3 (hI 2 (by decide)) (lv' := [(2, .int 0), (1, .int 0), (0, .ref (zad G (6 + 6 * g)))]) rfl ?_
  refine z_locs [2, 1, 0] (lv' := [(0, .ref (zad G (6 + 6 * g))), (1, .int 0), (2, .int 0)]) rfl ?_
  obtain ⟨kt1, hkt1⟩ : ∃ z, z = d_X0_towersInAll_4k := ⟨_, rfl⟩
  rw [← hkt1] at hT
  have hk1 : ∀ (e1_1 : Int32) (e1_2 : Nat), e1_2 ≤ 36 → kt1 e1_1 e1_2 = r → zZ k G N w 25 [(0, .ref (zad G (6 + 6 * g))), (1, .int e1_1), (2, .int (nI e1_2))] [] := by
    intro e1_1 e1_2 q1_0 hT1
    rw [hkt1, d_X0_towersInAll_4k] at hT1
    refine z_iload_n ok dX0_towersInAll_25 1 rfl ?_
    exact z_iret ok hE dX0_towersInAll_26 rfl ⟨hT1, rfl⟩
  have hl1 : ∀ (n1 : Nat) (v1_1 : Int32) (v1_2 : Nat), 36 < v1_2 + n1 → v1_2 ≤ 36 → d_X0_towersInAll_4 w g kt1 n1 v1_1 v1_2 = r → zZ k G N w 4 [(0, .ref (zad G (6 + 6 * g))), (1, .int v1_1), (2, .int (nI v1_2))] [] := by
    intro n1
    induction n1 with
    | zero =>
      intro v1_1 v1_2 q1_0 q1_1
      exact absurd q1_0 (by omega)
    | succ n1 ih1 =>
      intro v1_1 v1_2 q1_0 q1_1 hT1
      rw [d_X0_towersInAll_4] at hT1
      refine z_iload_n ok dX0_towersInAll_4 2 rfl ?_
      refine z_bipush ok dX0_towersInAll_5 (x := 36) (by decide) ?_
      refine z_icmp_ge_n ok dX0_towersInAll_7 25 (by decide) v1_2 36 rfl rfl (by omega) (fun c2 => ?_) (fun c2 => ?_)
      · rw [if_pos c2] at hT1
        refine z_locs [0, 1, 2] (lv' := [(0, .ref (zad G (6 + 6 * g))), (1, .int v1_1), (2, .int (nI v1_2))]) rfl ?_
        exact hk1 v1_1 v1_2 (by omega) hT1
      · rw [if_neg c2] at hT1
        refine z_iload_n ok dX0_towersInAll_10 1 rfl ?_
        refine z_aload_n ok dX0_towersInAll_11 0 rfl ?_
        refine z_get_X0_towers ok dX0_towersInAll_12 g h_g hN zw_107 ?_
        refine z_iload_n ok dX0_towersInAll_15 2 rfl ?_
        refine z_gld3 ok dX0_towersInAll_16 g h_g hN v1_2 rfl (by omega) ?_
        refine z_iadd ok dX0_towersInAll_17 ?_
        replace hT1 := zlet_open hT1
        obtain ⟨x3, hx3, hT1⟩ := hT1
        rw [← hx3]
        refine z_istore_n ok dX0_towersInAll_18 (hI 1 (by decide)) (lv' := [(1, .int x3), (0, .ref (zad G (6 + 6 * g))), (2, .int (nI v1_2))]) rfl ?_
        refine z_iinc ok dX0_towersInAll_19 (hI 2 (by decide)) 2 rfl (y := (nI (v1_2 + 1))) (z_incn v1_2 1) (lv' := [(2, .int (nI (v1_2 + 1))), (1, .int x3), (0, .ref (zad G (6 + 6 * g)))]) rfl ?_
        refine z_goto ok dX0_towersInAll_22 4 (by decide) ?_
        refine z_locs [2, 1, 0] (lv' := [(0, .ref (zad G (6 + 6 * g))), (1, .int x3), (2, .int (nI (v1_2 + 1)))]) rfl ?_
        exact ih1 x3 (v1_2 + 1) (by omega) (by omega) hT1
  exact hl1 37 0 0 (by omega) (by omega) hT

def d_X0_priceAlong_32k (x1 : Int32) (e3_6 : Nat) : Int32 :=
  x1
def d_X0_priceAlong_32 (w : xW) (g : Nat) (f : Nat) (x1 : Int32) (x2 : Int32) (kt3 : Nat → Int32) : Nat → Nat → Int32
  | 0, _ => default
  | n3 + 1, v3_6 => if x1 ≤ (nI v3_6) then (kt3 v3_6)
  else (zlet (((nI f) + ((nI v3_6) * x2))) fun x5 =>
  if x5 < 0 then (0)
  else (if 36 ≤ x5 then (0)
  else (if (xg w g x5.toNatClampNeg) = (-1) then (d_X0_priceAlong_32 w g f x1 x2 kt3 n3 (v3_6 + 1))
  else (0))))
def d_X0_priceAlong (w : xW) (g : Nat) (f : Nat) (right : Int32) (up : Int32) : Int32 :=
  zlet ((if (if 0 ≤ right then right else 0 - right) < (if 0 ≤ up then up else 0 - up) then (if 0 ≤ up then up else 0 - up) else (if 0 ≤ right then right else 0 - right))) fun x1 =>
  zlet (((6 * (d_J6_compare_7cf53 w up 0)) + (d_J6_compare_7cf53 w right 0))) fun x2 =>
  d_X0_priceAlong_32 w g f x1 x2 (d_X0_priceAlong_32k x1) 7 1
set_option maxRecDepth 100000 in
set_option maxHeartbeats 4000000 in
theorem c_X0_priceAlong (G : zG) (N : Nat) (hN : 47 ≤ N) (hg : zGeo G N) (w : xW) (g : Nat) (h_g : g < 7) (f : Nat) (h_f : f < 36) (right : Int32) (up : Int32) (h_r : -6 < right.toInt ∧ right.toInt < 6) (h_u : -6 < up.toInt ∧ up.toInt < 6) : zM yX0_priceAlong cX0_priceAlong 8 (some .int) 1 21 G N [.ref (zad G (6 + 6 * g)), .int (nI f), .int right, .int up] w (some (d_X0_priceAlong w g f right up)) w := by
  generalize hT : d_X0_priceAlong w g f right up = r
  unfold d_X0_priceAlong at hT
  refine zM_of zy_X0_priceAlong.2.2.2.2.2.2.2 hg ⟨Nat.le_of_ble_eq_true rfl, by decide⟩ rfl (fun k ok hE hI => ?_)
  have old := hE.old
  refine z_iload_n ok dX0_priceAlong_0 2 rfl ?_
  refine z_abs ok dX0_priceAlong_1 zw_340 zw_341 zw_82 zw_342 ⟨by decide, Nat.le_of_ble_eq_true rfl⟩ ?_
  refine z_iload_n ok dX0_priceAlong_4 3 rfl ?_
  refine z_abs ok dX0_priceAlong_5 zw_340 zw_341 zw_82 zw_342 ⟨by decide, Nat.le_of_ble_eq_true rfl⟩ ?_
  refine z_max ok dX0_priceAlong_8 zw_344 zw_345 zw_82 zw_346 ⟨by decide, Nat.le_of_ble_eq_true rfl⟩ ?_
  replace hT := zlet_open hT
  obtain ⟨x1, hx1, hT⟩ := hT
  rw [← hx1]
  refine z_istore ok dX0_priceAlong_11 (hI 4 (by decide)) (lv' := [(4, .int x1), (0, .ref (zad G (6 + 6 * g))), (1, .int (nI f)), (2, .int right), (3, .int up)]) rfl ?_
  have hst := zmax5 h_r h_u hx1
  refine z_bipush ok dX0_priceAlong_13 (x := 6) (by decide) ?_
  refine z_iload_n ok dX0_priceAlong_15 4 rfl ?_
  refine z_iconst ok dX0_priceAlong_16 (x := 0) (by decide) ?_
  refine z_callSi ok old dX0_priceAlong_17 [.int 6] (c_J6_compare_7cf53 G N hN hg w up 0) zy_J6_compare_7cf53 zw_351 rfl rfl (by decide) (Nat.le_of_ble_eq_true rfl) ?_
  refine z_imul ok dX0_priceAlong_20 ?_
  refine z_iload_n ok dX0_priceAlong_21 3 rfl ?_
  refine z_iconst ok dX0_priceAlong_22 (x := 0) (by decide) ?_
  refine z_callSi ok old dX0_priceAlong_23 [.int (6 * (d_J6_compare_7cf53 w up 0))] (c_J6_compare_7cf53 G N hN hg w right 0) zy_J6_compare_7cf53 zw_351 rfl rfl (by decide) (Nat.le_of_ble_eq_true rfl) ?_
  refine z_iadd ok dX0_priceAlong_26 ?_
  replace hT := zlet_open hT
  obtain ⟨x2, hx2, hT⟩ := hT
  rw [← hx2]
  refine z_istore ok dX0_priceAlong_27 (hI 5 (by decide)) (lv' := [(5, .int x2), (4, .int x1), (0, .ref (zad G (6 + 6 * g))), (1, .int (nI f)), (2, .int right), (3, .int up)]) rfl ?_
  refine z_iconst ok dX0_priceAlong_29 (x := 1) (by decide) ?_
  refine z_istore ok dX0_priceAlong_30 (hI 6 (by decide)) (lv' := [(6, .int 1), (5, .int x2), (4, .int x1), (0, .ref (zad G (6 + 6 * g))), (1, .int (nI f)), (2, .int right), (3, .int up)]) rfl ?_
  refine z_locs [3, 4, 5, 6, 2, 1, 0] (lv' := [(0, .ref (zad G (6 + 6 * g))), (1, .int (nI f)), (2, .int right), (3, .int up), (4, .int x1), (5, .int x2), (6, .int 1)]) rfl ?_
  obtain ⟨kt3, hkt3⟩ : ∃ z, z = (d_X0_priceAlong_32k x1) := ⟨_, rfl⟩
  rw [← hkt3] at hT
  have hk3 : ∀ (e3_6 : Nat), e3_6 ≤ 6 → kt3 e3_6 = r → zZ k G N w 79 [(0, .ref (zad G (6 + 6 * g))), (1, .int (nI f)), (2, .int right), (3, .int up), (4, .int x1), (5, .int x2), (6, .int (nI e3_6))] [] := by
    intro e3_6 q3_0 hT3
    rw [hkt3, d_X0_priceAlong_32k] at hT3
    refine z_iload ok dX0_priceAlong_79 4 rfl ?_
    exact z_iret ok hE dX0_priceAlong_81 rfl ⟨hT3, rfl⟩
  have hl3 : ∀ (n3 : Nat) (v3_6 : Nat), 6 < v3_6 + n3 → v3_6 ≤ 6 → d_X0_priceAlong_32 w g f x1 x2 kt3 n3 v3_6 = r → zZ k G N w 32 [(0, .ref (zad G (6 + 6 * g))), (1, .int (nI f)), (2, .int right), (3, .int up), (4, .int x1), (5, .int x2), (6, .int (nI v3_6))] [] := by
    intro n3
    induction n3 with
    | zero =>
      intro v3_6 q3_0 q3_1
      exact absurd q3_0 (by omega)
    | succ n3 ih3 =>
      intro v3_6 q3_0 q3_1 hT3
      rw [d_X0_priceAlong_32] at hT3
      refine z_iload ok dX0_priceAlong_32 6 rfl ?_
      refine z_iload ok dX0_priceAlong_34 4 rfl ?_
      refine z_icmp_ge ok dX0_priceAlong_36 79 (by decide) (fun c4 => ?_) (fun c4 => ?_)
      · rw [if_pos c4] at hT3
        refine z_locs [0, 1, 2, 3, 4, 5, 6] (lv' := [(0, .ref (zad G (6 + 6 * g))), (1, .int (nI f)), (2, .int right), (3, .int up), (4, .int x1), (5, .int x2), (6, .int (nI v3_6))]) rfl ?_
        exact hk3 v3_6 (by omega) hT3
      · rw [if_neg c4] at hT3
        have hdn := zsteps_lt (d := v3_6) (by assumption) hst (by omega)
        refine z_iload_n ok dX0_priceAlong_39 1 rfl ?_
        refine z_iload ok dX0_priceAlong_40 6 rfl ?_
        refine z_iload ok dX0_priceAlong_42 5 rfl ?_
        refine z_imul ok dX0_priceAlong_44 ?_
        refine z_iadd ok dX0_priceAlong_45 ?_
        replace hT3 := zlet_open hT3
        obtain ⟨x5, hx5, hT3⟩ := hT3
        rw [← hx5]
        refine z_istore ok dX0_priceAlong_46 (hI 7 (by decide)) (lv' := [(7, .int x5), (0, .ref (zad G (6 + 6 * g))), (1, .int (nI f)), (2, .int right), (3, .int up), (4, .int x1), (5, .int x2), (6, .int (nI v3_6))]) rfl ?_
        refine z_iload ok dX0_priceAlong_48 0 rfl ?_
        refine z_if_lt ok dX0_priceAlong_50 71 (by decide) (fun c6 => ?_) (fun c6 => ?_)
        · rw [if_pos c6] at hT3
          refine z_iconst ok dX0_priceAlong_71 (x := 0) (by decide) ?_
          exact z_iret ok hE dX0_priceAlong_72 rfl ⟨hT3, rfl⟩
        · rw [if_neg c6] at hT3
          refine z_iload ok dX0_priceAlong_53 0 rfl ?_
          refine z_bipush ok dX0_priceAlong_55 (x := 36) (by decide) ?_
          refine z_icmp_ge ok dX0_priceAlong_57 71 (by decide) (fun c7 => ?_) (fun c7 => ?_)
          · rw [if_pos c7] at hT3
            refine z_iconst ok dX0_priceAlong_71 (x := 0) (by decide) ?_
            exact z_iret ok hE dX0_priceAlong_72 rfl ⟨hT3, rfl⟩
          · rw [if_neg c7] at hT3
            refine z_aload_n ok dX0_priceAlong_60 1 rfl ?_
            refine z_get_X0_sides ok dX0_priceAlong_61 g h_g hN zw_104 ?_
            refine z_iload ok dX0_priceAlong_64 0 rfl ?_
            refine z_gld0 ok dX0_priceAlong_66 g h_g hN x5.toNatClampNeg (zidx (by assumption) (by assumption)).1 (zidx (by assumption) (by assumption)).2 ?_
            refine z_iconst ok dX0_priceAlong_67 (x := (-1)) (by decide) ?_
            refine z_icmp_eq ok dX0_priceAlong_68 73 (by decide) (fun c8 => ?_) (fun c8 => ?_)
            · rw [if_pos c8] at hT3
              refine z_iinc ok dX0_priceAlong_73 (hI 6 (by decide)) 7 rfl (y := (nI (v3_6 + 1))) (z_incn v3_6 1) (lv' := [(6, .int (nI (v3_6 + 1))), (7, .int x5), (0, .ref (zad G (6 + 6 * g))), (1, .int (nI f)), (2, .int right), (3, .int up), (4, .int x1), (5, .int x2)]) rfl ?_
              refine z_goto ok dX0_priceAlong_76 32 (by decide) ?_
              refine z_locs [2, 3, 4, 5, 6, 7, 0] (lv' := [(0, .ref (zad G (6 + 6 * g))), (1, .int (nI f)), (2, .int right), (3, .int up), (4, .int x1), (5, .int x2), (6, .int (nI (v3_6 + 1)))]) rfl ?_
              exact ih3 (v3_6 + 1) (by omega) (by omega) hT3
            · rw [if_neg c8] at hT3
              refine z_iconst ok dX0_priceAlong_71 (x := 0) (by decide) ?_
              exact z_iret ok hE dX0_priceAlong_72 rfl ⟨hT3, rfl⟩
  exact hl3 7 1 (by omega) (by omega) hT

def d_X0_price (w : xW) (g : Nat) (f : Nat) (t : Nat) : Int32 :=
  zlet ((d_X0_sideOn w g f)) fun x1 =>
  zlet ((d_X0_sideOn w g t)) fun x2 =>
  if x1 = (-1) then (0)
  else (if x2 = x1 then (0)
  else (zlet (((nI (t % 6)) - (nI (f % 6)))) fun x5 =>
  zlet (((nI (t / 6)) - (nI (f / 6)))) fun x6 =>
  zlet ((if 0 ≤ x5 then x5 else 0 - x5)) fun x7 =>
  zlet ((if 0 ≤ x6 then x6 else 0 - x6)) fun x8 =>
  if (d_X0_kindOn w g f) = 0 then (if (if x7 < x8 then x8 else x7) = 1 then (1)
  else (0))
  else (if (d_X0_kindOn w g f) = 1 then (if x7 = 0 then ((d_X0_priceAlong w g f x5 x6))
  else (if x8 = 0 then ((d_X0_priceAlong w g f x5 x6))
  else (0)))
  else (if (d_X0_kindOn w g f) = 2 then (if x7 = x8 then ((d_X0_priceAlong w g f x5 x6))
  else (0))
  else (if (d_X0_kindOn w g f) = 3 then (if (x7 * x8) = 2 then (2)
  else (0))
  else (if x1 = 0 then (if x6 = 1 then (if x2 = (-1) then (if x7 = 0 then (1)
  else (0))
  else (if x7 = 1 then (1)
  else (0)))
  else (0))
  else (if x6 = (-1) then (if x2 = (-1) then (if x7 = 0 then (1)
  else (0))
  else (if x7 = 1 then (1)
  else (0)))
  else (0))))))))
set_option maxRecDepth 100000 in
set_option maxHeartbeats 4000000 in
theorem c_X0_price (G : zG) (N : Nat) (hN : 47 ≤ N) (hg : zGeo G N) (w : xW) (g : Nat) (h_g : g < 7) (f : Nat) (h_f : f < 36) (t : Nat) (h_t : t < 36) : zM yX0_price cX0_price 10 (some .int) 2 48 G N [.ref (zad G (6 + 6 * g)), .int (nI f), .int (nI t)] w (some (d_X0_price w g f t)) w := by
  generalize hT : d_X0_price w g f t = r
  unfold d_X0_price at hT
  refine zM_of zy_X0_price.2.2.2.2.2.2.2 hg ⟨Nat.le_of_ble_eq_true rfl, by decide⟩ rfl (fun k ok hE hI => ?_)
  have old := hE.old
  refine z_aload_n ok dX0_price_0 0 rfl ?_
  refine z_iload_n ok dX0_price_1 1 rfl ?_
  refine z_callVi ok old dX0_price_2 [] (c_X0_sideOn G N hN hg w g h_g f (by omega)) zy_X0_sideOn zw_295 (6 + 6 * g) (zg_lt' hN h_g) (zE_board G w h_g) rfl rfl rfl rfl rfl (by decide) (Nat.le_of_ble_eq_true rfl) ?_
  replace hT := zlet_open hT
  obtain ⟨x1, hx1, hT⟩ := hT
  rw [← hx1]
  refine z_istore_n ok dX0_price_5 (hI 3 (by decide)) (lv' := [(3, .int x1), (0, .ref (zad G (6 + 6 * g))), (1, .int (nI f)), (2, .int (nI t))]) rfl ?_
  refine z_aload_n ok dX0_price_6 1 rfl ?_
  refine z_iload_n ok dX0_price_7 3 rfl ?_
  refine z_callVi ok old dX0_price_8 [] (c_X0_sideOn G N hN hg w g h_g t (by omega)) zy_X0_sideOn zw_295 (6 + 6 * g) (zg_lt' hN h_g) (zE_board G w h_g) rfl rfl rfl rfl rfl (by decide) (Nat.le_of_ble_eq_true rfl) ?_
  replace hT := zlet_open hT
  obtain ⟨x2, hx2, hT⟩ := hT
  rw [← hx2]
  refine z_istore ok dX0_price_11 (hI 4 (by decide)) (lv' := [(4, .int x2), (3, .int x1), (0, .ref (zad G (6 + 6 * g))), (1, .int (nI f)), (2, .int (nI t))]) rfl ?_
  refine z_iload_n ok dX0_price_13 1 rfl ?_
  refine z_iconst ok dX0_price_14 (x := (-1)) (by decide) ?_
  refine z_icmp_eq ok dX0_price_15 24 (by decide) (fun c3 => ?_) (fun c3 => ?_)
  · rw [if_pos c3] at hT
    refine z_iconst ok dX0_price_24 (x := 0) (by decide) ?_
    exact z_iret ok hE dX0_price_25 rfl ⟨hT, rfl⟩
  · rw [if_neg c3] at hT
    refine z_iload ok dX0_price_18 0 rfl ?_
    refine z_iload_n ok dX0_price_20 1 rfl ?_
    refine z_icmp_ne ok dX0_price_21 26 (by decide) (fun c4 => ?_) (fun c4 => ?_)
    · rw [if_neg c4] at hT
      refine z_iload_n ok dX0_price_26 4 rfl ?_
      refine z_bipush ok dX0_price_27 (x := 6) (by decide) ?_
      refine z_irem_n ok dX0_price_29 t 6 rfl rfl (by omega) (by omega) (by omega) ?_
      refine z_iload_n ok dX0_price_30 3 rfl ?_
      refine z_bipush ok dX0_price_31 (x := 6) (by decide) ?_
      refine z_irem_n ok dX0_price_33 f 6 rfl rfl (by omega) (by omega) (by omega) ?_
      refine z_isub ok dX0_price_34 ?_
      replace hT := zlet_open hT
      obtain ⟨x5, hx5, hT⟩ := hT
      rw [← hx5]
      refine z_istore ok dX0_price_35 (hI 5 (by decide)) (lv' := [(5, .int x5), (4, .int x2), (3, .int x1), (0, .ref (zad G (6 + 6 * g))), (1, .int (nI f)), (2, .int (nI t))]) rfl ?_
      refine z_iload_n ok dX0_price_37 5 rfl ?_
      refine z_bipush ok dX0_price_38 (x := 6) (by decide) ?_
      refine z_idiv_n ok dX0_price_40 t 6 rfl rfl (by omega) (by omega) (by omega) ?_
      refine z_iload_n ok dX0_price_41 4 rfl ?_
      refine z_bipush ok dX0_price_42 (x := 6) (by decide) ?_
      refine z_idiv_n ok dX0_price_44 f 6 rfl rfl (by omega) (by omega) (by omega) ?_
      refine z_isub ok dX0_price_45 ?_
      replace hT := zlet_open hT
      obtain ⟨x6, hx6, hT⟩ := hT
      rw [← hx6]
      refine z_istore ok dX0_price_46 (hI 6 (by decide)) (lv' := [(6, .int x6), (5, .int x5), (4, .int x2), (3, .int x1), (0, .ref (zad G (6 + 6 * g))), (1, .int (nI f)), (2, .int (nI t))]) rfl ?_
      refine z_iload ok dX0_price_48 1 rfl ?_
      refine z_abs ok dX0_price_50 zw_340 zw_341 zw_82 zw_342 ⟨by decide, Nat.le_of_ble_eq_true rfl⟩ ?_
      replace hT := zlet_open hT
      obtain ⟨x7, hx7, hT⟩ := hT
      rw [← hx7]
      refine z_istore ok dX0_price_53 (hI 7 (by decide)) (lv' := [(7, .int x7), (6, .int x6), (5, .int x5), (4, .int x2), (3, .int x1), (0, .ref (zad G (6 + 6 * g))), (1, .int (nI f)), (2, .int (nI t))]) rfl ?_
      refine z_iload ok dX0_price_55 1 rfl ?_
      refine z_abs ok dX0_price_57 zw_340 zw_341 zw_82 zw_342 ⟨by decide, Nat.le_of_ble_eq_true rfl⟩ ?_
      replace hT := zlet_open hT
      obtain ⟨x8, hx8, hT⟩ := hT
      rw [← hx8]
      refine z_istore ok dX0_price_60 (hI 8 (by decide)) (lv' := [(8, .int x8), (7, .int x7), (6, .int x6), (5, .int x5), (4, .int x2), (3, .int x1), (0, .ref (zad G (6 + 6 * g))), (1, .int (nI f)), (2, .int (nI t))]) rfl ?_
      refine z_aload_n ok dX0_price_62 6 rfl ?_
      refine z_iload_n ok dX0_price_63 7 rfl ?_
      refine z_callVi ok old dX0_price_64 [] (c_X0_kindOn G N hN hg w g h_g f (by omega)) zy_X0_kindOn zw_343 (6 + 6 * g) (zg_lt' hN h_g) (zE_board G w h_g) rfl rfl rfl rfl rfl (by decide) (Nat.le_of_ble_eq_true rfl) ?_
      by_cases c9 : (d_X0_kindOn w g f) = 0
      · rw [if_pos c9] at hT
        refine z_tableIn ok dX0_price_67 96 29 (by rw [c9]; decide) ?_
        refine z_iload ok dX0_price_96 1 rfl ?_
        refine z_iload ok dX0_price_98 0 rfl ?_
        refine z_max ok dX0_price_100 zw_344 zw_345 zw_82 zw_346 ⟨by decide, Nat.le_of_ble_eq_true rfl⟩ ?_
        refine z_iconst ok dX0_price_103 (x := 1) (by decide) ?_
        refine z_icmp_ne ok dX0_price_104 111 (by decide) (fun c10 => ?_) (fun c10 => ?_)
        · rw [if_neg c10] at hT
          refine z_iconst ok dX0_price_111 (x := 0) (by decide) ?_
          exact z_iret ok hE dX0_price_112 rfl ⟨hT, rfl⟩
        · rw [if_pos c10] at hT
          refine z_iconst ok dX0_price_107 (x := 1) (by decide) ?_
          refine z_goto ok dX0_price_108 112 (by decide) ?_
          exact z_iret ok hE dX0_price_112 rfl ⟨hT, rfl⟩
      · rw [if_neg c9] at hT
        by_cases c11 : (d_X0_kindOn w g f) = 1
        · rw [if_pos c11] at hT
          refine z_tableIn ok dX0_price_67 113 46 (by rw [c11]; decide) ?_
          refine z_iload ok dX0_price_113 1 rfl ?_
          refine z_if_eq ok dX0_price_115 123 (by decide) (fun c12 => ?_) (fun c12 => ?_)
          · rw [if_pos c12] at hT
            refine z_aload_n ok dX0_price_123 6 rfl ?_
            refine z_iload_n ok dX0_price_124 7 rfl ?_
            refine z_iload ok dX0_price_125 3 rfl ?_
            refine z_iload ok dX0_price_127 2 rfl ?_
            refine z_callVi ok old dX0_price_129 [] (c_X0_priceAlong G N hN hg w g h_g f (by omega) x5 x6 (by subst_vars; exact zdiff5 (by omega) (by omega)) (by subst_vars; exact zdiff5 (by omega) (by omega))) zy_X0_priceAlong zw_347 (6 + 6 * g) (zg_lt' hN h_g) (zE_board G w h_g) rfl rfl rfl rfl rfl (by decide) (Nat.le_of_ble_eq_true rfl) ?_
            refine z_goto ok dX0_price_132 136 (by decide) ?_
            exact z_iret ok hE dX0_price_136 rfl ⟨hT, rfl⟩
          · rw [if_neg c12] at hT
            refine z_iload ok dX0_price_118 0 rfl ?_
            refine z_if_ne ok dX0_price_120 135 (by decide) (fun c13 => ?_) (fun c13 => ?_)
            · rw [if_neg c13] at hT
              refine z_iconst ok dX0_price_135 (x := 0) (by decide) ?_
              exact z_iret ok hE dX0_price_136 rfl ⟨hT, rfl⟩
            · rw [if_pos c13] at hT
              refine z_aload_n ok dX0_price_123 6 rfl ?_
              refine z_iload_n ok dX0_price_124 7 rfl ?_
              refine z_iload ok dX0_price_125 3 rfl ?_
              refine z_iload ok dX0_price_127 2 rfl ?_
              refine z_callVi ok old dX0_price_129 [] (c_X0_priceAlong G N hN hg w g h_g f (by omega) x5 x6 (by subst_vars; exact zdiff5 (by omega) (by omega)) (by subst_vars; exact zdiff5 (by omega) (by omega))) zy_X0_priceAlong zw_347 (6 + 6 * g) (zg_lt' hN h_g) (zE_board G w h_g) rfl rfl rfl rfl rfl (by decide) (Nat.le_of_ble_eq_true rfl) ?_
              refine z_goto ok dX0_price_132 136 (by decide) ?_
              exact z_iret ok hE dX0_price_136 rfl ⟨hT, rfl⟩
        · rw [if_neg c11] at hT
          by_cases c14 : (d_X0_kindOn w g f) = 2
          · rw [if_pos c14] at hT
            refine z_tableIn ok dX0_price_67 137 70 (by rw [c14]; decide) ?_
            refine z_iload ok dX0_price_137 1 rfl ?_
            refine z_iload ok dX0_price_139 0 rfl ?_
            refine z_icmp_ne ok dX0_price_141 156 (by decide) (fun c15 => ?_) (fun c15 => ?_)
            · rw [if_neg c15] at hT
              refine z_iconst ok dX0_price_156 (x := 0) (by decide) ?_
              exact z_iret ok hE dX0_price_157 rfl ⟨hT, rfl⟩
            · rw [if_pos c15] at hT
              refine z_aload_n ok dX0_price_144 6 rfl ?_
              refine z_iload_n ok dX0_price_145 7 rfl ?_
              refine z_iload ok dX0_price_146 3 rfl ?_
              refine z_iload ok dX0_price_148 2 rfl ?_
              refine z_callVi ok old dX0_price_150 [] (c_X0_priceAlong G N hN hg w g h_g f (by omega) x5 x6 (by subst_vars; exact zdiff5 (by omega) (by omega)) (by subst_vars; exact zdiff5 (by omega) (by omega))) zy_X0_priceAlong zw_347 (6 + 6 * g) (zg_lt' hN h_g) (zE_board G w h_g) rfl rfl rfl rfl rfl (by decide) (Nat.le_of_ble_eq_true rfl) ?_
              refine z_goto ok dX0_price_153 157 (by decide) ?_
              exact z_iret ok hE dX0_price_157 rfl ⟨hT, rfl⟩
          · rw [if_neg c14] at hT
            by_cases c16 : (d_X0_kindOn w g f) = 3
            · rw [if_pos c16] at hT
              refine z_tableIn ok dX0_price_67 158 91 (by rw [c16]; decide) ?_
              refine z_iload ok dX0_price_158 1 rfl ?_
              refine z_iload ok dX0_price_160 0 rfl ?_
              refine z_imul ok dX0_price_162 ?_
              refine z_iconst ok dX0_price_163 (x := 2) (by decide) ?_
              refine z_icmp_ne ok dX0_price_164 171 (by decide) (fun c17 => ?_) (fun c17 => ?_)
              · rw [if_neg c17] at hT
                refine z_iconst ok dX0_price_171 (x := 0) (by decide) ?_
                exact z_iret ok hE dX0_price_172 rfl ⟨hT, rfl⟩
              · rw [if_pos c17] at hT
                refine z_iconst ok dX0_price_167 (x := 2) (by decide) ?_
                refine z_goto ok dX0_price_168 172 (by decide) ?_
                exact z_iret ok hE dX0_price_172 rfl ⟨hT, rfl⟩
            · rw [if_neg c16] at hT
              refine z_tableOut ok dX0_price_67 173 (ztab_out4 c9 c11 c14 c16) (by decide) ?_
              refine z_iload_n ok dX0_price_173 5 rfl ?_
              refine z_if_ne ok dX0_price_174 181 (by decide) (fun c18 => ?_) (fun c18 => ?_)
              · rw [if_neg c18] at hT
                refine z_iconst ok dX0_price_181 (x := (-1)) (by decide) ?_
                refine z_istore ok dX0_price_182 (hI 9 (by decide)) (lv' := [(9, .int (-1)), (8, .int x8), (7, .int x7), (6, .int x6), (5, .int x5), (4, .int x2), (3, .int x1), (0, .ref (zad G (6 + 6 * g))), (1, .int (nI f)), (2, .int (nI t))]) rfl ?_
                refine z_iload ok dX0_price_184 3 rfl ?_
                refine z_iload ok dX0_price_186 0 rfl ?_
                refine z_icmp_ne ok dX0_price_188 211 (by decide) (fun c19 => ?_) (fun c19 => ?_)
                · rw [if_neg c19] at hT
                  refine z_iconst ok dX0_price_211 (x := 0) (by decide) ?_
                  exact z_iret ok hE dX0_price_212 rfl ⟨hT, rfl⟩
                · rw [if_pos c19] at hT
                  refine z_iload ok dX0_price_191 2 rfl ?_
                  refine z_iload ok dX0_price_193 5 rfl ?_
                  refine z_iconst ok dX0_price_195 (x := (-1)) (by decide) ?_
                  refine z_icmp_ne ok dX0_price_196 203 (by decide) (fun c20 => ?_) (fun c20 => ?_)
                  · rw [if_neg c20] at hT
                    refine z_iconst ok dX0_price_203 (x := 1) (by decide) ?_
                    refine z_icmp_ne ok dX0_price_204 211 (by decide) (fun c21 => ?_) (fun c21 => ?_)
                    · rw [if_neg c21] at hT
                      refine z_iconst ok dX0_price_211 (x := 0) (by decide) ?_
                      exact z_iret ok hE dX0_price_212 rfl ⟨hT, rfl⟩
                    · rw [if_pos c21] at hT
                      refine z_iconst ok dX0_price_207 (x := 1) (by decide) ?_
                      refine z_goto ok dX0_price_208 212 (by decide) ?_
                      exact z_iret ok hE dX0_price_212 rfl ⟨hT, rfl⟩
                  · rw [if_pos c20] at hT
                    refine z_iconst ok dX0_price_199 (x := 0) (by decide) ?_
                    refine z_goto ok dX0_price_200 204 (by decide) ?_
                    refine z_icmp_ne ok dX0_price_204 211 (by decide) (fun c22 => ?_) (fun c22 => ?_)
                    · rw [if_neg c22] at hT
                      refine z_iconst ok dX0_price_211 (x := 0) (by decide) ?_
                      exact z_iret ok hE dX0_price_212 rfl ⟨hT, rfl⟩
                    · rw [if_pos c22] at hT
                      refine z_iconst ok dX0_price_207 (x := 1) (by decide) ?_
                      refine z_goto ok dX0_price_208 212 (by decide) ?_
                      exact z_iret ok hE dX0_price_212 rfl ⟨hT, rfl⟩
              · rw [if_pos c18] at hT
                refine z_iconst ok dX0_price_177 (x := 1) (by decide) ?_
                refine z_goto ok dX0_price_178 182 (by decide) ?_
                refine z_istore ok dX0_price_182 (hI 9 (by decide)) (lv' := [(9, .int 1), (8, .int x8), (7, .int x7), (6, .int x6), (5, .int x5), (4, .int x2), (3, .int x1), (0, .ref (zad G (6 + 6 * g))), (1, .int (nI f)), (2, .int (nI t))]) rfl ?_
                refine z_iload ok dX0_price_184 3 rfl ?_
                refine z_iload ok dX0_price_186 0 rfl ?_
                refine z_icmp_ne ok dX0_price_188 211 (by decide) (fun c23 => ?_) (fun c23 => ?_)
                · rw [if_neg c23] at hT
                  refine z_iconst ok dX0_price_211 (x := 0) (by decide) ?_
                  exact z_iret ok hE dX0_price_212 rfl ⟨hT, rfl⟩
                · rw [if_pos c23] at hT
                  refine z_iload ok dX0_price_191 2 rfl ?_
                  refine z_iload ok dX0_price_193 5 rfl ?_
                  refine z_iconst ok dX0_price_195 (x := (-1)) (by decide) ?_
                  refine z_icmp_ne ok dX0_price_196 203 (by decide) (fun c24 => ?_) (fun c24 => ?_)
                  · rw [if_neg c24] at hT
                    refine z_iconst ok dX0_price_203 (x := 1) (by decide) ?_
                    refine z_icmp_ne ok dX0_price_204 211 (by decide) (fun c25 => ?_) (fun c25 => ?_)
                    · rw [if_neg c25] at hT
                      refine z_iconst ok dX0_price_211 (x := 0) (by decide) ?_
                      exact z_iret ok hE dX0_price_212 rfl ⟨hT, rfl⟩
                    · rw [if_pos c25] at hT
                      refine z_iconst ok dX0_price_207 (x := 1) (by decide) ?_
                      refine z_goto ok dX0_price_208 212 (by decide) ?_
                      exact z_iret ok hE dX0_price_212 rfl ⟨hT, rfl⟩
                  · rw [if_pos c24] at hT
                    refine z_iconst ok dX0_price_199 (x := 0) (by decide) ?_
                    refine z_goto ok dX0_price_200 204 (by decide) ?_
                    refine z_icmp_ne ok dX0_price_204 211 (by decide) (fun c26 => ?_) (fun c26 => ?_)
                    · rw [if_neg c26] at hT
                      refine z_iconst ok dX0_price_211 (x := 0) (by decide) ?_
                      exact z_iret ok hE dX0_price_212 rfl ⟨hT, rfl⟩
                    · rw [if_pos c26] at hT
                      refine z_iconst ok dX0_price_207 (x := 1) (by decide) ?_
                      refine z_goto ok dX0_price_208 212 (by decide) ?_
                      exact z_iret ok hE dX0_price_212 rfl ⟨hT, rfl⟩
    · rw [if_pos c4] at hT
      refine z_iconst ok dX0_price_24 (x := 0) (by decide) ?_
      exact z_iret ok hE dX0_price_25 rfl ⟨hT, rfl⟩

def d_X0_canMove (w : xW) (g : Nat) (f : Nat) (t : Nat) : Int32 :=
  zlet ((d_X0_price w g f t)) fun x1 =>
  if x1 ≤ 0 then (0)
  else (if (d_X0_springOn w g f) < x1 then (0)
  else (1))
set_option maxRecDepth 100000 in
set_option maxHeartbeats 4000000 in
theorem c_X0_canMove (G : zG) (N : Nat) (hN : 47 ≤ N) (hg : zGeo G N) (w : xW) (g : Nat) (h_g : g < 7) (f : Nat) (h_f : f < 36) (t : Nat) (h_t : t < 36) : zM yX0_canMove cX0_canMove 4 (some .boolean) 3 77 G N [.ref (zad G (6 + 6 * g)), .int (nI f), .int (nI t)] w (some (d_X0_canMove w g f t)) w := by
  generalize hT : d_X0_canMove w g f t = r
  unfold d_X0_canMove at hT
  refine zM_of zy_X0_canMove.2.2.2.2.2.2.2 hg ⟨Nat.le_of_ble_eq_true rfl, by decide⟩ rfl (fun k ok hE hI => ?_)
  have old := hE.old
  refine z_aload_n ok dX0_canMove_0 0 rfl ?_
  refine z_iload_n ok dX0_canMove_1 1 rfl ?_
  refine z_iload_n ok dX0_canMove_2 2 rfl ?_
  refine z_callVi ok old dX0_canMove_3 [] (c_X0_price G N hN hg w g h_g f (by omega) t (by omega)) zy_X0_price zw_336 (6 + 6 * g) (zg_lt' hN h_g) (zE_board G w h_g) rfl rfl rfl rfl rfl (by decide) (Nat.le_of_ble_eq_true rfl) ?_
  replace hT := zlet_open hT
  obtain ⟨x1, hx1, hT⟩ := hT
  rw [← hx1]
  refine z_istore_n ok dX0_canMove_6 (hI 3 (by decide)) (lv' := [(3, .int x1), (0, .ref (zad G (6 + 6 * g))), (1, .int (nI f)), (2, .int (nI t))]) rfl ?_
  refine z_iload_n ok dX0_canMove_7 0 rfl ?_
  refine z_if_le ok dX0_canMove_8 24 (by decide) (fun c2 => ?_) (fun c2 => ?_)
  · rw [if_pos c2] at hT
    refine z_iconst ok dX0_canMove_24 (x := 0) (by decide) ?_
    exact z_iret ok hE dX0_canMove_25 rfl ⟨hT, rfl⟩
  · rw [if_neg c2] at hT
    refine z_iload_n ok dX0_canMove_11 0 rfl ?_
    refine z_aload_n ok dX0_canMove_12 1 rfl ?_
    refine z_iload_n ok dX0_canMove_13 2 rfl ?_
    refine z_callVi ok old dX0_canMove_14 [.int x1] (c_X0_springOn G N hN hg w g h_g f (by omega)) zy_X0_springOn zw_354 (6 + 6 * g) (zg_lt' hN h_g) (zE_board G w h_g) rfl rfl rfl rfl rfl (by decide) (Nat.le_of_ble_eq_true rfl) ?_
    refine z_icmp_gt ok dX0_canMove_17 24 (by decide) (fun c3 => ?_) (fun c3 => ?_)
    · rw [if_pos c3] at hT
      refine z_iconst ok dX0_canMove_24 (x := 0) (by decide) ?_
      exact z_iret ok hE dX0_canMove_25 rfl ⟨hT, rfl⟩
    · rw [if_neg c3] at hT
      refine z_iconst ok dX0_canMove_20 (x := 1) (by decide) ?_
      refine z_goto ok dX0_canMove_21 25 (by decide) ?_
      exact z_iret ok hE dX0_canMove_25 rfl ⟨hT, rfl⟩

def d_X0_movesFrom_4k  (e1_2 : Int32) (e1_3 : Nat) : Int32 :=
  e1_2
def d_X0_movesFrom_4 (w : xW) (g : Nat) (f : Nat) (kt1 : Int32 → Nat → Int32) : Nat → Int32 → Nat → Int32
  | 0, _, _ => default
  | n1 + 1, v1_2, v1_3 => if 36 ≤ v1_3 then (kt1 v1_2 v1_3)
  else (if (d_X0_canMove w g f v1_3) = 0 then (d_X0_movesFrom_4 w g f kt1 n1 v1_2 (v1_3 + 1))
  else (d_X0_movesFrom_4 w g f kt1 n1 (v1_2 + 1) (v1_3 + 1)))
def d_X0_movesFrom (w : xW) (g : Nat) (f : Nat) : Int32 :=
  d_X0_movesFrom_4 w g f d_X0_movesFrom_4k 37 0 0
set_option maxRecDepth 100000 in
set_option maxHeartbeats 4000000 in
theorem c_X0_movesFrom (G : zG) (N : Nat) (hN : 47 ≤ N) (hg : zGeo G N) (w : xW) (g : Nat) (h_g : g < 7) (f : Nat) (h_f : f < 36) : zM yX0_movesFrom cX0_movesFrom 4 (some .int) 4 100 G N [.ref (zad G (6 + 6 * g)), .int (nI f)] w (some (d_X0_movesFrom w g f)) w := by
  generalize hT : d_X0_movesFrom w g f = r
  unfold d_X0_movesFrom at hT
  refine zM_of zy_X0_movesFrom.2.2.2.2.2.2.2 hg ⟨Nat.le_of_ble_eq_true rfl, by decide⟩ rfl (fun k ok hE hI => ?_)
  have old := hE.old
  refine z_iconst ok dX0_movesFrom_0 (x := 0) (by decide) ?_
  refine z_istore_n ok dX0_movesFrom_1 (hI 2 (by decide)) (lv' := [(2, .int 0), (0, .ref (zad G (6 + 6 * g))), (1, .int (nI f))]) rfl ?_
  refine z_iconst ok dX0_movesFrom_2 (x := 0) (by decide) ?_
  refine z_istore_n ok dX0_movesFrom_3 (hI 3 (by decide)) (lv' := [(3, .int 0), (2, .int 0), (0, .ref (zad G (6 + 6 * g))), (1, .int (nI f))]) rfl ?_
  refine z_locs [2, 3, 1, 0] (lv' := [(0, .ref (zad G (6 + 6 * g))), (1, .int (nI f)), (2, .int 0), (3, .int 0)]) rfl ?_
  obtain ⟨kt1, hkt1⟩ : ∃ z, z = d_X0_movesFrom_4k := ⟨_, rfl⟩
  rw [← hkt1] at hT
  have hk1 : ∀ (e1_2 : Int32) (e1_3 : Nat), e1_3 ≤ 36 → kt1 e1_2 e1_3 = r → zZ k G N w 28 [(0, .ref (zad G (6 + 6 * g))), (1, .int (nI f)), (2, .int e1_2), (3, .int (nI e1_3))] [] := by
    intro e1_2 e1_3 q1_0 hT1
    rw [hkt1, d_X0_movesFrom_4k] at hT1
    refine z_iload_n ok dX0_movesFrom_28 2 rfl ?_
    exact z_iret ok hE dX0_movesFrom_29 rfl ⟨hT1, rfl⟩
  have hl1 : ∀ (n1 : Nat) (v1_2 : Int32) (v1_3 : Nat), 36 < v1_3 + n1 → v1_3 ≤ 36 → d_X0_movesFrom_4 w g f kt1 n1 v1_2 v1_3 = r → zZ k G N w 4 [(0, .ref (zad G (6 + 6 * g))), (1, .int (nI f)), (2, .int v1_2), (3, .int (nI v1_3))] [] := by
    intro n1
    induction n1 with
    | zero =>
      intro v1_2 v1_3 q1_0 q1_1
      exact absurd q1_0 (by omega)
    | succ n1 ih1 =>
      intro v1_2 v1_3 q1_0 q1_1 hT1
      rw [d_X0_movesFrom_4] at hT1
      refine z_iload_n ok dX0_movesFrom_4 3 rfl ?_
      refine z_bipush ok dX0_movesFrom_5 (x := 36) (by decide) ?_
      refine z_icmp_ge_n ok dX0_movesFrom_7 28 (by decide) v1_3 36 rfl rfl (by omega) (fun c2 => ?_) (fun c2 => ?_)
      · rw [if_pos c2] at hT1
        refine z_locs [0, 1, 2, 3] (lv' := [(0, .ref (zad G (6 + 6 * g))), (1, .int (nI f)), (2, .int v1_2), (3, .int (nI v1_3))]) rfl ?_
        exact hk1 v1_2 v1_3 (by omega) hT1
      · rw [if_neg c2] at hT1
        refine z_aload_n ok dX0_movesFrom_10 0 rfl ?_
        refine z_iload_n ok dX0_movesFrom_11 1 rfl ?_
        refine z_iload_n ok dX0_movesFrom_12 3 rfl ?_
        refine z_callVi ok old dX0_movesFrom_13 [] (c_X0_canMove G N hN hg w g h_g f (by omega) v1_3 (by omega)) zy_X0_canMove zw_332 (6 + 6 * g) (zg_lt' hN h_g) (zE_board G w h_g) rfl rfl rfl rfl rfl (by decide) (Nat.le_of_ble_eq_true rfl) ?_
        refine z_if_eq ok dX0_movesFrom_16 22 (by decide) (fun c3 => ?_) (fun c3 => ?_)
        · rw [if_pos c3] at hT1
          refine z_iinc ok dX0_movesFrom_22 (hI 3 (by decide)) 3 rfl (y := (nI (v1_3 + 1))) (z_incn v1_3 1) (lv' := [(3, .int (nI (v1_3 + 1))), (0, .ref (zad G (6 + 6 * g))), (1, .int (nI f)), (2, .int v1_2)]) rfl ?_
          refine z_goto ok dX0_movesFrom_25 4 (by decide) ?_
          refine z_locs [1, 2, 3, 0] (lv' := [(0, .ref (zad G (6 + 6 * g))), (1, .int (nI f)), (2, .int v1_2), (3, .int (nI (v1_3 + 1)))]) rfl ?_
          exact ih1 v1_2 (v1_3 + 1) (by omega) (by omega) hT1
        · rw [if_neg c3] at hT1
          refine z_iinc ok dX0_movesFrom_19 (hI 2 (by decide)) 2 rfl (y := (v1_2 + 1)) rfl (lv' := [(2, .int (v1_2 + 1)), (0, .ref (zad G (6 + 6 * g))), (1, .int (nI f)), (3, .int (nI v1_3))]) rfl ?_
          refine z_iinc ok dX0_movesFrom_22 (hI 3 (by decide)) 3 rfl (y := (nI (v1_3 + 1))) (z_incn v1_3 1) (lv' := [(3, .int (nI (v1_3 + 1))), (2, .int (v1_2 + 1)), (0, .ref (zad G (6 + 6 * g))), (1, .int (nI f))]) rfl ?_
          refine z_goto ok dX0_movesFrom_25 4 (by decide) ?_
          refine z_locs [2, 3, 1, 0] (lv' := [(0, .ref (zad G (6 + 6 * g))), (1, .int (nI f)), (2, .int (v1_2 + 1)), (3, .int (nI (v1_3 + 1)))]) rfl ?_
          exact ih1 (v1_2 + 1) (v1_3 + 1) (by omega) (by omega) hT1
  exact hl1 37 0 0 (by omega) (by omega) hT

def d_X0_movesOf_4k  (e1_2 : Int32) (e1_3 : Nat) : Int32 :=
  e1_2
def d_X0_movesOf_13 (w : xW) (g : Nat) (side : Int32) (v1_3 : Nat) (kt3 : Int32 → Nat → Int32) : Nat → Int32 → Nat → Int32
  | 0, _, _ => default
  | n3 + 1, v3_2, v3_4 => if (xg w g v1_3) = side then (if 36 ≤ v3_4 then (kt3 v3_2 v3_4)
  else (if (d_X0_canMove w g v1_3 v3_4) = 0 then (d_X0_movesOf_13 w g side v1_3 kt3 n3 v3_2 (v3_4 + 1))
  else (d_X0_movesOf_13 w g side v1_3 kt3 n3 (v3_2 + 1) (v3_4 + 1))))
  else (kt3 v3_2 v3_4)
def d_X0_movesOf_4 (w : xW) (g : Nat) (side : Int32) (kt1 : Int32 → Nat → Int32) : Nat → Int32 → Nat → Int32
  | 0, _, _ => default
  | n1 + 1, v1_2, v1_3 => if 36 ≤ v1_3 then (kt1 v1_2 v1_3)
  else (d_X0_movesOf_13 w g side v1_3 (fun e3_2 e3_4 => (d_X0_movesOf_4 w g side kt1 n1 e3_2 (v1_3 + 1))) 37 v1_2 0)
def d_X0_movesOf (w : xW) (g : Nat) (side : Int32) : Int32 :=
  d_X0_movesOf_4 w g side d_X0_movesOf_4k 37 0 0
set_option maxRecDepth 100000 in
set_option maxHeartbeats 4000000 in
theorem c_X0_movesOf (G : zG) (N : Nat) (hN : 47 ≤ N) (hg : zGeo G N) (w : xW) (g : Nat) (h_g : g < 7) (side : Int32) : zM yX0_movesOf cX0_movesOf 5 (some .int) 4 100 G N [.ref (zad G (6 + 6 * g)), .int side] w (some (d_X0_movesOf w g side)) w := by
  generalize hT : d_X0_movesOf w g side = r
  unfold d_X0_movesOf at hT
  refine zM_of zy_X0_movesOf.2.2.2.2.2.2.2 hg ⟨Nat.le_of_ble_eq_true rfl, by decide⟩ rfl (fun k ok hE hI => ?_)
  have old := hE.old
  refine z_iconst ok dX0_movesOf_0 (x := 0) (by decide) ?_
  refine z_istore_n ok dX0_movesOf_1 (hI 2 (by decide)) (lv' := [(2, .int 0), (0, .ref (zad G (6 + 6 * g))), (1, .int side)]) rfl ?_
  refine z_iconst ok dX0_movesOf_2 (x := 0) (by decide) ?_
  refine z_istore_n ok dX0_movesOf_3 (hI 3 (by decide)) (lv' := [(3, .int 0), (2, .int 0), (0, .ref (zad G (6 + 6 * g))), (1, .int side)]) rfl ?_
  refine z_locs [2, 3, 1, 0] (lv' := [(0, .ref (zad G (6 + 6 * g))), (1, .int side), (2, .int 0), (3, .int 0)]) rfl ?_
  obtain ⟨kt1, hkt1⟩ : ∃ z, z = d_X0_movesOf_4k := ⟨_, rfl⟩
  rw [← hkt1] at hT
  have hk1 : ∀ (e1_2 : Int32) (e1_3 : Nat), e1_3 ≤ 36 → kt1 e1_2 e1_3 = r → zZ k G N w 55 [(0, .ref (zad G (6 + 6 * g))), (1, .int side), (2, .int e1_2), (3, .int (nI e1_3))] [] := by
    intro e1_2 e1_3 q1_0 hT1
    rw [hkt1, d_X0_movesOf_4k] at hT1
    refine z_iload_n ok dX0_movesOf_55 2 rfl ?_
    exact z_iret ok hE dX0_movesOf_56 rfl ⟨hT1, rfl⟩
  have hl1 : ∀ (n1 : Nat) (v1_2 : Int32) (v1_3 : Nat), 36 < v1_3 + n1 → v1_3 ≤ 36 → d_X0_movesOf_4 w g side kt1 n1 v1_2 v1_3 = r → zZ k G N w 4 [(0, .ref (zad G (6 + 6 * g))), (1, .int side), (2, .int v1_2), (3, .int (nI v1_3))] [] := by
    intro n1
    induction n1 with
    | zero =>
      intro v1_2 v1_3 q1_0 q1_1
      exact absurd q1_0 (by omega)
    | succ n1 ih1 =>
      intro v1_2 v1_3 q1_0 q1_1 hT1
      rw [d_X0_movesOf_4] at hT1
      refine z_iload_n ok dX0_movesOf_4 3 rfl ?_
      refine z_bipush ok dX0_movesOf_5 (x := 36) (by decide) ?_
      refine z_icmp_ge_n ok dX0_movesOf_7 55 (by decide) v1_3 36 rfl rfl (by omega) (fun c2 => ?_) (fun c2 => ?_)
      · rw [if_pos c2] at hT1
        refine z_locs [0, 1, 2, 3] (lv' := [(0, .ref (zad G (6 + 6 * g))), (1, .int side), (2, .int v1_2), (3, .int (nI v1_3))]) rfl ?_
        exact hk1 v1_2 v1_3 (by omega) hT1
      · rw [if_neg c2] at hT1
        refine z_iconst ok dX0_movesOf_10 (x := 0) (by decide) ?_
        refine z_istore ok dX0_movesOf_11 (hI 4 (by decide)) (lv' := [(4, .int 0), (0, .ref (zad G (6 + 6 * g))), (1, .int side), (2, .int v1_2), (3, .int (nI v1_3))]) rfl ?_
        refine z_locs [1, 2, 3, 4, 0] (lv' := [(0, .ref (zad G (6 + 6 * g))), (1, .int side), (2, .int v1_2), (3, .int (nI v1_3)), (4, .int 0)]) rfl ?_
        obtain ⟨kt3, hkt3⟩ : ∃ z, z = ((fun e3_2 e3_4 => (d_X0_movesOf_4 w g side kt1 n1 e3_2 (v1_3 + 1))) : Int32 → Nat → Int32) := ⟨_, rfl⟩
        rw [← hkt3] at hT1
        have hk3 : ∀ (e3_2 : Int32) (e3_4 : Nat), e3_4 ≤ 36 → kt3 e3_2 e3_4 = r → zZ k G N w 49 [(0, .ref (zad G (6 + 6 * g))), (1, .int side), (2, .int e3_2), (3, .int (nI v1_3)), (4, .int (nI e3_4))] [] := by
          intro e3_2 e3_4 q3_0 hT3
          rw [hkt3] at hT3
          dsimp only at hT3
          refine z_iinc ok dX0_movesOf_49 (hI 3 (by decide)) 3 rfl (y := (nI (v1_3 + 1))) (z_incn v1_3 1) (lv' := [(3, .int (nI (v1_3 + 1))), (0, .ref (zad G (6 + 6 * g))), (1, .int side), (2, .int e3_2), (4, .int (nI e3_4))]) rfl ?_
          refine z_goto ok dX0_movesOf_52 4 (by decide) ?_
          refine z_locs [1, 2, 3, 0] (lv' := [(0, .ref (zad G (6 + 6 * g))), (1, .int side), (2, .int e3_2), (3, .int (nI (v1_3 + 1)))]) rfl ?_
          exact ih1 e3_2 (v1_3 + 1) (by omega) (by omega) hT3
        have hl3 : ∀ (n3 : Nat) (v3_2 : Int32) (v3_4 : Nat), 36 < v3_4 + n3 → v3_4 ≤ 36 → d_X0_movesOf_13 w g side v1_3 kt3 n3 v3_2 v3_4 = r → zZ k G N w 13 [(0, .ref (zad G (6 + 6 * g))), (1, .int side), (2, .int v3_2), (3, .int (nI v1_3)), (4, .int (nI v3_4))] [] := by
          intro n3
          induction n3 with
          | zero =>
            intro v3_2 v3_4 q3_0 q3_1
            exact absurd q3_0 (by omega)
          | succ n3 ih3 =>
            intro v3_2 v3_4 q3_0 q3_1 hT3
            rw [d_X0_movesOf_13] at hT3
            refine z_aload_n ok dX0_movesOf_13 0 rfl ?_
            refine z_get_X0_sides ok dX0_movesOf_14 g h_g hN zw_104 ?_
            refine z_iload_n ok dX0_movesOf_17 3 rfl ?_
            refine z_gld0 ok dX0_movesOf_18 g h_g hN v1_3 rfl (by omega) ?_
            refine z_iload_n ok dX0_movesOf_19 1 rfl ?_
            refine z_icmp_ne ok dX0_movesOf_20 49 (by decide) (fun c4 => ?_) (fun c4 => ?_)
            · rw [if_neg c4] at hT3
              refine z_locs [0, 1, 2, 3, 4] (lv' := [(0, .ref (zad G (6 + 6 * g))), (1, .int side), (2, .int v3_2), (3, .int (nI v1_3)), (4, .int (nI v3_4))]) rfl ?_
              exact hk3 v3_2 v3_4 (by omega) hT3
            · rw [if_pos c4] at hT3
              refine z_iload ok dX0_movesOf_23 4 rfl ?_
              refine z_bipush ok dX0_movesOf_25 (x := 36) (by decide) ?_
              refine z_icmp_ge_n ok dX0_movesOf_27 49 (by decide) v3_4 36 rfl rfl (by omega) (fun c5 => ?_) (fun c5 => ?_)
              · rw [if_pos c5] at hT3
                refine z_locs [0, 1, 2, 3, 4] (lv' := [(0, .ref (zad G (6 + 6 * g))), (1, .int side), (2, .int v3_2), (3, .int (nI v1_3)), (4, .int (nI v3_4))]) rfl ?_
                exact hk3 v3_2 v3_4 (by omega) hT3
              · rw [if_neg c5] at hT3
                refine z_aload_n ok dX0_movesOf_30 0 rfl ?_
                refine z_iload_n ok dX0_movesOf_31 3 rfl ?_
                refine z_iload ok dX0_movesOf_32 4 rfl ?_
                refine z_callVi ok old dX0_movesOf_34 [] (c_X0_canMove G N hN hg w g h_g v1_3 (by omega) v3_4 (by omega)) zy_X0_canMove zw_332 (6 + 6 * g) (zg_lt' hN h_g) (zE_board G w h_g) rfl rfl rfl rfl rfl (by decide) (Nat.le_of_ble_eq_true rfl) ?_
                refine z_if_eq ok dX0_movesOf_37 43 (by decide) (fun c6 => ?_) (fun c6 => ?_)
                · rw [if_pos c6] at hT3
                  refine z_iinc ok dX0_movesOf_43 (hI 4 (by decide)) 4 rfl (y := (nI (v3_4 + 1))) (z_incn v3_4 1) (lv' := [(4, .int (nI (v3_4 + 1))), (0, .ref (zad G (6 + 6 * g))), (1, .int side), (2, .int v3_2), (3, .int (nI v1_3))]) rfl ?_
                  refine z_goto ok dX0_movesOf_46 13 (by decide) ?_
                  refine z_locs [1, 2, 3, 4, 0] (lv' := [(0, .ref (zad G (6 + 6 * g))), (1, .int side), (2, .int v3_2), (3, .int (nI v1_3)), (4, .int (nI (v3_4 + 1)))]) rfl ?_
                  exact ih3 v3_2 (v3_4 + 1) (by omega) (by omega) hT3
                · rw [if_neg c6] at hT3
                  refine z_iinc ok dX0_movesOf_40 (hI 2 (by decide)) 2 rfl (y := (v3_2 + 1)) rfl (lv' := [(2, .int (v3_2 + 1)), (0, .ref (zad G (6 + 6 * g))), (1, .int side), (3, .int (nI v1_3)), (4, .int (nI v3_4))]) rfl ?_
                  refine z_iinc ok dX0_movesOf_43 (hI 4 (by decide)) 4 rfl (y := (nI (v3_4 + 1))) (z_incn v3_4 1) (lv' := [(4, .int (nI (v3_4 + 1))), (2, .int (v3_2 + 1)), (0, .ref (zad G (6 + 6 * g))), (1, .int side), (3, .int (nI v1_3))]) rfl ?_
                  refine z_goto ok dX0_movesOf_46 13 (by decide) ?_
                  refine z_locs [2, 3, 1, 4, 0] (lv' := [(0, .ref (zad G (6 + 6 * g))), (1, .int side), (2, .int (v3_2 + 1)), (3, .int (nI v1_3)), (4, .int (nI (v3_4 + 1)))]) rfl ?_
                  exact ih3 (v3_2 + 1) (v3_4 + 1) (by omega) (by omega) hT3
        exact hl3 37 v1_2 0 (by omega) (by omega) hT1
  exact hl1 37 0 0 (by omega) (by omega) hT

def d_X0_copyFrom (w : xW) (g : Nat) (h : Nat) : xW :=
  zlet (xcopy w g 0 h 0) fun w1 =>
  zlet (xcopy w1 g 36 h 36) fun w2 =>
  zlet (xcopy w2 g 72 h 72) fun w3 =>
  zlet (xcopy w3 g 108 h 108) fun w4 =>
  w4
set_option maxRecDepth 100000 in
set_option maxHeartbeats 4000000 in
theorem c_X0_copyFrom (G : zG) (N : Nat) (hN : 47 ≤ N) (hg : zGeo G N) (w : xW) (g : Nat) (h_g : g < 7) (h : Nat) (h_h : h < 7) : zM yX0_copyFrom cX0_copyFrom 2 none 1 60 G N [.ref (zad G (6 + 6 * g)), .ref (zad G (6 + 6 * h))] w none (d_X0_copyFrom w g h) := by
  generalize hT : d_X0_copyFrom w g h = u
  unfold d_X0_copyFrom at hT
  refine zM_of zy_X0_copyFrom.2.2.2.2.2.2.2 hg ⟨Nat.le_of_ble_eq_true rfl, by decide⟩ rfl (fun k ok hE hI => ?_)
  have old := hE.old
  refine z_aload_n ok dX0_copyFrom_0 1 rfl ?_
  refine z_get_X0_sides ok dX0_copyFrom_1 h h_h hN zw_104 ?_
  refine z_iconst ok dX0_copyFrom_4 (x := 0) (by decide) ?_
  refine z_aload_n ok dX0_copyFrom_5 0 rfl ?_
  refine z_get_X0_sides ok dX0_copyFrom_6 g h_g hN zw_104 ?_
  refine z_iconst ok dX0_copyFrom_9 (x := 0) (by decide) ?_
  refine z_bipush ok dX0_copyFrom_10 (x := 36) (by decide) ?_
  refine z_copy ok dX0_copyFrom_12 zw_248 zw_250 zw_249 zw_81 (7 + 6 * h) (7 + 6 * g) (by have := (show h < 7 from h_h); omega) (by have := (show g < 7 from h_g); omega) ((fun u => zE_arr (r := 0) G u h_h (by decide)) w) (fun u => zE_arr (r := 0) G u h_g (by decide)) (v := g) (o := 0) (v0 := h) (o0 := 0) (n := 36) (u := xcopy w g 0 h 0) rfl (by decide) (xcopy_xg w g 0 h 0) rfl (fun b h1 h2 => zown_cp (r := 0) h_g (by decide) h1 h2) ⟨by decide, Nat.le_trans (Nat.add_le_add_left znative _) (Nat.le_of_ble_eq_true rfl)⟩ ?_
  replace hT := zlet_open hT
  obtain ⟨w1, hw1, hT⟩ := hT
  rw [← hw1]
  refine z_aload_n ok dX0_copyFrom_15 1 rfl ?_
  refine z_get_X0_kinds ok dX0_copyFrom_16 h h_h hN zw_105 ?_
  refine z_iconst ok dX0_copyFrom_19 (x := 0) (by decide) ?_
  refine z_aload_n ok dX0_copyFrom_20 0 rfl ?_
  refine z_get_X0_kinds ok dX0_copyFrom_21 g h_g hN zw_105 ?_
  refine z_iconst ok dX0_copyFrom_24 (x := 0) (by decide) ?_
  refine z_bipush ok dX0_copyFrom_25 (x := 36) (by decide) ?_
  refine z_copy ok dX0_copyFrom_27 zw_248 zw_250 zw_249 zw_81 (8 + 6 * h) (8 + 6 * g) (by have := (show h < 7 from h_h); omega) (by have := (show g < 7 from h_g); omega) ((fun u => zE_arr (r := 1) G u h_h (by decide)) w1) (fun u => zE_arr (r := 1) G u h_g (by decide)) (v := g) (o := 36) (v0 := h) (o0 := 36) (n := 36) (u := xcopy w1 g 36 h 36) rfl (by decide) (xcopy_xg w1 g 36 h 36) rfl (fun b h1 h2 => zown_cp (r := 1) h_g (by decide) h1 h2) ⟨by decide, Nat.le_trans (Nat.add_le_add_left znative _) (Nat.le_of_ble_eq_true rfl)⟩ ?_
  replace hT := zlet_open hT
  obtain ⟨w2, hw2, hT⟩ := hT
  rw [← hw2]
  refine z_aload_n ok dX0_copyFrom_30 1 rfl ?_
  refine z_get_X0_springs ok dX0_copyFrom_31 h h_h hN zw_106 ?_
  refine z_iconst ok dX0_copyFrom_34 (x := 0) (by decide) ?_
  refine z_aload_n ok dX0_copyFrom_35 0 rfl ?_
  refine z_get_X0_springs ok dX0_copyFrom_36 g h_g hN zw_106 ?_
  refine z_iconst ok dX0_copyFrom_39 (x := 0) (by decide) ?_
  refine z_bipush ok dX0_copyFrom_40 (x := 36) (by decide) ?_
  refine z_copy ok dX0_copyFrom_42 zw_248 zw_250 zw_249 zw_81 (9 + 6 * h) (9 + 6 * g) (by have := (show h < 7 from h_h); omega) (by have := (show g < 7 from h_g); omega) ((fun u => zE_arr (r := 2) G u h_h (by decide)) w2) (fun u => zE_arr (r := 2) G u h_g (by decide)) (v := g) (o := 72) (v0 := h) (o0 := 72) (n := 36) (u := xcopy w2 g 72 h 72) rfl (by decide) (xcopy_xg w2 g 72 h 72) rfl (fun b h1 h2 => zown_cp (r := 2) h_g (by decide) h1 h2) ⟨by decide, Nat.le_trans (Nat.add_le_add_left znative _) (Nat.le_of_ble_eq_true rfl)⟩ ?_
  replace hT := zlet_open hT
  obtain ⟨w3, hw3, hT⟩ := hT
  rw [← hw3]
  refine z_aload_n ok dX0_copyFrom_45 1 rfl ?_
  refine z_get_X0_towers ok dX0_copyFrom_46 h h_h hN zw_107 ?_
  refine z_iconst ok dX0_copyFrom_49 (x := 0) (by decide) ?_
  refine z_aload_n ok dX0_copyFrom_50 0 rfl ?_
  refine z_get_X0_towers ok dX0_copyFrom_51 g h_g hN zw_107 ?_
  refine z_iconst ok dX0_copyFrom_54 (x := 0) (by decide) ?_
  refine z_bipush ok dX0_copyFrom_55 (x := 36) (by decide) ?_
  refine z_copy ok dX0_copyFrom_57 zw_248 zw_250 zw_249 zw_81 (10 + 6 * h) (10 + 6 * g) (by have := (show h < 7 from h_h); omega) (by have := (show g < 7 from h_g); omega) ((fun u => zE_arr (r := 3) G u h_h (by decide)) w3) (fun u => zE_arr (r := 3) G u h_g (by decide)) (v := g) (o := 108) (v0 := h) (o0 := 108) (n := 36) (u := xcopy w3 g 108 h 108) rfl (by decide) (xcopy_xg w3 g 108 h 108) rfl (fun b h1 h2 => zown_cp (r := 3) h_g (by decide) h1 h2) ⟨by decide, Nat.le_trans (Nat.add_le_add_left znative _) (Nat.le_of_ble_eq_true rfl)⟩ ?_
  replace hT := zlet_open hT
  obtain ⟨w4, hw4, hT⟩ := hT
  rw [← hw4]
  exact z_vret ok hE dX0_copyFrom_60 hT

def d_X0_arrange_92k  (e3_2 : Nat) (ew3 : xW) : xW :=
  ew3
def d_X0_arrange_92 (g : Nat) (kt3 : Nat → xW → xW) : Nat → Nat → xW → xW
  | 0, _, _ => default
  | n3 + 1, v3_2, vw3 => if 6 ≤ v3_2 then (kt3 v3_2 vw3)
  else (zlet (d_X0_markTower vw3 g (zRow1n v3_2) 1) fun w5 =>
  d_X0_arrange_92 g kt3 n3 (v3_2 + 1) w5)
def d_X0_arrange_27k (g : Nat) (e2_2 : Nat) (ew2 : xW) : xW :=
  d_X0_arrange_92 g d_X0_arrange_92k 7 0 ew2
def d_X0_arrange_27 (g : Nat) (spring : Int32) (kt2 : Nat → xW → xW) : Nat → Nat → xW → xW
  | 0, _, _ => default
  | n2 + 1, v2_2, vw2 => if 6 ≤ v2_2 then (kt2 v2_2 vw2)
  else (zlet (d_X0_place vw2 g v2_2 0 (zRow0 v2_2) spring) fun w7 =>
  zlet (d_X0_place w7 g (6 + v2_2) 0 4 spring) fun w8 =>
  zlet (d_X0_place w8 g (24 + v2_2) 1 4 spring) fun w9 =>
  zlet (d_X0_place w9 g (30 + v2_2) 1 (zRow0 v2_2) spring) fun w10 =>
  d_X0_arrange_27 g spring kt2 n2 (v2_2 + 1) w10)
def d_X0_arrange_2k (g : Nat) (spring : Int32) (e1_2 : Nat) (ew1 : xW) : xW :=
  d_X0_arrange_27 g spring (d_X0_arrange_27k g) 7 0 ew1
def d_X0_arrange_2 (g : Nat) (kt1 : Nat → xW → xW) : Nat → Nat → xW → xW
  | 0, _, _ => default
  | n1 + 1, v1_2, vw1 => if 36 ≤ v1_2 then (kt1 v1_2 vw1)
  else (zlet (d_X0_empty vw1 g v1_2) fun w12 =>
  zlet (d_X0_markTower w12 g v1_2 0) fun w13 =>
  d_X0_arrange_2 g kt1 n1 (v1_2 + 1) w13)
def d_X0_arrange (w : xW) (g : Nat) (spring : Int32) : xW :=
  d_X0_arrange_2 g (d_X0_arrange_2k g spring) 37 0 w
set_option maxRecDepth 100000 in
set_option maxHeartbeats 4000000 in
theorem c_X0_arrange (G : zG) (N : Nat) (hN : 47 ≤ N) (hg : zGeo G N) (w : xW) (g : Nat) (h_g : g < 7) (spring : Int32) : zM yX0_arrange cX0_arrange 3 none 3 65 G N [.ref (zad G (6 + 6 * g)), .int spring] w none (d_X0_arrange w g spring) := by
  generalize hT : d_X0_arrange w g spring = u
  unfold d_X0_arrange at hT
  refine zM_of zy_X0_arrange.2.2.2.2.2.2.2 hg ⟨Nat.le_of_ble_eq_true rfl, by decide⟩ rfl (fun k ok hE hI => ?_)
  have old := hE.old
  obtain ⟨t0, hst0⟩ := zSr_0 ok
  obtain ⟨t1, hst1⟩ := zSr_1 ok
  refine z_iconst ok dX0_arrange_0 (x := 0) (by decide) ?_
  refine z_istore_n ok dX0_arrange_1 (hI 2 (by decide)) (lv' := [(2, .int 0), (0, .ref (zad G (6 + 6 * g))), (1, .int spring)]) rfl ?_
  refine z_locs [1, 2, 0] (lv' := [(0, .ref (zad G (6 + 6 * g))), (1, .int spring), (2, .int 0)]) rfl ?_
  obtain ⟨kt1, hkt1⟩ : ∃ z, z = (d_X0_arrange_2k g spring) := ⟨_, rfl⟩
  rw [← hkt1] at hT
  have hk1 : ∀ (e1_2 : Nat) (ew1 : xW), e1_2 ≤ 36 → kt1 e1_2 ew1 = u → zZ k G N ew1 25 [(0, .ref (zad G (6 + 6 * g))), (1, .int spring), (2, .int (nI e1_2))] [] := by
    intro e1_2 ew1 q1_0 hT1
    rw [hkt1, d_X0_arrange_2k] at hT1
    refine z_iconst ok dX0_arrange_25 (x := 0) (by decide) ?_
    refine z_istore_n ok dX0_arrange_26 (hI 2 (by decide)) (lv' := [(2, .int 0), (0, .ref (zad G (6 + 6 * g))), (1, .int spring)]) rfl ?_
    refine z_locs [1, 2, 0] (lv' := [(0, .ref (zad G (6 + 6 * g))), (1, .int spring), (2, .int 0)]) rfl ?_
    obtain ⟨kt2, hkt2⟩ : ∃ z, z = (d_X0_arrange_27k g) := ⟨_, rfl⟩
    rw [← hkt2] at hT1
    have hk2 : ∀ (e2_2 : Nat) (ew2 : xW), e2_2 ≤ 6 → kt2 e2_2 ew2 = u → zZ k G N ew2 90 [(0, .ref (zad G (6 + 6 * g))), (1, .int spring), (2, .int (nI e2_2))] [] := by
      intro e2_2 ew2 q2_0 hT2
      rw [hkt2, d_X0_arrange_27k] at hT2
      refine z_iconst ok dX0_arrange_90 (x := 0) (by decide) ?_
      refine z_istore_n ok dX0_arrange_91 (hI 2 (by decide)) (lv' := [(2, .int 0), (0, .ref (zad G (6 + 6 * g))), (1, .int spring)]) rfl ?_
      refine z_locs [1, 2, 0] (lv' := [(0, .ref (zad G (6 + 6 * g))), (1, .int spring), (2, .int 0)]) rfl ?_
      obtain ⟨kt3, hkt3⟩ : ∃ z, z = d_X0_arrange_92k := ⟨_, rfl⟩
      rw [← hkt3] at hT2
      have hk3 : ∀ (e3_2 : Nat) (ew3 : xW), e3_2 ≤ 6 → kt3 e3_2 ew3 = u → zZ k G N ew3 116 [(0, .ref (zad G (6 + 6 * g))), (1, .int spring), (2, .int (nI e3_2))] [] := by
        intro e3_2 ew3 q3_0 hT3
        rw [hkt3, d_X0_arrange_92k] at hT3
        exact z_vret ok hE dX0_arrange_116 hT3
      have hl3 : ∀ (n3 : Nat) (v3_2 : Nat) (vw3 : xW), 6 < v3_2 + n3 → v3_2 ≤ 6 → d_X0_arrange_92 g kt3 n3 v3_2 vw3 = u → zZ k G N vw3 92 [(0, .ref (zad G (6 + 6 * g))), (1, .int spring), (2, .int (nI v3_2))] [] := by
        intro n3
        induction n3 with
        | zero =>
          intro v3_2 vw3 q3_0 q3_1
          exact absurd q3_0 (by omega)
        | succ n3 ih3 =>
          intro v3_2 vw3 q3_0 q3_1 hT3
          rw [d_X0_arrange_92] at hT3
          refine z_iload_n ok dX0_arrange_92 2 rfl ?_
          refine z_gets ok hE dX0_arrange_93 hst1 zw_196 ?_
          refine z_tlen ok hE dX0_arrange_96 hst1 ?_
          refine z_icmp_ge_n ok dX0_arrange_97 116 (by decide) v3_2 6 rfl rfl (by omega) (fun c4 => ?_) (fun c4 => ?_)
          · rw [if_pos c4] at hT3
            refine z_locs [0, 1, 2] (lv' := [(0, .ref (zad G (6 + 6 * g))), (1, .int spring), (2, .int (nI v3_2))]) rfl ?_
            exact hk3 v3_2 vw3 (by omega) hT3
          · rw [if_neg c4] at hT3
            refine z_aload_n ok dX0_arrange_100 0 rfl ?_
            refine z_gets ok hE dX0_arrange_101 hst1 zw_196 ?_
            refine z_iload_n ok dX0_arrange_104 2 rfl ?_
            refine z_tald ok hE dX0_arrange_105 hst1 v3_2 rfl (by omega) ?_
            have := zRow1_lt v3_2
            refine z_iconst ok dX0_arrange_106 (x := 1) (by decide) ?_
            refine z_callVv ok old dX0_arrange_107 [] (c_X0_markTower G N hN hg vw3 g h_g (zRow1n v3_2) (by omega) 1) zy_X0_markTower zw_190 (6 + 6 * g) (zg_lt' hN h_g) (zE_board G vw3 h_g) rfl rfl rfl rfl rfl (by decide) (Nat.le_of_ble_eq_true rfl) ?_
            replace hT3 := zlet_open hT3
            obtain ⟨w5, hw5, hT3⟩ := hT3
            rw [← hw5]
            refine z_iinc ok dX0_arrange_110 (hI 2 (by decide)) 2 rfl (y := (nI (v3_2 + 1))) (z_incn v3_2 1) (lv' := [(2, .int (nI (v3_2 + 1))), (0, .ref (zad G (6 + 6 * g))), (1, .int spring)]) rfl ?_
            refine z_goto ok dX0_arrange_113 92 (by decide) ?_
            refine z_locs [1, 2, 0] (lv' := [(0, .ref (zad G (6 + 6 * g))), (1, .int spring), (2, .int (nI (v3_2 + 1)))]) rfl ?_
            exact ih3 (v3_2 + 1) w5 (by omega) (by omega) hT3
      exact hl3 7 0 ew2 (by omega) (by omega) hT2
    have hl2 : ∀ (n2 : Nat) (v2_2 : Nat) (vw2 : xW), 6 < v2_2 + n2 → v2_2 ≤ 6 → d_X0_arrange_27 g spring kt2 n2 v2_2 vw2 = u → zZ k G N vw2 27 [(0, .ref (zad G (6 + 6 * g))), (1, .int spring), (2, .int (nI v2_2))] [] := by
      intro n2
      induction n2 with
      | zero =>
        intro v2_2 vw2 q2_0 q2_1
        exact absurd q2_0 (by omega)
      | succ n2 ih2 =>
        intro v2_2 vw2 q2_0 q2_1 hT2
        rw [d_X0_arrange_27] at hT2
        refine z_iload_n ok dX0_arrange_27 2 rfl ?_
        refine z_gets ok hE dX0_arrange_28 hst0 zw_194 ?_
        refine z_tlen ok hE dX0_arrange_31 hst0 ?_
        refine z_icmp_ge_n ok dX0_arrange_32 90 (by decide) v2_2 6 rfl rfl (by omega) (fun c6 => ?_) (fun c6 => ?_)
        · rw [if_pos c6] at hT2
          refine z_locs [0, 1, 2] (lv' := [(0, .ref (zad G (6 + 6 * g))), (1, .int spring), (2, .int (nI v2_2))]) rfl ?_
          exact hk2 v2_2 vw2 (by omega) hT2
        · rw [if_neg c6] at hT2
          refine z_aload_n ok dX0_arrange_35 0 rfl ?_
          refine z_iload_n ok dX0_arrange_36 2 rfl ?_
          refine z_iconst ok dX0_arrange_37 (x := 0) (by decide) ?_
          refine z_gets ok hE dX0_arrange_38 hst0 zw_194 ?_
          refine z_iload_n ok dX0_arrange_41 2 rfl ?_
          refine z_tald ok hE dX0_arrange_42 hst0 v2_2 rfl (by omega) ?_
          refine z_iload_n ok dX0_arrange_43 1 rfl ?_
          refine z_callVv ok old dX0_arrange_44 [] (c_X0_place G N hN hg vw2 g h_g v2_2 (by omega) 0 (zRow0 v2_2) spring) zy_X0_place zw_183 (6 + 6 * g) (zg_lt' hN h_g) (zE_board G vw2 h_g) rfl rfl rfl rfl rfl (by decide) (Nat.le_of_ble_eq_true rfl) ?_
          replace hT2 := zlet_open hT2
          obtain ⟨w7, hw7, hT2⟩ := hT2
          rw [← hw7]
          refine z_aload_n ok dX0_arrange_47 0 rfl ?_
          refine z_bipush ok dX0_arrange_48 (x := 6) (by decide) ?_
          refine z_iload_n ok dX0_arrange_50 2 rfl ?_
          refine z_iadd_n ok dX0_arrange_51 6 v2_2 rfl rfl ?_
          refine z_iconst ok dX0_arrange_52 (x := 0) (by decide) ?_
          refine z_iconst ok dX0_arrange_53 (x := 4) (by decide) ?_
          refine z_iload_n ok dX0_arrange_54 1 rfl ?_
          refine z_callVv ok old dX0_arrange_55 [] (c_X0_place G N hN hg w7 g h_g (6 + v2_2) (by omega) 0 4 spring) zy_X0_place zw_183 (6 + 6 * g) (zg_lt' hN h_g) (zE_board G w7 h_g) rfl rfl rfl rfl rfl (by decide) (Nat.le_of_ble_eq_true rfl) ?_
          replace hT2 := zlet_open hT2
          obtain ⟨w8, hw8, hT2⟩ := hT2
          rw [← hw8]
          refine z_aload_n ok dX0_arrange_58 0 rfl ?_
          refine z_bipush ok dX0_arrange_59 (x := 24) (by decide) ?_
          refine z_iload_n ok dX0_arrange_61 2 rfl ?_
          refine z_iadd_n ok dX0_arrange_62 24 v2_2 rfl rfl ?_
          refine z_iconst ok dX0_arrange_63 (x := 1) (by decide) ?_
          refine z_iconst ok dX0_arrange_64 (x := 4) (by decide) ?_
          refine z_iload_n ok dX0_arrange_65 1 rfl ?_
          refine z_callVv ok old dX0_arrange_66 [] (c_X0_place G N hN hg w8 g h_g (24 + v2_2) (by omega) 1 4 spring) zy_X0_place zw_183 (6 + 6 * g) (zg_lt' hN h_g) (zE_board G w8 h_g) rfl rfl rfl rfl rfl (by decide) (Nat.le_of_ble_eq_true rfl) ?_
          replace hT2 := zlet_open hT2
          obtain ⟨w9, hw9, hT2⟩ := hT2
          rw [← hw9]
          refine z_aload_n ok dX0_arrange_69 0 rfl ?_
          refine z_bipush ok dX0_arrange_70 (x := 30) (by decide) ?_
          refine z_iload_n ok dX0_arrange_72 2 rfl ?_
          refine z_iadd_n ok dX0_arrange_73 30 v2_2 rfl rfl ?_
          refine z_iconst ok dX0_arrange_74 (x := 1) (by decide) ?_
          refine z_gets ok hE dX0_arrange_75 hst0 zw_194 ?_
          refine z_iload_n ok dX0_arrange_78 2 rfl ?_
          refine z_tald ok hE dX0_arrange_79 hst0 v2_2 rfl (by omega) ?_
          refine z_iload_n ok dX0_arrange_80 1 rfl ?_
          refine z_callVv ok old dX0_arrange_81 [] (c_X0_place G N hN hg w9 g h_g (30 + v2_2) (by omega) 1 (zRow0 v2_2) spring) zy_X0_place zw_183 (6 + 6 * g) (zg_lt' hN h_g) (zE_board G w9 h_g) rfl rfl rfl rfl rfl (by decide) (Nat.le_of_ble_eq_true rfl) ?_
          replace hT2 := zlet_open hT2
          obtain ⟨w10, hw10, hT2⟩ := hT2
          rw [← hw10]
          refine z_iinc ok dX0_arrange_84 (hI 2 (by decide)) 2 rfl (y := (nI (v2_2 + 1))) (z_incn v2_2 1) (lv' := [(2, .int (nI (v2_2 + 1))), (0, .ref (zad G (6 + 6 * g))), (1, .int spring)]) rfl ?_
          refine z_goto ok dX0_arrange_87 27 (by decide) ?_
          refine z_locs [1, 2, 0] (lv' := [(0, .ref (zad G (6 + 6 * g))), (1, .int spring), (2, .int (nI (v2_2 + 1)))]) rfl ?_
          exact ih2 (v2_2 + 1) w10 (by omega) (by omega) hT2
    exact hl2 7 0 ew1 (by omega) (by omega) hT1
  have hl1 : ∀ (n1 : Nat) (v1_2 : Nat) (vw1 : xW), 36 < v1_2 + n1 → v1_2 ≤ 36 → d_X0_arrange_2 g kt1 n1 v1_2 vw1 = u → zZ k G N vw1 2 [(0, .ref (zad G (6 + 6 * g))), (1, .int spring), (2, .int (nI v1_2))] [] := by
    intro n1
    induction n1 with
    | zero =>
      intro v1_2 vw1 q1_0 q1_1
      exact absurd q1_0 (by omega)
    | succ n1 ih1 =>
      intro v1_2 vw1 q1_0 q1_1 hT1
      rw [d_X0_arrange_2] at hT1
      refine z_iload_n ok dX0_arrange_2 2 rfl ?_
      refine z_bipush ok dX0_arrange_3 (x := 36) (by decide) ?_
      refine z_icmp_ge_n ok dX0_arrange_5 25 (by decide) v1_2 36 rfl rfl (by omega) (fun c11 => ?_) (fun c11 => ?_)
      · rw [if_pos c11] at hT1
        refine z_locs [0, 1, 2] (lv' := [(0, .ref (zad G (6 + 6 * g))), (1, .int spring), (2, .int (nI v1_2))]) rfl ?_
        exact hk1 v1_2 vw1 (by omega) hT1
      · rw [if_neg c11] at hT1
        refine z_aload_n ok dX0_arrange_8 0 rfl ?_
        refine z_iload_n ok dX0_arrange_9 2 rfl ?_
        refine z_callVv ok old dX0_arrange_10 [] (c_X0_empty G N hN hg vw1 g h_g v1_2 (by omega)) zy_X0_empty zw_179 (6 + 6 * g) (zg_lt' hN h_g) (zE_board G vw1 h_g) rfl rfl rfl rfl rfl (by decide) (Nat.le_of_ble_eq_true rfl) ?_
        replace hT1 := zlet_open hT1
        obtain ⟨w12, hw12, hT1⟩ := hT1
        rw [← hw12]
        refine z_aload_n ok dX0_arrange_13 0 rfl ?_
        refine z_iload_n ok dX0_arrange_14 2 rfl ?_
        refine z_iconst ok dX0_arrange_15 (x := 0) (by decide) ?_
        refine z_callVv ok old dX0_arrange_16 [] (c_X0_markTower G N hN hg w12 g h_g v1_2 (by omega) 0) zy_X0_markTower zw_190 (6 + 6 * g) (zg_lt' hN h_g) (zE_board G w12 h_g) rfl rfl rfl rfl rfl (by decide) (Nat.le_of_ble_eq_true rfl) ?_
        replace hT1 := zlet_open hT1
        obtain ⟨w13, hw13, hT1⟩ := hT1
        rw [← hw13]
        refine z_iinc ok dX0_arrange_19 (hI 2 (by decide)) 2 rfl (y := (nI (v1_2 + 1))) (z_incn v1_2 1) (lv' := [(2, .int (nI (v1_2 + 1))), (0, .ref (zad G (6 + 6 * g))), (1, .int spring)]) rfl ?_
        refine z_goto ok dX0_arrange_22 2 (by decide) ?_
        refine z_locs [1, 2, 0] (lv' := [(0, .ref (zad G (6 + 6 * g))), (1, .int spring), (2, .int (nI (v1_2 + 1)))]) rfl ?_
        exact ih1 (v1_2 + 1) w13 (by omega) (by omega) hT1
  exact hl1 37 0 w (by omega) (by omega) hT
end
section
def d_X1_copyFrom (w : xW) (g : Nat) (h : Nat) : xW :=
  zlet (d_X0_copyFrom w g h) fun w1 =>
  zlet (xs w1 g 149 (xg w1 h 149)) fun w2 =>
  zlet (xs w2 g 150 (xg w2 h 150)) fun w3 =>
  zlet (xs w3 g 151 (xg w3 h 151)) fun w4 =>
  zlet (xs w4 g 144 (xg w4 h 144)) fun w5 =>
  zlet (xs w5 g 145 (xg w5 h 145)) fun w6 =>
  zlet (xs w6 g 146 (xg w6 h 146)) fun w7 =>
  zlet (xs w7 g 147 (xg w7 h 147)) fun w8 =>
  zlet (xs w8 g 148 (zb (xg w8 h 148))) fun w9 =>
  zlet (xs w9 g 152 (xg w9 h 152)) fun w10 =>
  zlet (xs w10 g 153 (xg w10 h 153)) fun w11 =>
  zlet (xs w11 g 154 (xg w11 h 154)) fun w12 =>
  zlet (xs w12 g 155 (xg w12 h 155)) fun w13 =>
  zlet (xs w13 g 156 (xg w13 h 156)) fun w14 =>
  zlet (xs w14 g 158 (xg w14 h 158)) fun w15 =>
  w15
set_option maxRecDepth 100000 in
set_option maxHeartbeats 4000000 in
theorem c_X1_copyFrom (G : zG) (N : Nat) (hN : 47 ≤ N) (hg : zGeo G N) (w : xW) (g : Nat) (h_g : g < 7) (h : Nat) (h_h : h < 7) : zM yX1_copyFrom cX1_copyFrom 2 none 2 81 G N [.ref (zad G (5 + 6 * g)), .ref (zad G (5 + 6 * h))] w none (d_X1_copyFrom w g h) := by
  generalize hT : d_X1_copyFrom w g h = u
  unfold d_X1_copyFrom at hT
  refine zM_of zy_X1_copyFrom.2.2.2.2.2.2.2 hg ⟨Nat.le_of_ble_eq_true rfl, by decide⟩ rfl (fun k ok hE hI => ?_)
  have old := hE.old
  refine z_aload_n ok dX1_copyFrom_0 0 rfl ?_
  refine z_get_X1_board ok dX1_copyFrom_1 g h_g hN zw_118 ?_
  refine z_aload_n ok dX1_copyFrom_4 1 rfl ?_
  refine z_get_X1_board ok dX1_copyFrom_5 h h_h hN zw_118 ?_
  refine z_callVNv ok old dX1_copyFrom_8 [] (c_X0_copyFrom G N hN hg w g h_g h h_h) zy_X0_copyFrom zw_244 (6 + 6 * g) (zg_lt' hN h_g) (zE_board G w h_g) rfl rfl rfl rfl rfl (by decide) (Nat.le_of_ble_eq_true rfl) ?_
  replace hT := zlet_open hT
  obtain ⟨w1, hw1, hT⟩ := hT
  rw [← hw1]
  refine z_aload_n ok dX1_copyFrom_11 0 rfl ?_
  refine z_aload_n ok dX1_copyFrom_12 1 rfl ?_
  refine z_get_X1_limit ok dX1_copyFrom_13 h h_h hN zw_120 ?_
  refine z_put_X1_limit ok dX1_copyFrom_16 g h_g hN zw_120 ?_
  replace hT := zlet_open hT
  obtain ⟨w2, hw2, hT⟩ := hT
  rw [← hw2]
  refine z_aload_n ok dX1_copyFrom_19 0 rfl ?_
  refine z_aload_n ok dX1_copyFrom_20 1 rfl ?_
  refine z_get_X1_bonus ok dX1_copyFrom_21 h h_h hN zw_122 ?_
  refine z_put_X1_bonus ok dX1_copyFrom_24 g h_g hN zw_122 ?_
  replace hT := zlet_open hT
  obtain ⟨w3, hw3, hT⟩ := hT
  rw [← hw3]
  refine z_aload_n ok dX1_copyFrom_27 0 rfl ?_
  refine z_aload_n ok dX1_copyFrom_28 1 rfl ?_
  refine z_get_X1_winding ok dX1_copyFrom_29 h h_h hN zw_123 ?_
  refine z_put_X1_winding ok dX1_copyFrom_32 g h_g hN zw_123 ?_
  replace hT := zlet_open hT
  obtain ⟨w4, hw4, hT⟩ := hT
  rw [← hw4]
  refine z_aload_n ok dX1_copyFrom_35 0 rfl ?_
  refine z_aload_n ok dX1_copyFrom_36 1 rfl ?_
  refine z_get_X1_mover ok dX1_copyFrom_37 h h_h hN zw_124 ?_
  refine z_put_X1_mover ok dX1_copyFrom_40 g h_g hN zw_124 ?_
  replace hT := zlet_open hT
  obtain ⟨w5, hw5, hT⟩ := hT
  rw [← hw5]
  refine z_aload_n ok dX1_copyFrom_43 0 rfl ?_
  refine z_aload_n ok dX1_copyFrom_44 1 rfl ?_
  refine z_get_X1_ending ok dX1_copyFrom_45 h h_h hN zw_126 ?_
  refine z_put_X1_ending ok dX1_copyFrom_48 g h_g hN zw_126 ?_
  replace hT := zlet_open hT
  obtain ⟨w6, hw6, hT⟩ := hT
  rw [← hw6]
  refine z_aload_n ok dX1_copyFrom_51 0 rfl ?_
  refine z_aload_n ok dX1_copyFrom_52 1 rfl ?_
  refine z_get_X1_winner ok dX1_copyFrom_53 h h_h hN zw_128 ?_
  refine z_put_X1_winner ok dX1_copyFrom_56 g h_g hN zw_128 ?_
  replace hT := zlet_open hT
  obtain ⟨w7, hw7, hT⟩ := hT
  rw [← hw7]
  refine z_aload_n ok dX1_copyFrom_59 0 rfl ?_
  refine z_aload_n ok dX1_copyFrom_60 1 rfl ?_
  refine z_get_X1_turnsMade ok dX1_copyFrom_61 h h_h hN zw_130 ?_
  refine z_put_X1_turnsMade ok dX1_copyFrom_64 g h_g hN zw_130 ?_
  replace hT := zlet_open hT
  obtain ⟨w8, hw8, hT⟩ := hT
  rw [← hw8]
  refine z_aload_n ok dX1_copyFrom_67 0 rfl ?_
  refine z_aload_n ok dX1_copyFrom_68 1 rfl ?_
  refine z_get_X1_justPassed ok dX1_copyFrom_69 h h_h hN zw_132 ?_
  refine z_put_X1_justPassed ok dX1_copyFrom_72 g h_g hN (zbz _).symm zw_132 ?_
  replace hT := zlet_open hT
  obtain ⟨w9, hw9, hT⟩ := hT
  rw [← hw9]
  refine z_aload_n ok dX1_copyFrom_75 0 rfl ?_
  refine z_aload_n ok dX1_copyFrom_76 1 rfl ?_
  refine z_get_X1_atBeginning ok dX1_copyFrom_77 h h_h hN zw_133 ?_
  refine z_put_X1_atBeginning ok dX1_copyFrom_80 g h_g hN zw_133 ?_
  replace hT := zlet_open hT
  obtain ⟨w10, hw10, hT⟩ := hT
  rw [← hw10]
  refine z_aload_n ok dX1_copyFrom_83 0 rfl ?_
  refine z_aload_n ok dX1_copyFrom_84 1 rfl ?_
  refine z_get_X1_wound ok dX1_copyFrom_85 h h_h hN zw_134 ?_
  refine z_put_X1_wound ok dX1_copyFrom_88 g h_g hN zw_134 ?_
  replace hT := zlet_open hT
  obtain ⟨w11, hw11, hT⟩ := hT
  rw [← hw11]
  refine z_aload_n ok dX1_copyFrom_91 0 rfl ?_
  refine z_aload_n ok dX1_copyFrom_92 1 rfl ?_
  refine z_get_X1_gainedByBonus ok dX1_copyFrom_93 h h_h hN zw_135 ?_
  refine z_put_X1_gainedByBonus ok dX1_copyFrom_96 g h_g hN zw_135 ?_
  replace hT := zlet_open hT
  obtain ⟨w12, hw12, hT⟩ := hT
  rw [← hw12]
  refine z_aload_n ok dX1_copyFrom_99 0 rfl ?_
  refine z_aload_n ok dX1_copyFrom_100 1 rfl ?_
  refine z_get_X1_spent ok dX1_copyFrom_101 h h_h hN zw_136 ?_
  refine z_put_X1_spent ok dX1_copyFrom_104 g h_g hN zw_136 ?_
  replace hT := zlet_open hT
  obtain ⟨w13, hw13, hT⟩ := hT
  rw [← hw13]
  refine z_aload_n ok dX1_copyFrom_107 0 rfl ?_
  refine z_aload_n ok dX1_copyFrom_108 1 rfl ?_
  refine z_get_X1_lost ok dX1_copyFrom_109 h h_h hN zw_137 ?_
  refine z_put_X1_lost ok dX1_copyFrom_112 g h_g hN zw_137 ?_
  replace hT := zlet_open hT
  obtain ⟨w14, hw14, hT⟩ := hT
  rw [← hw14]
  refine z_aload_n ok dX1_copyFrom_115 0 rfl ?_
  refine z_aload_n ok dX1_copyFrom_116 1 rfl ?_
  refine z_get_X1_putOn ok dX1_copyFrom_117 h h_h hN zw_138 ?_
  refine z_put_X1_putOn ok dX1_copyFrom_120 g h_g hN zw_138 ?_
  replace hT := zlet_open hT
  obtain ⟨w15, hw15, hT⟩ := hT
  rw [← hw15]
  exact z_vret ok hE dX1_copyFrom_123 hT

def d_X1_begin (w : xW) (g : Nat) : xW :=
  zlet (d_X0_arrange w g ((xg w g 149) / 2)) fun w1 =>
  zlet (xs w1 g 144 0) fun w2 =>
  zlet (xs w2 g 145 0) fun w3 =>
  zlet (xs w3 g 146 (-1)) fun w4 =>
  zlet (xs w4 g 147 0) fun w5 =>
  zlet (xs w5 g 148 0) fun w6 =>
  zlet (xs w6 g 152 (d_X0_springsInAll w6 g)) fun w7 =>
  zlet (xs w7 g 153 0) fun w8 =>
  zlet (xs w8 g 154 0) fun w9 =>
  zlet (xs w9 g 155 0) fun w10 =>
  zlet (xs w10 g 156 0) fun w11 =>
  zlet (xs w11 g 158 0) fun w12 =>
  w12
set_option maxRecDepth 100000 in
set_option maxHeartbeats 4000000 in
theorem c_X1_begin (G : zG) (N : Nat) (hN : 47 ≤ N) (hg : zGeo G N) (w : xW) (g : Nat) (h_g : g < 7) : zM yX1_begin cX1_begin 1 none 4 87 G N [.ref (zad G (5 + 6 * g))] w none (d_X1_begin w g) := by
  generalize hT : d_X1_begin w g = u
  unfold d_X1_begin at hT
  refine zM_of zy_X1_begin.2.2.2.2.2.2.2 hg ⟨Nat.le_of_ble_eq_true rfl, by decide⟩ rfl (fun k ok hE hI => ?_)
  have old := hE.old
  refine z_aload_n ok dX1_begin_0 0 rfl ?_
  refine z_get_X1_board ok dX1_begin_1 g h_g hN zw_118 ?_
  refine z_aload_n ok dX1_begin_4 0 rfl ?_
  refine z_get_X1_limit ok dX1_begin_5 g h_g hN zw_120 ?_
  refine z_iconst ok dX1_begin_8 (x := 2) (by decide) ?_
  refine z_idiv ok dX1_begin_9 (by decide) ?_
  refine z_callVNv ok old dX1_begin_10 [] (c_X0_arrange G N hN hg w g h_g ((xg w g 149) / 2)) zy_X0_arrange zw_175 (6 + 6 * g) (zg_lt' hN h_g) (zE_board G w h_g) rfl rfl rfl rfl rfl (by decide) (Nat.le_of_ble_eq_true rfl) ?_
  replace hT := zlet_open hT
  obtain ⟨w1, hw1, hT⟩ := hT
  rw [← hw1]
  refine z_aload_n ok dX1_begin_13 0 rfl ?_
  refine z_iconst ok dX1_begin_14 (x := 0) (by decide) ?_
  refine z_put_X1_mover ok dX1_begin_15 g h_g hN zw_124 ?_
  replace hT := zlet_open hT
  obtain ⟨w2, hw2, hT⟩ := hT
  rw [← hw2]
  refine z_aload_n ok dX1_begin_18 0 rfl ?_
  refine z_iconst ok dX1_begin_19 (x := 0) (by decide) ?_
  refine z_put_X1_ending ok dX1_begin_20 g h_g hN zw_126 ?_
  replace hT := zlet_open hT
  obtain ⟨w3, hw3, hT⟩ := hT
  rw [← hw3]
  refine z_aload_n ok dX1_begin_23 0 rfl ?_
  refine z_iconst ok dX1_begin_24 (x := (-1)) (by decide) ?_
  refine z_put_X1_winner ok dX1_begin_25 g h_g hN zw_128 ?_
  replace hT := zlet_open hT
  obtain ⟨w4, hw4, hT⟩ := hT
  rw [← hw4]
  refine z_aload_n ok dX1_begin_28 0 rfl ?_
  refine z_iconst ok dX1_begin_29 (x := 0) (by decide) ?_
  refine z_put_X1_turnsMade ok dX1_begin_30 g h_g hN zw_130 ?_
  replace hT := zlet_open hT
  obtain ⟨w5, hw5, hT⟩ := hT
  rw [← hw5]
  refine z_aload_n ok dX1_begin_33 0 rfl ?_
  refine z_iconst ok dX1_begin_34 (x := 0) (by decide) ?_
  refine z_put_X1_justPassed ok dX1_begin_35 g h_g hN (by decide) zw_132 ?_
  replace hT := zlet_open hT
  obtain ⟨w6, hw6, hT⟩ := hT
  rw [← hw6]
  refine z_aload_n ok dX1_begin_38 0 rfl ?_
  refine z_aload_n ok dX1_begin_39 0 rfl ?_
  refine z_get_X1_board ok dX1_begin_40 g h_g hN zw_118 ?_
  refine z_callVNi ok old dX1_begin_43 [.ref (zad G (5 + 6 * g))] (c_X0_springsInAll G N hN hg w6 g h_g) zy_X0_springsInAll zw_198 (6 + 6 * g) (zg_lt' hN h_g) (zE_board G w6 h_g) rfl rfl rfl rfl rfl (by decide) (Nat.le_of_ble_eq_true rfl) ?_
  refine z_put_X1_atBeginning ok dX1_begin_46 g h_g hN zw_133 ?_
  replace hT := zlet_open hT
  obtain ⟨w7, hw7, hT⟩ := hT
  rw [← hw7]
  refine z_aload_n ok dX1_begin_49 0 rfl ?_
  refine z_iconst ok dX1_begin_50 (x := 0) (by decide) ?_
  refine z_put_X1_wound ok dX1_begin_51 g h_g hN zw_134 ?_
  replace hT := zlet_open hT
  obtain ⟨w8, hw8, hT⟩ := hT
  rw [← hw8]
  refine z_aload_n ok dX1_begin_54 0 rfl ?_
  refine z_iconst ok dX1_begin_55 (x := 0) (by decide) ?_
  refine z_put_X1_gainedByBonus ok dX1_begin_56 g h_g hN zw_135 ?_
  replace hT := zlet_open hT
  obtain ⟨w9, hw9, hT⟩ := hT
  rw [← hw9]
  refine z_aload_n ok dX1_begin_59 0 rfl ?_
  refine z_iconst ok dX1_begin_60 (x := 0) (by decide) ?_
  refine z_put_X1_spent ok dX1_begin_61 g h_g hN zw_136 ?_
  replace hT := zlet_open hT
  obtain ⟨w10, hw10, hT⟩ := hT
  rw [← hw10]
  refine z_aload_n ok dX1_begin_64 0 rfl ?_
  refine z_iconst ok dX1_begin_65 (x := 0) (by decide) ?_
  refine z_put_X1_lost ok dX1_begin_66 g h_g hN zw_137 ?_
  replace hT := zlet_open hT
  obtain ⟨w11, hw11, hT⟩ := hT
  rw [← hw11]
  refine z_aload_n ok dX1_begin_69 0 rfl ?_
  refine z_iconst ok dX1_begin_70 (x := 0) (by decide) ?_
  refine z_put_X1_putOn ok dX1_begin_71 g h_g hN zw_138 ?_
  replace hT := zlet_open hT
  obtain ⟨w12, hw12, hT⟩ := hT
  rw [← hw12]
  exact z_vret ok hE dX1_begin_74 hT

def d_X1_isOver (w : xW) (g : Nat) : Int32 :=
  if (xg w g 145) = 0 then (0)
  else (1)
set_option maxRecDepth 100000 in
set_option maxHeartbeats 4000000 in
theorem c_X1_isOver (G : zG) (N : Nat) (hN : 47 ≤ N) (hg : zGeo G N) (w : xW) (g : Nat) (h_g : g < 7) : zM yX1_isOver cX1_isOver 1 (some .boolean) 0 0 G N [.ref (zad G (5 + 6 * g))] w (some (d_X1_isOver w g)) w := by
  generalize hT : d_X1_isOver w g = r
  unfold d_X1_isOver at hT
  refine zM_of zy_X1_isOver.2.2.2.2.2.2.2 hg ⟨Nat.le_of_ble_eq_true rfl, by decide⟩ rfl (fun k ok hE hI => ?_)
  have old := hE.old
  refine z_aload_n ok dX1_isOver_0 0 rfl ?_
  refine z_get_X1_ending ok dX1_isOver_1 g h_g hN zw_126 ?_
  refine z_if_eq ok dX1_isOver_4 11 (by decide) (fun c1 => ?_) (fun c1 => ?_)
  · rw [if_pos c1] at hT
    refine z_iconst ok dX1_isOver_11 (x := 0) (by decide) ?_
    exact z_iret ok hE dX1_isOver_12 rfl ⟨hT, rfl⟩
  · rw [if_neg c1] at hT
    refine z_iconst ok dX1_isOver_7 (x := 1) (by decide) ?_
    refine z_goto ok dX1_isOver_8 12 (by decide) ?_
    exact z_iret ok hE dX1_isOver_12 rfl ⟨hT, rfl⟩

def d_X1_setting (w : xW) (g : Nat) (what : Int32) : Int32 :=
  if what = 0 then ((xg w g 149))
  else (if what = 1 then ((xg w g 150))
  else ((xg w g 151)))
set_option maxRecDepth 100000 in
set_option maxHeartbeats 4000000 in
theorem c_X1_setting (G : zG) (N : Nat) (hN : 47 ≤ N) (hg : zGeo G N) (w : xW) (g : Nat) (h_g : g < 7) (what : Int32) : zM yX1_setting cX1_setting 2 (some .int) 0 0 G N [.ref (zad G (5 + 6 * g)), .int what] w (some (d_X1_setting w g what)) w := by
  generalize hT : d_X1_setting w g what = r
  unfold d_X1_setting at hT
  refine zM_of zy_X1_setting.2.2.2.2.2.2.2 hg ⟨Nat.le_of_ble_eq_true rfl, by decide⟩ rfl (fun k ok hE hI => ?_)
  have old := hE.old
  refine z_iload_n ok dX1_setting_0 1 rfl ?_
  by_cases c1 : what = 0
  · rw [if_pos c1] at hT
    refine z_lookup ok dX1_setting_1 28 27 (by decide) (by rw [c1]; decide) (by decide) ?_
    refine z_aload_n ok dX1_setting_28 0 rfl ?_
    refine z_get_X1_limit ok dX1_setting_29 g h_g hN zw_120 ?_
    exact z_iret ok hE dX1_setting_32 rfl ⟨hT, rfl⟩
  · rw [if_neg c1] at hT
    by_cases c2 : what = 1
    · rw [if_pos c2] at hT
      refine z_lookup ok dX1_setting_1 33 32 (by decide) (by rw [c2]; decide) (by decide) ?_
      refine z_aload_n ok dX1_setting_33 0 rfl ?_
      refine z_get_X1_bonus ok dX1_setting_34 g h_g hN zw_122 ?_
      exact z_iret ok hE dX1_setting_37 rfl ⟨hT, rfl⟩
    · rw [if_neg c2] at hT
      refine z_lookup ok dX1_setting_1 38 37 (by decide) (zlook_out2 c1 c2) (by decide) ?_
      refine z_aload_n ok dX1_setting_38 0 rfl ?_
      refine z_get_X1_winding ok dX1_setting_39 g h_g hN zw_123 ?_
      exact z_iret ok hE dX1_setting_42 rfl ⟨hT, rfl⟩

def d_X1_cutSprings_2k  (e1_1 : Nat) (ew1 : xW) : xW :=
  ew1
def d_X1_cutSprings_2 (g : Nat) (kt1 : Nat → xW → xW) : Nat → Nat → xW → xW
  | 0, _, _ => default
  | n1 + 1, v1_1, vw1 => if 36 ≤ v1_1 then (kt1 v1_1 vw1)
  else (zlet (((d_X0_springOn vw1 g v1_1) - (xg vw1 g 149))) fun x3 =>
  if x3 ≤ 0 then (d_X1_cutSprings_2 g kt1 n1 (v1_1 + 1) vw1)
  else (zlet (d_X0_changeSpring vw1 g v1_1 (xg vw1 g 149)) fun w5 =>
  zlet (xs w5 g 158 ((xg w5 g 158) - x3)) fun w6 =>
  d_X1_cutSprings_2 g kt1 n1 (v1_1 + 1) w6))
def d_X1_cutSprings (w : xW) (g : Nat) : xW :=
  d_X1_cutSprings_2 g d_X1_cutSprings_2k 37 0 w
set_option maxRecDepth 100000 in
set_option maxHeartbeats 4000000 in
theorem c_X1_cutSprings (G : zG) (N : Nat) (hN : 47 ≤ N) (hg : zGeo G N) (w : xW) (g : Nat) (h_g : g < 7) : zM yX1_cutSprings cX1_cutSprings 3 none 2 42 G N [.ref (zad G (5 + 6 * g))] w none (d_X1_cutSprings w g) := by
  generalize hT : d_X1_cutSprings w g = u
  unfold d_X1_cutSprings at hT
  refine zM_of zy_X1_cutSprings.2.2.2.2.2.2.2 hg ⟨Nat.le_of_ble_eq_true rfl, by decide⟩ rfl (fun k ok hE hI => ?_)
  have old := hE.old
  refine z_iconst ok dX1_cutSprings_0 (x := 0) (by decide) ?_
  refine z_istore_n ok dX1_cutSprings_1 (hI 1 (by decide)) (lv' := [(1, .int 0), (0, .ref (zad G (5 + 6 * g)))]) rfl ?_
  refine z_locs [1, 0] (lv' := [(0, .ref (zad G (5 + 6 * g))), (1, .int 0)]) rfl ?_
  obtain ⟨kt1, hkt1⟩ : ∃ z, z = d_X1_cutSprings_2k := ⟨_, rfl⟩
  rw [← hkt1] at hT
  have hk1 : ∀ (e1_1 : Nat) (ew1 : xW), e1_1 ≤ 36 → kt1 e1_1 ew1 = u → zZ k G N ew1 54 [(0, .ref (zad G (5 + 6 * g))), (1, .int (nI e1_1))] [] := by
    intro e1_1 ew1 q1_0 hT1
    rw [hkt1, d_X1_cutSprings_2k] at hT1
    exact z_vret ok hE dX1_cutSprings_54 hT1
  have hl1 : ∀ (n1 : Nat) (v1_1 : Nat) (vw1 : xW), 36 < v1_1 + n1 → v1_1 ≤ 36 → d_X1_cutSprings_2 g kt1 n1 v1_1 vw1 = u → zZ k G N vw1 2 [(0, .ref (zad G (5 + 6 * g))), (1, .int (nI v1_1))] [] := by
    intro n1
    induction n1 with
    | zero =>
      intro v1_1 vw1 q1_0 q1_1
      exact absurd q1_0 (by omega)
    | succ n1 ih1 =>
      intro v1_1 vw1 q1_0 q1_1 hT1
      rw [d_X1_cutSprings_2] at hT1
      refine z_iload_n ok dX1_cutSprings_2 1 rfl ?_
      refine z_bipush ok dX1_cutSprings_3 (x := 36) (by decide) ?_
      refine z_icmp_ge_n ok dX1_cutSprings_5 54 (by decide) v1_1 36 rfl rfl (by omega) (fun c2 => ?_) (fun c2 => ?_)
      · rw [if_pos c2] at hT1
        refine z_locs [0, 1] (lv' := [(0, .ref (zad G (5 + 6 * g))), (1, .int (nI v1_1))]) rfl ?_
        exact hk1 v1_1 vw1 (by omega) hT1
      · rw [if_neg c2] at hT1
        refine z_aload_n ok dX1_cutSprings_8 0 rfl ?_
        refine z_get_X1_board ok dX1_cutSprings_9 g h_g hN zw_118 ?_
        refine z_iload_n ok dX1_cutSprings_12 1 rfl ?_
        refine z_callVNi ok old dX1_cutSprings_13 [] (c_X0_springOn G N hN hg vw1 g h_g v1_1 (by omega)) zy_X0_springOn zw_271 (6 + 6 * g) (zg_lt' hN h_g) (zE_board G vw1 h_g) rfl rfl rfl rfl rfl (by decide) (Nat.le_of_ble_eq_true rfl) ?_
        refine z_aload_n ok dX1_cutSprings_16 0 rfl ?_
        refine z_get_X1_limit ok dX1_cutSprings_17 g h_g hN zw_120 ?_
        refine z_isub ok dX1_cutSprings_20 ?_
        replace hT1 := zlet_open hT1
        obtain ⟨x3, hx3, hT1⟩ := hT1
        rw [← hx3]
        refine z_istore_n ok dX1_cutSprings_21 (hI 2 (by decide)) (lv' := [(2, .int x3), (0, .ref (zad G (5 + 6 * g))), (1, .int (nI v1_1))]) rfl ?_
        refine z_iload_n ok dX1_cutSprings_22 0 rfl ?_
        refine z_if_le ok dX1_cutSprings_23 48 (by decide) (fun c4 => ?_) (fun c4 => ?_)
        · rw [if_pos c4] at hT1
          refine z_iinc ok dX1_cutSprings_48 (hI 1 (by decide)) 2 rfl (y := (nI (v1_1 + 1))) (z_incn v1_1 1) (lv' := [(1, .int (nI (v1_1 + 1))), (2, .int x3), (0, .ref (zad G (5 + 6 * g)))]) rfl ?_
          refine z_goto ok dX1_cutSprings_51 2 (by decide) ?_
          refine z_locs [2, 0] (lv' := [(0, .ref (zad G (5 + 6 * g))), (1, .int (nI (v1_1 + 1)))]) rfl ?_
          exact ih1 (v1_1 + 1) vw1 (by omega) (by omega) hT1
        · rw [if_neg c4] at hT1
          refine z_aload_n ok dX1_cutSprings_26 1 rfl ?_
          refine z_get_X1_board ok dX1_cutSprings_27 g h_g hN zw_118 ?_
          refine z_iload_n ok dX1_cutSprings_30 2 rfl ?_
          refine z_aload_n ok dX1_cutSprings_31 1 rfl ?_
          refine z_get_X1_limit ok dX1_cutSprings_32 g h_g hN zw_120 ?_
          refine z_callVNv ok old dX1_cutSprings_35 [] (c_X0_changeSpring G N hN hg vw1 g h_g v1_1 (by omega) (xg vw1 g 149)) zy_X0_changeSpring zw_275 (6 + 6 * g) (zg_lt' hN h_g) (zE_board G vw1 h_g) rfl rfl rfl rfl rfl (by decide) (Nat.le_of_ble_eq_true rfl) ?_
          replace hT1 := zlet_open hT1
          obtain ⟨w5, hw5, hT1⟩ := hT1
          rw [← hw5]
          refine z_aload_n ok dX1_cutSprings_38 1 rfl ?_
          refine z_dup ok dX1_cutSprings_39 rfl ?_
          refine z_get_X1_putOn ok dX1_cutSprings_40 g h_g hN zw_138 ?_
          refine z_iload_n ok dX1_cutSprings_43 0 rfl ?_
          refine z_isub ok dX1_cutSprings_44 ?_
          refine z_put_X1_putOn ok dX1_cutSprings_45 g h_g hN zw_138 ?_
          replace hT1 := zlet_open hT1
          obtain ⟨w6, hw6, hT1⟩ := hT1
          rw [← hw6]
          refine z_iinc ok dX1_cutSprings_48 (hI 1 (by decide)) 2 rfl (y := (nI (v1_1 + 1))) (z_incn v1_1 1) (lv' := [(1, .int (nI (v1_1 + 1))), (2, .int x3), (0, .ref (zad G (5 + 6 * g)))]) rfl ?_
          refine z_goto ok dX1_cutSprings_51 2 (by decide) ?_
          refine z_locs [2, 0] (lv' := [(0, .ref (zad G (5 + 6 * g))), (1, .int (nI (v1_1 + 1)))]) rfl ?_
          exact ih1 (v1_1 + 1) w6 (by omega) (by omega) hT1
  exact hl1 37 0 w (by omega) (by omega) hT

def d_X1_changeSetting (w : xW) (g : Nat) (what : Int32) (value : Int32) : xW :=
  if what = 0 then (zlet (xs w g 149 value) fun w2 =>
  zlet (d_X1_cutSprings w2 g) fun w3 =>
  w3)
  else (if what = 1 then (zlet (xs w g 150 value) fun w5 =>
  w5)
  else (zlet (xs w g 151 value) fun w6 =>
  w6))
set_option maxRecDepth 100000 in
set_option maxHeartbeats 4000000 in
theorem c_X1_changeSetting (G : zG) (N : Nat) (hN : 47 ≤ N) (hg : zGeo G N) (w : xW) (g : Nat) (h_g : g < 7) (what : Int32) (value : Int32) : zM yX1_changeSetting cX1_changeSetting 3 none 3 64 G N [.ref (zad G (5 + 6 * g)), .int what, .int value] w none (d_X1_changeSetting w g what value) := by
  generalize hT : d_X1_changeSetting w g what value = u
  unfold d_X1_changeSetting at hT
  refine zM_of zy_X1_changeSetting.2.2.2.2.2.2.2 hg ⟨Nat.le_of_ble_eq_true rfl, by decide⟩ rfl (fun k ok hE hI => ?_)
  have old := hE.old
  refine z_iload_n ok dX1_changeSetting_0 1 rfl ?_
  by_cases c1 : what = 0
  · rw [if_pos c1] at hT
    refine z_lookup ok dX1_changeSetting_1 28 27 (by decide) (by rw [c1]; decide) (by decide) ?_
    refine z_aload_n ok dX1_changeSetting_28 0 rfl ?_
    refine z_iload_n ok dX1_changeSetting_29 2 rfl ?_
    refine z_put_X1_limit ok dX1_changeSetting_30 g h_g hN zw_120 ?_
    replace hT := zlet_open hT
    obtain ⟨w2, hw2, hT⟩ := hT
    rw [← hw2]
    refine z_aload_n ok dX1_changeSetting_33 0 rfl ?_
    refine z_callVv ok old dX1_changeSetting_34 [] (c_X1_cutSprings G N hN hg w2 g h_g) zy_X1_cutSprings zw_267 (5 + 6 * g) (zg_lt hN h_g) (zE_game G w2 h_g) rfl rfl rfl rfl rfl (by decide) (Nat.le_of_ble_eq_true rfl) ?_
    replace hT := zlet_open hT
    obtain ⟨w3, hw3, hT⟩ := hT
    rw [← hw3]
    refine z_goto ok dX1_changeSetting_37 53 (by decide) ?_
    exact z_vret ok hE dX1_changeSetting_53 hT
  · rw [if_neg c1] at hT
    by_cases c4 : what = 1
    · rw [if_pos c4] at hT
      refine z_lookup ok dX1_changeSetting_1 40 39 (by decide) (by rw [c4]; decide) (by decide) ?_
      refine z_aload_n ok dX1_changeSetting_40 0 rfl ?_
      refine z_iload_n ok dX1_changeSetting_41 2 rfl ?_
      refine z_put_X1_bonus ok dX1_changeSetting_42 g h_g hN zw_122 ?_
      replace hT := zlet_open hT
      obtain ⟨w5, hw5, hT⟩ := hT
      rw [← hw5]
      refine z_goto ok dX1_changeSetting_45 53 (by decide) ?_
      exact z_vret ok hE dX1_changeSetting_53 hT
    · rw [if_neg c4] at hT
      refine z_lookup ok dX1_changeSetting_1 48 47 (by decide) (zlook_out2 c1 c4) (by decide) ?_
      refine z_aload_n ok dX1_changeSetting_48 0 rfl ?_
      refine z_iload_n ok dX1_changeSetting_49 2 rfl ?_
      refine z_put_X1_winding ok dX1_changeSetting_50 g h_g hN zw_123 ?_
      replace hT := zlet_open hT
      obtain ⟨w6, hw6, hT⟩ := hT
      rw [← hw6]
      exact z_vret ok hE dX1_changeSetting_53 hT

def d_X1_account (w : xW) (g : Nat) (number : Int32) : Int32 :=
  if number = 0 then ((xg w g 152))
  else (if number = 1 then ((xg w g 153))
  else (if number = 2 then ((xg w g 154))
  else (if number = 3 then ((xg w g 155))
  else (if number = 4 then ((xg w g 156))
  else (if number = 5 then ((d_X0_springsInAll w g))
  else ((xg w g 158)))))))
set_option maxRecDepth 100000 in
set_option maxHeartbeats 4000000 in
theorem c_X1_account (G : zG) (N : Nat) (hN : 47 ≤ N) (hg : zGeo G N) (w : xW) (g : Nat) (h_g : g < 7) (number : Int32) : zM yX1_account cX1_account 2 (some .int) 2 43 G N [.ref (zad G (5 + 6 * g)), .int number] w (some (d_X1_account w g number)) w := by
  generalize hT : d_X1_account w g number = r
  unfold d_X1_account at hT
  refine zM_of zy_X1_account.2.2.2.2.2.2.2 hg ⟨Nat.le_of_ble_eq_true rfl, by decide⟩ rfl (fun k ok hE hI => ?_)
  have old := hE.old
  refine z_iload_n ok dX1_account_0 1 rfl ?_
  by_cases c1 : number = 0
  · rw [if_pos c1] at hT
    refine z_tableIn ok dX1_account_1 40 39 (by rw [c1]; decide) ?_
    refine z_aload_n ok dX1_account_40 0 rfl ?_
    refine z_get_X1_atBeginning ok dX1_account_41 g h_g hN zw_133 ?_
    exact z_iret ok hE dX1_account_44 rfl ⟨hT, rfl⟩
  · rw [if_neg c1] at hT
    by_cases c2 : number = 1
    · rw [if_pos c2] at hT
      refine z_tableIn ok dX1_account_1 45 44 (by rw [c2]; decide) ?_
      refine z_aload_n ok dX1_account_45 0 rfl ?_
      refine z_get_X1_wound ok dX1_account_46 g h_g hN zw_134 ?_
      exact z_iret ok hE dX1_account_49 rfl ⟨hT, rfl⟩
    · rw [if_neg c2] at hT
      by_cases c3 : number = 2
      · rw [if_pos c3] at hT
        refine z_tableIn ok dX1_account_1 50 49 (by rw [c3]; decide) ?_
        refine z_aload_n ok dX1_account_50 0 rfl ?_
        refine z_get_X1_gainedByBonus ok dX1_account_51 g h_g hN zw_135 ?_
        exact z_iret ok hE dX1_account_54 rfl ⟨hT, rfl⟩
      · rw [if_neg c3] at hT
        by_cases c4 : number = 3
        · rw [if_pos c4] at hT
          refine z_tableIn ok dX1_account_1 55 54 (by rw [c4]; decide) ?_
          refine z_aload_n ok dX1_account_55 0 rfl ?_
          refine z_get_X1_spent ok dX1_account_56 g h_g hN zw_136 ?_
          exact z_iret ok hE dX1_account_59 rfl ⟨hT, rfl⟩
        · rw [if_neg c4] at hT
          by_cases c5 : number = 4
          · rw [if_pos c5] at hT
            refine z_tableIn ok dX1_account_1 60 59 (by rw [c5]; decide) ?_
            refine z_aload_n ok dX1_account_60 0 rfl ?_
            refine z_get_X1_lost ok dX1_account_61 g h_g hN zw_137 ?_
            exact z_iret ok hE dX1_account_64 rfl ⟨hT, rfl⟩
          · rw [if_neg c5] at hT
            by_cases c6 : number = 5
            · rw [if_pos c6] at hT
              refine z_tableIn ok dX1_account_1 65 64 (by rw [c6]; decide) ?_
              refine z_aload_n ok dX1_account_65 0 rfl ?_
              refine z_get_X1_board ok dX1_account_66 g h_g hN zw_118 ?_
              refine z_callVNi ok old dX1_account_69 [] (c_X0_springsInAll G N hN hg w g h_g) zy_X0_springsInAll zw_198 (6 + 6 * g) (zg_lt' hN h_g) (zE_board G w h_g) rfl rfl rfl rfl rfl (by decide) (Nat.le_of_ble_eq_true rfl) ?_
              exact z_iret ok hE dX1_account_72 rfl ⟨hT, rfl⟩
            · rw [if_neg c6] at hT
              refine z_tableOut ok dX1_account_1 73 (ztab_out6 c1 c2 c3 c4 c5 c6) (by decide) ?_
              refine z_aload_n ok dX1_account_73 0 rfl ?_
              refine z_get_X1_putOn ok dX1_account_74 g h_g hN zw_138 ?_
              exact z_iret ok hE dX1_account_77 rfl ⟨hT, rfl⟩

def d_X1_putInstead (w : xW) (g : Nat) (c : Nat) (side : Int32) (kind : Int32) (spring : Int32) : xW :=
  zlet (xs w g 158 ((xg w g 158) - (d_X0_springOn w g c))) fun w1 =>
  if side = (-1) then (zlet (d_X0_empty w1 g c) fun w5 =>
  zlet (xs w5 g 158 ((xg w5 g 158) + (d_X0_springOn w5 g c))) fun w6 =>
  w6)
  else (zlet (d_X0_place w1 g c side kind spring) fun w3 =>
  zlet (xs w3 g 158 ((xg w3 g 158) + (d_X0_springOn w3 g c))) fun w4 =>
  w4)
set_option maxRecDepth 100000 in
set_option maxHeartbeats 4000000 in
theorem c_X1_putInstead (G : zG) (N : Nat) (hN : 47 ≤ N) (hg : zGeo G N) (w : xW) (g : Nat) (h_g : g < 7) (c : Nat) (h_c : c < 36) (side : Int32) (kind : Int32) (spring : Int32) : zM yX1_putInstead cX1_putInstead 5 none 3 65 G N [.ref (zad G (5 + 6 * g)), .int (nI c), .int side, .int kind, .int spring] w none (d_X1_putInstead w g c side kind spring) := by
  generalize hT : d_X1_putInstead w g c side kind spring = u
  unfold d_X1_putInstead at hT
  refine zM_of zy_X1_putInstead.2.2.2.2.2.2.2 hg ⟨Nat.le_of_ble_eq_true rfl, by decide⟩ rfl (fun k ok hE hI => ?_)
  have old := hE.old
  refine z_aload_n ok dX1_putInstead_0 0 rfl ?_
  refine z_dup ok dX1_putInstead_1 rfl ?_
  refine z_get_X1_putOn ok dX1_putInstead_2 g h_g hN zw_138 ?_
  refine z_aload_n ok dX1_putInstead_5 0 rfl ?_
  refine z_get_X1_board ok dX1_putInstead_6 g h_g hN zw_118 ?_
  refine z_iload_n ok dX1_putInstead_9 1 rfl ?_
  refine z_callVNi ok old dX1_putInstead_10 [.int (xg w g 158), .ref (zad G (5 + 6 * g))] (c_X0_springOn G N hN hg w g h_g c (by omega)) zy_X0_springOn zw_271 (6 + 6 * g) (zg_lt' hN h_g) (zE_board G w h_g) rfl rfl rfl rfl rfl (by decide) (Nat.le_of_ble_eq_true rfl) ?_
  refine z_isub ok dX1_putInstead_13 ?_
  refine z_put_X1_putOn ok dX1_putInstead_14 g h_g hN zw_138 ?_
  replace hT := zlet_open hT
  obtain ⟨w1, hw1, hT⟩ := hT
  rw [← hw1]
  refine z_iload_n ok dX1_putInstead_17 2 rfl ?_
  refine z_iconst ok dX1_putInstead_18 (x := (-1)) (by decide) ?_
  refine z_icmp_ne ok dX1_putInstead_19 33 (by decide) (fun c2 => ?_) (fun c2 => ?_)
  · rw [if_neg c2] at hT
    refine z_aload_n ok dX1_putInstead_33 0 rfl ?_
    refine z_get_X1_board ok dX1_putInstead_34 g h_g hN zw_118 ?_
    refine z_iload_n ok dX1_putInstead_37 1 rfl ?_
    refine z_iload_n ok dX1_putInstead_38 2 rfl ?_
    refine z_iload_n ok dX1_putInstead_39 3 rfl ?_
    refine z_iload ok dX1_putInstead_40 4 rfl ?_
    refine z_callVNv ok old dX1_putInstead_42 [] (c_X0_place G N hN hg w1 g h_g c (by omega) side kind spring) zy_X0_place zw_304 (6 + 6 * g) (zg_lt' hN h_g) (zE_board G w1 h_g) rfl rfl rfl rfl rfl (by decide) (Nat.le_of_ble_eq_true rfl) ?_
    replace hT := zlet_open hT
    obtain ⟨w3, hw3, hT⟩ := hT
    rw [← hw3]
    refine z_aload_n ok dX1_putInstead_45 0 rfl ?_
    refine z_dup ok dX1_putInstead_46 rfl ?_
    refine z_get_X1_putOn ok dX1_putInstead_47 g h_g hN zw_138 ?_
    refine z_aload_n ok dX1_putInstead_50 0 rfl ?_
    refine z_get_X1_board ok dX1_putInstead_51 g h_g hN zw_118 ?_
    refine z_iload_n ok dX1_putInstead_54 1 rfl ?_
    refine z_callVNi ok old dX1_putInstead_55 [.int (xg w3 g 158), .ref (zad G (5 + 6 * g))] (c_X0_springOn G N hN hg w3 g h_g c (by omega)) zy_X0_springOn zw_271 (6 + 6 * g) (zg_lt' hN h_g) (zE_board G w3 h_g) rfl rfl rfl rfl rfl (by decide) (Nat.le_of_ble_eq_true rfl) ?_
    refine z_iadd ok dX1_putInstead_58 ?_
    refine z_put_X1_putOn ok dX1_putInstead_59 g h_g hN zw_138 ?_
    replace hT := zlet_open hT
    obtain ⟨w4, hw4, hT⟩ := hT
    rw [← hw4]
    exact z_vret ok hE dX1_putInstead_62 hT
  · rw [if_pos c2] at hT
    refine z_aload_n ok dX1_putInstead_22 0 rfl ?_
    refine z_get_X1_board ok dX1_putInstead_23 g h_g hN zw_118 ?_
    refine z_iload_n ok dX1_putInstead_26 1 rfl ?_
    refine z_callVNv ok old dX1_putInstead_27 [] (c_X0_empty G N hN hg w1 g h_g c (by omega)) zy_X0_empty zw_303 (6 + 6 * g) (zg_lt' hN h_g) (zE_board G w1 h_g) rfl rfl rfl rfl rfl (by decide) (Nat.le_of_ble_eq_true rfl) ?_
    replace hT := zlet_open hT
    obtain ⟨w5, hw5, hT⟩ := hT
    rw [← hw5]
    refine z_goto ok dX1_putInstead_30 45 (by decide) ?_
    refine z_aload_n ok dX1_putInstead_45 0 rfl ?_
    refine z_dup ok dX1_putInstead_46 rfl ?_
    refine z_get_X1_putOn ok dX1_putInstead_47 g h_g hN zw_138 ?_
    refine z_aload_n ok dX1_putInstead_50 0 rfl ?_
    refine z_get_X1_board ok dX1_putInstead_51 g h_g hN zw_118 ?_
    refine z_iload_n ok dX1_putInstead_54 1 rfl ?_
    refine z_callVNi ok old dX1_putInstead_55 [.int (xg w5 g 158), .ref (zad G (5 + 6 * g))] (c_X0_springOn G N hN hg w5 g h_g c (by omega)) zy_X0_springOn zw_271 (6 + 6 * g) (zg_lt' hN h_g) (zE_board G w5 h_g) rfl rfl rfl rfl rfl (by decide) (Nat.le_of_ble_eq_true rfl) ?_
    refine z_iadd ok dX1_putInstead_58 ?_
    refine z_put_X1_putOn ok dX1_putInstead_59 g h_g hN zw_138 ?_
    replace hT := zlet_open hT
    obtain ⟨w6, hw6, hT⟩ := hT
    rw [← hw6]
    exact z_vret ok hE dX1_putInstead_62 hT

def d_X1_reasonAgainst (w : xW) (g : Nat) (f : Nat) (t : Nat) : Int32 :=
  if (d_X1_isOver w g) = 0 then (if (d_X0_hasPiece w g f) = 0 then (3)
  else (if (d_X0_sideOn w g f) = (xg w g 144) then (if (d_X0_sideOn w g t) = (xg w g 144) then (5)
  else (zlet ((d_X0_price w g f t)) fun x5 =>
  if x5 = 0 then (6)
  else (if x5 ≤ (d_X0_springOn w g f) then (0)
  else (7))))
  else (4)))
  else (2)
set_option maxRecDepth 100000 in
set_option maxHeartbeats 4000000 in
theorem c_X1_reasonAgainst (G : zG) (N : Nat) (hN : 47 ≤ N) (hg : zGeo G N) (w : xW) (g : Nat) (h_g : g < 7) (f : Nat) (h_f : f < 36) (t : Nat) (h_t : t < 36) : zM yX1_reasonAgainst cX1_reasonAgainst 4 (some .int) 3 77 G N [.ref (zad G (5 + 6 * g)), .int (nI f), .int (nI t)] w (some (d_X1_reasonAgainst w g f t)) w := by
  generalize hT : d_X1_reasonAgainst w g f t = r
  unfold d_X1_reasonAgainst at hT
  refine zM_of zy_X1_reasonAgainst.2.2.2.2.2.2.2 hg ⟨Nat.le_of_ble_eq_true rfl, by decide⟩ rfl (fun k ok hE hI => ?_)
  have old := hE.old
  refine z_aload_n ok dX1_reasonAgainst_0 0 rfl ?_
  refine z_callVi ok old dX1_reasonAgainst_1 [] (c_X1_isOver G N hN hg w g h_g) zy_X1_isOver zw_383 (5 + 6 * g) (zg_lt hN h_g) (zE_game G w h_g) rfl rfl rfl rfl rfl (by decide) (Nat.le_of_ble_eq_true rfl) ?_
  refine z_if_eq ok dX1_reasonAgainst_4 9 (by decide) (fun c1 => ?_) (fun c1 => ?_)
  · rw [if_pos c1] at hT
    refine z_aload_n ok dX1_reasonAgainst_9 0 rfl ?_
    refine z_get_X1_board ok dX1_reasonAgainst_10 g h_g hN zw_118 ?_
    refine z_iload_n ok dX1_reasonAgainst_13 1 rfl ?_
    refine z_callVNi ok old dX1_reasonAgainst_14 [] (c_X0_hasPiece G N hN hg w g h_g f (by omega)) zy_X0_hasPiece zw_384 (6 + 6 * g) (zg_lt' hN h_g) (zE_board G w h_g) rfl rfl rfl rfl rfl (by decide) (Nat.le_of_ble_eq_true rfl) ?_
    refine z_if_ne ok dX1_reasonAgainst_17 22 (by decide) (fun c2 => ?_) (fun c2 => ?_)
    · rw [if_neg c2] at hT
      refine z_aload_n ok dX1_reasonAgainst_22 0 rfl ?_
      refine z_get_X1_board ok dX1_reasonAgainst_23 g h_g hN zw_118 ?_
      refine z_iload_n ok dX1_reasonAgainst_26 1 rfl ?_
      refine z_callVNi ok old dX1_reasonAgainst_27 [] (c_X0_sideOn G N hN hg w g h_g f (by omega)) zy_X0_sideOn zw_385 (6 + 6 * g) (zg_lt' hN h_g) (zE_board G w h_g) rfl rfl rfl rfl rfl (by decide) (Nat.le_of_ble_eq_true rfl) ?_
      refine z_aload_n ok dX1_reasonAgainst_30 0 rfl ?_
      refine z_get_X1_mover ok dX1_reasonAgainst_31 g h_g hN zw_124 ?_
      refine z_icmp_eq ok dX1_reasonAgainst_34 39 (by decide) (fun c3 => ?_) (fun c3 => ?_)
      · rw [if_pos c3] at hT
        refine z_aload_n ok dX1_reasonAgainst_39 0 rfl ?_
        refine z_get_X1_board ok dX1_reasonAgainst_40 g h_g hN zw_118 ?_
        refine z_iload_n ok dX1_reasonAgainst_43 2 rfl ?_
        refine z_callVNi ok old dX1_reasonAgainst_44 [] (c_X0_sideOn G N hN hg w g h_g t (by omega)) zy_X0_sideOn zw_385 (6 + 6 * g) (zg_lt' hN h_g) (zE_board G w h_g) rfl rfl rfl rfl rfl (by decide) (Nat.le_of_ble_eq_true rfl) ?_
        refine z_aload_n ok dX1_reasonAgainst_47 0 rfl ?_
        refine z_get_X1_mover ok dX1_reasonAgainst_48 g h_g hN zw_124 ?_
        refine z_icmp_ne ok dX1_reasonAgainst_51 56 (by decide) (fun c4 => ?_) (fun c4 => ?_)
        · rw [if_neg c4] at hT
          refine z_aload_n ok dX1_reasonAgainst_56 0 rfl ?_
          refine z_get_X1_board ok dX1_reasonAgainst_57 g h_g hN zw_118 ?_
          refine z_iload_n ok dX1_reasonAgainst_60 1 rfl ?_
          refine z_iload_n ok dX1_reasonAgainst_61 2 rfl ?_
          refine z_callVNi ok old dX1_reasonAgainst_62 [] (c_X0_price G N hN hg w g h_g f (by omega) t (by omega)) zy_X0_price zw_386 (6 + 6 * g) (zg_lt' hN h_g) (zE_board G w h_g) rfl rfl rfl rfl rfl (by decide) (Nat.le_of_ble_eq_true rfl) ?_
          replace hT := zlet_open hT
          obtain ⟨x5, hx5, hT⟩ := hT
          rw [← hx5]
          refine z_istore_n ok dX1_reasonAgainst_65 (hI 3 (by decide)) (lv' := [(3, .int x5), (0, .ref (zad G (5 + 6 * g))), (1, .int (nI f)), (2, .int (nI t))]) rfl ?_
          refine z_iload_n ok dX1_reasonAgainst_66 0 rfl ?_
          refine z_if_ne ok dX1_reasonAgainst_67 73 (by decide) (fun c6 => ?_) (fun c6 => ?_)
          · rw [if_neg c6] at hT
            refine z_aload_n ok dX1_reasonAgainst_73 1 rfl ?_
            refine z_get_X1_board ok dX1_reasonAgainst_74 g h_g hN zw_118 ?_
            refine z_iload_n ok dX1_reasonAgainst_77 2 rfl ?_
            refine z_callVNi ok old dX1_reasonAgainst_78 [] (c_X0_springOn G N hN hg w g h_g f (by omega)) zy_X0_springOn zw_271 (6 + 6 * g) (zg_lt' hN h_g) (zE_board G w h_g) rfl rfl rfl rfl rfl (by decide) (Nat.le_of_ble_eq_true rfl) ?_
            refine z_iload_n ok dX1_reasonAgainst_81 0 rfl ?_
            refine z_icmp_ge ok dX1_reasonAgainst_82 90 (by decide) (fun c7 => ?_) (fun c7 => ?_)
            · rw [if_pos c7] at hT
              refine z_iconst ok dX1_reasonAgainst_90 (x := 0) (by decide) ?_
              exact z_iret ok hE dX1_reasonAgainst_91 rfl ⟨hT, rfl⟩
            · rw [if_neg c7] at hT
              refine z_bipush ok dX1_reasonAgainst_85 (x := 7) (by decide) ?_
              refine z_goto ok dX1_reasonAgainst_87 91 (by decide) ?_
              exact z_iret ok hE dX1_reasonAgainst_91 rfl ⟨hT, rfl⟩
          · rw [if_pos c6] at hT
            refine z_bipush ok dX1_reasonAgainst_70 (x := 6) (by decide) ?_
            exact z_iret ok hE dX1_reasonAgainst_72 rfl ⟨hT, rfl⟩
        · rw [if_pos c4] at hT
          refine z_iconst ok dX1_reasonAgainst_54 (x := 5) (by decide) ?_
          exact z_iret ok hE dX1_reasonAgainst_55 rfl ⟨hT, rfl⟩
      · rw [if_neg c3] at hT
        refine z_iconst ok dX1_reasonAgainst_37 (x := 4) (by decide) ?_
        exact z_iret ok hE dX1_reasonAgainst_38 rfl ⟨hT, rfl⟩
    · rw [if_pos c2] at hT
      refine z_iconst ok dX1_reasonAgainst_20 (x := 3) (by decide) ?_
      exact z_iret ok hE dX1_reasonAgainst_21 rfl ⟨hT, rfl⟩
  · rw [if_neg c1] at hT
    refine z_iconst ok dX1_reasonAgainst_7 (x := 2) (by decide) ?_
    exact z_iret ok hE dX1_reasonAgainst_8 rfl ⟨hT, rfl⟩

def d_X1_reasonAgainstPass (w : xW) (g : Nat) : Int32 :=
  if (d_X1_isOver w g) = 0 then (if (d_X0_movesOf w g (xg w g 144)) ≤ 0 then (0)
  else (8))
  else (2)
set_option maxRecDepth 100000 in
set_option maxHeartbeats 4000000 in
theorem c_X1_reasonAgainstPass (G : zG) (N : Nat) (hN : 47 ≤ N) (hg : zGeo G N) (w : xW) (g : Nat) (h_g : g < 7) : zM yX1_reasonAgainstPass cX1_reasonAgainstPass 1 (some .int) 5 124 G N [.ref (zad G (5 + 6 * g))] w (some (d_X1_reasonAgainstPass w g)) w := by
  generalize hT : d_X1_reasonAgainstPass w g = r
  unfold d_X1_reasonAgainstPass at hT
  refine zM_of zy_X1_reasonAgainstPass.2.2.2.2.2.2.2 hg ⟨Nat.le_of_ble_eq_true rfl, by decide⟩ rfl (fun k ok hE hI => ?_)
  have old := hE.old
  refine z_aload_n ok dX1_reasonAgainstPass_0 0 rfl ?_
  refine z_callVi ok old dX1_reasonAgainstPass_1 [] (c_X1_isOver G N hN hg w g h_g) zy_X1_isOver zw_383 (5 + 6 * g) (zg_lt hN h_g) (zE_game G w h_g) rfl rfl rfl rfl rfl (by decide) (Nat.le_of_ble_eq_true rfl) ?_
  refine z_if_eq ok dX1_reasonAgainstPass_4 9 (by decide) (fun c1 => ?_) (fun c1 => ?_)
  · rw [if_pos c1] at hT
    refine z_aload_n ok dX1_reasonAgainstPass_9 0 rfl ?_
    refine z_get_X1_board ok dX1_reasonAgainstPass_10 g h_g hN zw_118 ?_
    refine z_aload_n ok dX1_reasonAgainstPass_13 0 rfl ?_
    refine z_get_X1_mover ok dX1_reasonAgainstPass_14 g h_g hN zw_124 ?_
    refine z_callVNi ok old dX1_reasonAgainstPass_17 [] (c_X0_movesOf G N hN hg w g h_g (xg w g 144)) zy_X0_movesOf zw_416 (6 + 6 * g) (zg_lt' hN h_g) (zE_board G w h_g) rfl rfl rfl rfl rfl (by decide) (Nat.le_of_ble_eq_true rfl) ?_
    refine z_if_le ok dX1_reasonAgainstPass_20 28 (by decide) (fun c2 => ?_) (fun c2 => ?_)
    · rw [if_pos c2] at hT
      refine z_iconst ok dX1_reasonAgainstPass_28 (x := 0) (by decide) ?_
      exact z_iret ok hE dX1_reasonAgainstPass_29 rfl ⟨hT, rfl⟩
    · rw [if_neg c2] at hT
      refine z_bipush ok dX1_reasonAgainstPass_23 (x := 8) (by decide) ?_
      refine z_goto ok dX1_reasonAgainstPass_25 29 (by decide) ?_
      exact z_iret ok hE dX1_reasonAgainstPass_29 rfl ⟨hT, rfl⟩
  · rw [if_neg c1] at hT
    refine z_iconst ok dX1_reasonAgainstPass_7 (x := 2) (by decide) ?_
    exact z_iret ok hE dX1_reasonAgainstPass_8 rfl ⟨hT, rfl⟩

def d_X1_springBehindTaking (w : xW) (g : Nat) (spring : Int32) (taken : Int32) : Int32 × xW :=
  zlet ((taken / 2)) fun x1 =>
  zlet (((spring + x1) + (xg w g 150))) fun x2 =>
  zlet ((if (xg w g 149) < x2 then (xg w g 149) else x2)) fun x3 =>
  zlet (xs w g 154 ((xg w g 154) + (xg w g 150))) fun w4 =>
  zlet (xs w4 g 156 ((xg w4 g 156) + (((taken - x1) + x2) - x3))) fun w5 =>
  (x3, w5)
set_option maxRecDepth 100000 in
set_option maxHeartbeats 4000000 in
theorem c_X1_springBehindTaking (G : zG) (N : Nat) (hN : 47 ≤ N) (hg : zGeo G N) (w : xW) (g : Nat) (h_g : g < 7) (spring : Int32) (taken : Int32) : zM yX1_springBehindTaking cX1_springBehindTaking 6 (some .int) 1 13 G N [.ref (zad G (5 + 6 * g)), .int spring, .int taken] w (some (d_X1_springBehindTaking w g spring taken).1) (d_X1_springBehindTaking w g spring taken).2 := by
  obtain ⟨r, u, hT⟩ : ∃ r u, d_X1_springBehindTaking w g spring taken = (r, u) := ⟨_, _, rfl⟩
  rw [hT]
  dsimp only
  unfold d_X1_springBehindTaking at hT
  refine zM_of zy_X1_springBehindTaking.2.2.2.2.2.2.2 hg ⟨Nat.le_of_ble_eq_true rfl, by decide⟩ rfl (fun k ok hE hI => ?_)
  have old := hE.old
  refine z_iload_n ok dX1_springBehindTaking_0 2 rfl ?_
  refine z_iconst ok dX1_springBehindTaking_1 (x := 2) (by decide) ?_
  refine z_idiv ok dX1_springBehindTaking_2 (by decide) ?_
  replace hT := zlet_open hT
  obtain ⟨x1, hx1, hT⟩ := hT
  rw [← hx1]
  refine z_istore_n ok dX1_springBehindTaking_3 (hI 3 (by decide)) (lv' := [(3, .int x1), (0, .ref (zad G (5 + 6 * g))), (1, .int spring), (2, .int taken)]) rfl ?_
  refine z_iload_n ok dX1_springBehindTaking_4 2 rfl ?_
  refine z_iload_n ok dX1_springBehindTaking_5 0 rfl ?_
  refine z_iadd ok dX1_springBehindTaking_6 ?_
  refine z_aload_n ok dX1_springBehindTaking_7 1 rfl ?_
  refine z_get_X1_bonus ok dX1_springBehindTaking_8 g h_g hN zw_122 ?_
  refine z_iadd ok dX1_springBehindTaking_11 ?_
  replace hT := zlet_open hT
  obtain ⟨x2, hx2, hT⟩ := hT
  rw [← hx2]
  refine z_istore ok dX1_springBehindTaking_12 (hI 4 (by decide)) (lv' := [(4, .int x2), (3, .int x1), (0, .ref (zad G (5 + 6 * g))), (1, .int spring), (2, .int taken)]) rfl ?_
  refine z_iload ok dX1_springBehindTaking_14 0 rfl ?_
  refine z_aload_n ok dX1_springBehindTaking_16 2 rfl ?_
  refine z_get_X1_limit ok dX1_springBehindTaking_17 g h_g hN zw_120 ?_
  refine z_min ok dX1_springBehindTaking_20 zw_400 zw_401 zw_82 zw_402 ⟨by decide, Nat.le_of_ble_eq_true rfl⟩ ?_
  replace hT := zlet_open hT
  obtain ⟨x3, hx3, hT⟩ := hT
  rw [← hx3]
  refine z_istore ok dX1_springBehindTaking_23 (hI 5 (by decide)) (lv' := [(5, .int x3), (4, .int x2), (3, .int x1), (0, .ref (zad G (5 + 6 * g))), (1, .int spring), (2, .int taken)]) rfl ?_
  refine z_aload_n ok dX1_springBehindTaking_25 3 rfl ?_
  refine z_dup ok dX1_springBehindTaking_26 rfl ?_
  refine z_get_X1_gainedByBonus ok dX1_springBehindTaking_27 g h_g hN zw_135 ?_
  refine z_aload_n ok dX1_springBehindTaking_30 3 rfl ?_
  refine z_get_X1_bonus ok dX1_springBehindTaking_31 g h_g hN zw_122 ?_
  refine z_iadd ok dX1_springBehindTaking_34 ?_
  refine z_put_X1_gainedByBonus ok dX1_springBehindTaking_35 g h_g hN zw_135 ?_
  replace hT := zlet_open hT
  obtain ⟨w4, hw4, hT⟩ := hT
  rw [← hw4]
  refine z_aload_n ok dX1_springBehindTaking_38 3 rfl ?_
  refine z_dup ok dX1_springBehindTaking_39 rfl ?_
  refine z_get_X1_lost ok dX1_springBehindTaking_40 g h_g hN zw_137 ?_
  refine z_iload_n ok dX1_springBehindTaking_43 5 rfl ?_
  refine z_iload_n ok dX1_springBehindTaking_44 2 rfl ?_
  refine z_isub ok dX1_springBehindTaking_45 ?_
  refine z_iload ok dX1_springBehindTaking_46 1 rfl ?_
  refine z_iadd ok dX1_springBehindTaking_48 ?_
  refine z_iload ok dX1_springBehindTaking_49 0 rfl ?_
  refine z_isub ok dX1_springBehindTaking_51 ?_
  refine z_iadd ok dX1_springBehindTaking_52 ?_
  refine z_put_X1_lost ok dX1_springBehindTaking_53 g h_g hN zw_137 ?_
  replace hT := zlet_open hT
  obtain ⟨w5, hw5, hT⟩ := hT
  rw [← hw5]
  refine z_iload ok dX1_springBehindTaking_56 0 rfl ?_
  exact z_iret ok hE dX1_springBehindTaking_58 rfl ⟨congrArg Prod.fst hT, congrArg Prod.snd hT⟩

def d_X1_beginTurn_7k  (e2_2 : Nat) (ew2 : xW) : xW :=
  ew2
def d_X1_beginTurn_7 (g : Nat) (side : Int32) (kt2 : Nat → xW → xW) : Nat → Nat → xW → xW
  | 0, _, _ => default
  | n2 + 1, v2_2, vw2 => if 36 ≤ v2_2 then (kt2 v2_2 vw2)
  else (if (d_X0_sideOn vw2 g v2_2) = side then (if (d_X0_isTower vw2 g v2_2) = 0 then (d_X1_beginTurn_7 g side kt2 n2 (v2_2 + 1) vw2)
  else (zlet ((if ((xg vw2 g 149) - (d_X0_springOn vw2 g v2_2)) < (xg vw2 g 151) then ((xg vw2 g 149) - (d_X0_springOn vw2 g v2_2)) else (xg vw2 g 151))) fun x6 =>
  zlet (d_X0_changeSpring vw2 g v2_2 ((d_X0_springOn vw2 g v2_2) + x6)) fun w7 =>
  zlet (xs w7 g 153 ((xg w7 g 153) + x6)) fun w8 =>
  d_X1_beginTurn_7 g side kt2 n2 (v2_2 + 1) w8))
  else (d_X1_beginTurn_7 g side kt2 n2 (v2_2 + 1) vw2))
def d_X1_beginTurn (w : xW) (g : Nat) (side : Int32) : xW :=
  zlet (xs w g 144 side) fun w1 =>
  d_X1_beginTurn_7 g side d_X1_beginTurn_7k 37 0 w1
set_option maxRecDepth 100000 in
set_option maxHeartbeats 4000000 in
theorem c_X1_beginTurn (G : zG) (N : Nat) (hN : 47 ≤ N) (hg : zGeo G N) (w : xW) (g : Nat) (h_g : g < 7) (side : Int32) : zM yX1_beginTurn cX1_beginTurn 4 none 2 42 G N [.ref (zad G (5 + 6 * g)), .int side] w none (d_X1_beginTurn w g side) := by
  generalize hT : d_X1_beginTurn w g side = u
  unfold d_X1_beginTurn at hT
  refine zM_of zy_X1_beginTurn.2.2.2.2.2.2.2 hg ⟨Nat.le_of_ble_eq_true rfl, by decide⟩ rfl (fun k ok hE hI => ?_)
  have old := hE.old
  refine z_aload_n ok dX1_beginTurn_0 0 rfl ?_
  refine z_iload_n ok dX1_beginTurn_1 1 rfl ?_
  refine z_put_X1_mover ok dX1_beginTurn_2 g h_g hN zw_124 ?_
  replace hT := zlet_open hT
  obtain ⟨w1, hw1, hT⟩ := hT
  rw [← hw1]
  refine z_iconst ok dX1_beginTurn_5 (x := 0) (by decide) ?_
  refine z_istore_n ok dX1_beginTurn_6 (hI 2 (by decide)) (lv' := [(2, .int 0), (0, .ref (zad G (5 + 6 * g))), (1, .int side)]) rfl ?_
  refine z_locs [1, 2, 0] (lv' := [(0, .ref (zad G (5 + 6 * g))), (1, .int side), (2, .int 0)]) rfl ?_
  obtain ⟨kt2, hkt2⟩ : ∃ z, z = d_X1_beginTurn_7k := ⟨_, rfl⟩
  rw [← hkt2] at hT
  have hk2 : ∀ (e2_2 : Nat) (ew2 : xW), e2_2 ≤ 36 → kt2 e2_2 ew2 = u → zZ k G N ew2 91 [(0, .ref (zad G (5 + 6 * g))), (1, .int side), (2, .int (nI e2_2))] [] := by
    intro e2_2 ew2 q2_0 hT2
    rw [hkt2, d_X1_beginTurn_7k] at hT2
    exact z_vret ok hE dX1_beginTurn_91 hT2
  have hl2 : ∀ (n2 : Nat) (v2_2 : Nat) (vw2 : xW), 36 < v2_2 + n2 → v2_2 ≤ 36 → d_X1_beginTurn_7 g side kt2 n2 v2_2 vw2 = u → zZ k G N vw2 7 [(0, .ref (zad G (5 + 6 * g))), (1, .int side), (2, .int (nI v2_2))] [] := by
    intro n2
    induction n2 with
    | zero =>
      intro v2_2 vw2 q2_0 q2_1
      exact absurd q2_0 (by omega)
    | succ n2 ih2 =>
      intro v2_2 vw2 q2_0 q2_1 hT2
      rw [d_X1_beginTurn_7] at hT2
      refine z_iload_n ok dX1_beginTurn_7 2 rfl ?_
      refine z_bipush ok dX1_beginTurn_8 (x := 36) (by decide) ?_
      refine z_icmp_ge_n ok dX1_beginTurn_10 91 (by decide) v2_2 36 rfl rfl (by omega) (fun c3 => ?_) (fun c3 => ?_)
      · rw [if_pos c3] at hT2
        refine z_locs [0, 1, 2] (lv' := [(0, .ref (zad G (5 + 6 * g))), (1, .int side), (2, .int (nI v2_2))]) rfl ?_
        exact hk2 v2_2 vw2 (by omega) hT2
      · rw [if_neg c3] at hT2
        refine z_aload_n ok dX1_beginTurn_13 0 rfl ?_
        refine z_get_X1_board ok dX1_beginTurn_14 g h_g hN zw_118 ?_
        refine z_iload_n ok dX1_beginTurn_17 2 rfl ?_
        refine z_callVNi ok old dX1_beginTurn_18 [] (c_X0_sideOn G N hN hg vw2 g h_g v2_2 (by omega)) zy_X0_sideOn zw_385 (6 + 6 * g) (zg_lt' hN h_g) (zE_board G vw2 h_g) rfl rfl rfl rfl rfl (by decide) (Nat.le_of_ble_eq_true rfl) ?_
        refine z_iload_n ok dX1_beginTurn_21 1 rfl ?_
        refine z_icmp_ne ok dX1_beginTurn_22 85 (by decide) (fun c4 => ?_) (fun c4 => ?_)
        · rw [if_neg c4] at hT2
          refine z_iinc ok dX1_beginTurn_85 (hI 2 (by decide)) 2 rfl (y := (nI (v2_2 + 1))) (z_incn v2_2 1) (lv' := [(2, .int (nI (v2_2 + 1))), (0, .ref (zad G (5 + 6 * g))), (1, .int side)]) rfl ?_
          refine z_goto ok dX1_beginTurn_88 7 (by decide) ?_
          refine z_locs [1, 2, 0] (lv' := [(0, .ref (zad G (5 + 6 * g))), (1, .int side), (2, .int (nI (v2_2 + 1)))]) rfl ?_
          exact ih2 (v2_2 + 1) vw2 (by omega) (by omega) hT2
        · rw [if_pos c4] at hT2
          refine z_aload_n ok dX1_beginTurn_25 0 rfl ?_
          refine z_get_X1_board ok dX1_beginTurn_26 g h_g hN zw_118 ?_
          refine z_iload_n ok dX1_beginTurn_29 2 rfl ?_
          refine z_callVNi ok old dX1_beginTurn_30 [] (c_X0_isTower G N hN hg vw2 g h_g v2_2 (by omega)) zy_X0_isTower zw_407 (6 + 6 * g) (zg_lt' hN h_g) (zE_board G vw2 h_g) rfl rfl rfl rfl rfl (by decide) (Nat.le_of_ble_eq_true rfl) ?_
          refine z_if_eq ok dX1_beginTurn_33 85 (by decide) (fun c5 => ?_) (fun c5 => ?_)
          · rw [if_pos c5] at hT2
            refine z_iinc ok dX1_beginTurn_85 (hI 2 (by decide)) 2 rfl (y := (nI (v2_2 + 1))) (z_incn v2_2 1) (lv' := [(2, .int (nI (v2_2 + 1))), (0, .ref (zad G (5 + 6 * g))), (1, .int side)]) rfl ?_
            refine z_goto ok dX1_beginTurn_88 7 (by decide) ?_
            refine z_locs [1, 2, 0] (lv' := [(0, .ref (zad G (5 + 6 * g))), (1, .int side), (2, .int (nI (v2_2 + 1)))]) rfl ?_
            exact ih2 (v2_2 + 1) vw2 (by omega) (by omega) hT2
          · rw [if_neg c5] at hT2
            refine z_aload_n ok dX1_beginTurn_36 0 rfl ?_
            refine z_get_X1_winding ok dX1_beginTurn_37 g h_g hN zw_123 ?_
            refine z_aload_n ok dX1_beginTurn_40 0 rfl ?_
            refine z_get_X1_limit ok dX1_beginTurn_41 g h_g hN zw_120 ?_
            refine z_aload_n ok dX1_beginTurn_44 0 rfl ?_
            refine z_get_X1_board ok dX1_beginTurn_45 g h_g hN zw_118 ?_
            refine z_iload_n ok dX1_beginTurn_48 2 rfl ?_
            refine z_callVNi ok old dX1_beginTurn_49 [.int (xg vw2 g 149), .int (xg vw2 g 151)] (c_X0_springOn G N hN hg vw2 g h_g v2_2 (by omega)) zy_X0_springOn zw_271 (6 + 6 * g) (zg_lt' hN h_g) (zE_board G vw2 h_g) rfl rfl rfl rfl rfl (by decide) (Nat.le_of_ble_eq_true rfl) ?_
            refine z_isub ok dX1_beginTurn_52 ?_
            refine z_min ok dX1_beginTurn_53 zw_400 zw_401 zw_82 zw_402 ⟨by decide, Nat.le_of_ble_eq_true rfl⟩ ?_
            replace hT2 := zlet_open hT2
            obtain ⟨x6, hx6, hT2⟩ := hT2
            rw [← hx6]
            refine z_istore_n ok dX1_beginTurn_56 (hI 3 (by decide)) (lv' := [(3, .int x6), (0, .ref (zad G (5 + 6 * g))), (1, .int side), (2, .int (nI v2_2))]) rfl ?_
            refine z_aload_n ok dX1_beginTurn_57 1 rfl ?_
            refine z_get_X1_board ok dX1_beginTurn_58 g h_g hN zw_118 ?_
            refine z_iload_n ok dX1_beginTurn_61 3 rfl ?_
            refine z_aload_n ok dX1_beginTurn_62 1 rfl ?_
            refine z_get_X1_board ok dX1_beginTurn_63 g h_g hN zw_118 ?_
            refine z_iload_n ok dX1_beginTurn_66 3 rfl ?_
            refine z_callVNi ok old dX1_beginTurn_67 [.int (nI v2_2), .ref (zad G (6 + 6 * g))] (c_X0_springOn G N hN hg vw2 g h_g v2_2 (by omega)) zy_X0_springOn zw_271 (6 + 6 * g) (zg_lt' hN h_g) (zE_board G vw2 h_g) rfl rfl rfl rfl rfl (by decide) (Nat.le_of_ble_eq_true rfl) ?_
            refine z_iload_n ok dX1_beginTurn_70 0 rfl ?_
            refine z_iadd ok dX1_beginTurn_71 ?_
            refine z_callVNv ok old dX1_beginTurn_72 [] (c_X0_changeSpring G N hN hg vw2 g h_g v2_2 (by omega) ((d_X0_springOn vw2 g v2_2) + x6)) zy_X0_changeSpring zw_275 (6 + 6 * g) (zg_lt' hN h_g) (zE_board G vw2 h_g) rfl rfl rfl rfl rfl (by decide) (Nat.le_of_ble_eq_true rfl) ?_
            replace hT2 := zlet_open hT2
            obtain ⟨w7, hw7, hT2⟩ := hT2
            rw [← hw7]
            refine z_aload_n ok dX1_beginTurn_75 1 rfl ?_
            refine z_dup ok dX1_beginTurn_76 rfl ?_
            refine z_get_X1_wound ok dX1_beginTurn_77 g h_g hN zw_134 ?_
            refine z_iload_n ok dX1_beginTurn_80 0 rfl ?_
            refine z_iadd ok dX1_beginTurn_81 ?_
            refine z_put_X1_wound ok dX1_beginTurn_82 g h_g hN zw_134 ?_
            replace hT2 := zlet_open hT2
            obtain ⟨w8, hw8, hT2⟩ := hT2
            rw [← hw8]
            refine z_iinc ok dX1_beginTurn_85 (hI 2 (by decide)) 3 rfl (y := (nI (v2_2 + 1))) (z_incn v2_2 1) (lv' := [(2, .int (nI (v2_2 + 1))), (3, .int x6), (0, .ref (zad G (5 + 6 * g))), (1, .int side)]) rfl ?_
            refine z_goto ok dX1_beginTurn_88 7 (by decide) ?_
            refine z_locs [2, 3, 0] (lv' := [(0, .ref (zad G (5 + 6 * g))), (1, .int side), (2, .int (nI (v2_2 + 1)))]) rfl ?_
            exact ih2 (v2_2 + 1) w8 (by omega) (by omega) hT2
  exact hl2 37 0 w1 (by omega) (by omega) hT

def d_X1_carryOut (w : xW) (g : Nat) (f : Nat) (t : Nat) : Int32 × xW :=
  zlet ((d_X0_price w g f t)) fun x1 =>
  zlet ((d_X0_kindOn w g f)) fun x2 =>
  zlet (((d_X0_springOn w g f) - x1)) fun x3 =>
  zlet (if (d_X0_hasPiece w g t) = 0 then ((x3, w))
  else (zlet (d_X1_springBehindTaking w g x3 (d_X0_springOn w g t)) fun p18 =>
  zlet (if (d_X0_kindOn p18.2 g t) = 0 then (zlet (xs p18.2 g 145 1) fun w21 =>
  zlet (xs w21 g 146 (xg w21 g 144)) fun w22 =>
  w22)
  else (p18.2) : xW) fun w19 =>
  (p18.1, w19)) : Int32 × xW) fun p4 =>
  zlet (if (xg p4.2 g 144) = 0 then (5)
  else (0) : Int32) fun x5 =>
  zlet (if x2 = 4 then (if (nI (t / 6)) = x5 then (1)
  else (0))
  else (0) : Int32) fun x6 =>
  zlet (if x6 = 0 then (x2)
  else (1) : Int32) fun x7 =>
  zlet (d_X0_place p4.2 g t (xg p4.2 g 144) x7 p4.1) fun w8 =>
  zlet (d_X0_empty w8 g f) fun w9 =>
  zlet (xs w9 g 155 ((xg w9 g 155) + x1)) fun w10 =>
  zlet (xs w10 g 147 ((xg w10 g 147) + 1)) fun w11 =>
  zlet (xs w11 g 148 0) fun w12 =>
  (x1, w12)
set_option maxRecDepth 100000 in
set_option maxHeartbeats 4000000 in
theorem c_X1_carryOut (G : zG) (N : Nat) (hN : 47 ≤ N) (hg : zGeo G N) (w : xW) (g : Nat) (h_g : g < 7) (f : Nat) (h_f : f < 36) (t : Nat) (h_t : t < 36) : zM yX1_carryOut cX1_carryOut 8 (some .int) 3 77 G N [.ref (zad G (5 + 6 * g)), .int (nI f), .int (nI t)] w (some (d_X1_carryOut w g f t).1) (d_X1_carryOut w g f t).2 := by
  obtain ⟨r, u, hT⟩ : ∃ r u, d_X1_carryOut w g f t = (r, u) := ⟨_, _, rfl⟩
  rw [hT]
  dsimp only
  unfold d_X1_carryOut at hT
  refine zM_of zy_X1_carryOut.2.2.2.2.2.2.2 hg ⟨Nat.le_of_ble_eq_true rfl, by decide⟩ rfl (fun k ok hE hI => ?_)
  have old := hE.old
  refine z_aload_n ok dX1_carryOut_0 0 rfl ?_
  refine z_get_X1_board ok dX1_carryOut_1 g h_g hN zw_118 ?_
  refine z_iload_n ok dX1_carryOut_4 1 rfl ?_
  refine z_iload_n ok dX1_carryOut_5 2 rfl ?_
  refine z_callVNi ok old dX1_carryOut_6 [] (c_X0_price G N hN hg w g h_g f (by omega) t (by omega)) zy_X0_price zw_386 (6 + 6 * g) (zg_lt' hN h_g) (zE_board G w h_g) rfl rfl rfl rfl rfl (by decide) (Nat.le_of_ble_eq_true rfl) ?_
  replace hT := zlet_open hT
  obtain ⟨x1, hx1, hT⟩ := hT
  rw [← hx1]
  refine z_istore_n ok dX1_carryOut_9 (hI 3 (by decide)) (lv' := [(3, .int x1), (0, .ref (zad G (5 + 6 * g))), (1, .int (nI f)), (2, .int (nI t))]) rfl ?_
  refine z_aload_n ok dX1_carryOut_10 1 rfl ?_
  refine z_get_X1_board ok dX1_carryOut_11 g h_g hN zw_118 ?_
  refine z_iload_n ok dX1_carryOut_14 2 rfl ?_
  refine z_callVNi ok old dX1_carryOut_15 [] (c_X0_kindOn G N hN hg w g h_g f (by omega)) zy_X0_kindOn zw_395 (6 + 6 * g) (zg_lt' hN h_g) (zE_board G w h_g) rfl rfl rfl rfl rfl (by decide) (Nat.le_of_ble_eq_true rfl) ?_
  replace hT := zlet_open hT
  obtain ⟨x2, hx2, hT⟩ := hT
  rw [← hx2]
  refine z_istore ok dX1_carryOut_18 (hI 4 (by decide)) (lv' := [(4, .int x2), (3, .int x1), (0, .ref (zad G (5 + 6 * g))), (1, .int (nI f)), (2, .int (nI t))]) rfl ?_
  refine z_aload_n ok dX1_carryOut_20 2 rfl ?_
  refine z_get_X1_board ok dX1_carryOut_21 g h_g hN zw_118 ?_
  refine z_iload_n ok dX1_carryOut_24 3 rfl ?_
  refine z_callVNi ok old dX1_carryOut_25 [] (c_X0_springOn G N hN hg w g h_g f (by omega)) zy_X0_springOn zw_271 (6 + 6 * g) (zg_lt' hN h_g) (zE_board G w h_g) rfl rfl rfl rfl rfl (by decide) (Nat.le_of_ble_eq_true rfl) ?_
  refine z_iload_n ok dX1_carryOut_28 1 rfl ?_
  refine z_isub ok dX1_carryOut_29 ?_
  replace hT := zlet_open hT
  obtain ⟨x3, hx3, hT⟩ := hT
  rw [← hx3]
  refine z_istore ok dX1_carryOut_30 (hI 5 (by decide)) (lv' := [(5, .int x3), (4, .int x2), (3, .int x1), (0, .ref (zad G (5 + 6 * g))), (1, .int (nI f)), (2, .int (nI t))]) rfl ?_
  refine z_aload_n ok dX1_carryOut_32 3 rfl ?_
  refine z_get_X1_board ok dX1_carryOut_33 g h_g hN zw_118 ?_
  refine z_iload_n ok dX1_carryOut_36 5 rfl ?_
  refine z_callVNi ok old dX1_carryOut_37 [] (c_X0_hasPiece G N hN hg w g h_g t (by omega)) zy_X0_hasPiece zw_384 (6 + 6 * g) (zg_lt' hN h_g) (zE_board G w h_g) rfl rfl rfl rfl rfl (by decide) (Nat.le_of_ble_eq_true rfl) ?_
  replace hT := zlet_open hT
  obtain ⟨p4, hp4, hT⟩ := hT
  have hsp4 := hp4.symm
  have hJp4 : zZ k G N p4.2 83 [(0, .ref (zad G (5 + 6 * g))), (1, .int (nI f)), (2, .int (nI t)), (3, .int x1), (4, .int x2), (5, .int p4.1)] [] := by
    refine z_aload_n ok dX1_carryOut_83 0 rfl ?_
    refine z_get_X1_mover ok dX1_carryOut_84 g h_g hN zw_124 ?_
    replace hT := zlet_open hT
    obtain ⟨x5, hx5, hT⟩ := hT
    have hsx5 := hx5.symm
    have hJx5 : zZ k G N p4.2 95 [(0, .ref (zad G (5 + 6 * g))), (1, .int (nI f)), (2, .int (nI t)), (3, .int x1), (4, .int x2), (5, .int p4.1)] [.int x5] := by
      refine z_istore ok dX1_carryOut_95 (hI 6 (by decide)) (lv' := [(6, .int x5), (0, .ref (zad G (5 + 6 * g))), (1, .int (nI f)), (2, .int (nI t)), (3, .int x1), (4, .int x2), (5, .int p4.1)]) rfl ?_
      refine z_iload ok dX1_carryOut_97 5 rfl ?_
      refine z_iconst ok dX1_carryOut_99 (x := 4) (by decide) ?_
      replace hT := zlet_open hT
      obtain ⟨x6, hx6, hT⟩ := hT
      have hsx6 := hx6.symm
      have hJx6 : zZ k G N p4.2 117 [(0, .ref (zad G (5 + 6 * g))), (1, .int (nI f)), (2, .int (nI t)), (3, .int x1), (4, .int x2), (5, .int p4.1), (6, .int x5)] [.int x6] := by
        refine z_istore ok dX1_carryOut_117 (hI 7 (by decide)) (lv' := [(7, .int x6), (0, .ref (zad G (5 + 6 * g))), (1, .int (nI f)), (2, .int (nI t)), (3, .int x1), (4, .int x2), (5, .int p4.1), (6, .int x5)]) rfl ?_
        refine z_aload_n ok dX1_carryOut_119 1 rfl ?_
        refine z_get_X1_board ok dX1_carryOut_120 g h_g hN zw_118 ?_
        refine z_iload_n ok dX1_carryOut_123 3 rfl ?_
        refine z_aload_n ok dX1_carryOut_124 1 rfl ?_
        refine z_get_X1_mover ok dX1_carryOut_125 g h_g hN zw_124 ?_
        refine z_iload ok dX1_carryOut_128 0 rfl ?_
        replace hT := zlet_open hT
        obtain ⟨x7, hx7, hT⟩ := hT
        have hsx7 := hx7.symm
        have hJx7 : zZ k G N p4.2 139 [(0, .ref (zad G (5 + 6 * g))), (1, .int (nI f)), (2, .int (nI t)), (3, .int x1), (4, .int x2), (5, .int p4.1), (6, .int x5), (7, .int x6)] [.int x7, .int (xg p4.2 g 144), .int (nI t), .ref (zad G (6 + 6 * g))] := by
          refine z_iload ok dX1_carryOut_139 5 rfl ?_
          refine z_callVNv ok old dX1_carryOut_141 [] (c_X0_place G N hN hg p4.2 g h_g t (by omega) (xg p4.2 g 144) x7 p4.1) zy_X0_place zw_304 (6 + 6 * g) (zg_lt' hN h_g) (zE_board G p4.2 h_g) rfl rfl rfl rfl rfl (by decide) (Nat.le_of_ble_eq_true rfl) ?_
          replace hT := zlet_open hT
          obtain ⟨w8, hw8, hT⟩ := hT
          rw [← hw8]
          refine z_aload_n ok dX1_carryOut_144 0 rfl ?_
          refine z_get_X1_board ok dX1_carryOut_145 g h_g hN zw_118 ?_
          refine z_iload_n ok dX1_carryOut_148 1 rfl ?_
          refine z_callVNv ok old dX1_carryOut_149 [] (c_X0_empty G N hN hg w8 g h_g f (by omega)) zy_X0_empty zw_303 (6 + 6 * g) (zg_lt' hN h_g) (zE_board G w8 h_g) rfl rfl rfl rfl rfl (by decide) (Nat.le_of_ble_eq_true rfl) ?_
          replace hT := zlet_open hT
          obtain ⟨w9, hw9, hT⟩ := hT
          rw [← hw9]
          refine z_aload_n ok dX1_carryOut_152 0 rfl ?_
          refine z_dup ok dX1_carryOut_153 rfl ?_
          refine z_get_X1_spent ok dX1_carryOut_154 g h_g hN zw_136 ?_
          refine z_iload_n ok dX1_carryOut_157 3 rfl ?_
          refine z_iadd ok dX1_carryOut_158 ?_
          refine z_put_X1_spent ok dX1_carryOut_159 g h_g hN zw_136 ?_
          replace hT := zlet_open hT
          obtain ⟨w10, hw10, hT⟩ := hT
          rw [← hw10]
          refine z_aload_n ok dX1_carryOut_162 0 rfl ?_
          refine z_dup ok dX1_carryOut_163 rfl ?_
          refine z_get_X1_turnsMade ok dX1_carryOut_164 g h_g hN zw_130 ?_
          refine z_iconst ok dX1_carryOut_167 (x := 1) (by decide) ?_
          refine z_iadd ok dX1_carryOut_168 ?_
          refine z_put_X1_turnsMade ok dX1_carryOut_169 g h_g hN zw_130 ?_
          replace hT := zlet_open hT
          obtain ⟨w11, hw11, hT⟩ := hT
          rw [← hw11]
          refine z_aload_n ok dX1_carryOut_172 0 rfl ?_
          refine z_iconst ok dX1_carryOut_173 (x := 0) (by decide) ?_
          refine z_put_X1_justPassed ok dX1_carryOut_174 g h_g hN (by decide) zw_132 ?_
          replace hT := zlet_open hT
          obtain ⟨w12, hw12, hT⟩ := hT
          rw [← hw12]
          refine z_iload_n ok dX1_carryOut_177 3 rfl ?_
          exact z_iret ok hE dX1_carryOut_178 rfl ⟨congrArg Prod.fst hT, congrArg Prod.snd hT⟩
        refine z_if_eq ok dX1_carryOut_130 137 (by decide) (fun c13 => ?_) (fun c13 => ?_)
        · rw [if_pos c13] at hsx7
          refine z_iload ok dX1_carryOut_137 5 rfl ?_
          rw [← hsx7] at hJx7
          refine z_locs [1, 2, 3, 4, 5, 6, 7, 0] (lv' := [(0, .ref (zad G (5 + 6 * g))), (1, .int (nI f)), (2, .int (nI t)), (3, .int x1), (4, .int x2), (5, .int p4.1), (6, .int x5), (7, .int x6)]) rfl ?_
          exact hJx7
        · rw [if_neg c13] at hsx7
          refine z_iconst ok dX1_carryOut_133 (x := 1) (by decide) ?_
          refine z_goto ok dX1_carryOut_134 139 (by decide) ?_
          rw [← hsx7] at hJx7
          refine z_locs [1, 2, 3, 4, 5, 6, 7, 0] (lv' := [(0, .ref (zad G (5 + 6 * g))), (1, .int (nI f)), (2, .int (nI t)), (3, .int x1), (4, .int x2), (5, .int p4.1), (6, .int x5), (7, .int x6)]) rfl ?_
          exact hJx7
      refine z_icmp_ne ok dX1_carryOut_100 116 (by decide) (fun c14 => ?_) (fun c14 => ?_)
      · rw [if_neg c14] at hsx6
        refine z_iconst ok dX1_carryOut_116 (x := 0) (by decide) ?_
        rw [← hsx6] at hJx6
        refine z_locs [1, 2, 3, 4, 5, 6, 0] (lv' := [(0, .ref (zad G (5 + 6 * g))), (1, .int (nI f)), (2, .int (nI t)), (3, .int x1), (4, .int x2), (5, .int p4.1), (6, .int x5)]) rfl ?_
        exact hJx6
      · rw [if_pos c14] at hsx6
        refine z_iload_n ok dX1_carryOut_103 3 rfl ?_
        refine z_bipush ok dX1_carryOut_104 (x := 6) (by decide) ?_
        refine z_idiv_n ok dX1_carryOut_106 t 6 rfl rfl (by omega) (by omega) (by omega) ?_
        refine z_iload ok dX1_carryOut_107 0 rfl ?_
        refine z_icmp_ne ok dX1_carryOut_109 116 (by decide) (fun c15 => ?_) (fun c15 => ?_)
        · rw [if_neg c15] at hsx6
          refine z_iconst ok dX1_carryOut_116 (x := 0) (by decide) ?_
          rw [← hsx6] at hJx6
          refine z_locs [1, 2, 3, 4, 5, 6, 0] (lv' := [(0, .ref (zad G (5 + 6 * g))), (1, .int (nI f)), (2, .int (nI t)), (3, .int x1), (4, .int x2), (5, .int p4.1), (6, .int x5)]) rfl ?_
          exact hJx6
        · rw [if_pos c15] at hsx6
          refine z_iconst ok dX1_carryOut_112 (x := 1) (by decide) ?_
          refine z_goto ok dX1_carryOut_113 117 (by decide) ?_
          rw [← hsx6] at hJx6
          refine z_locs [1, 2, 3, 4, 5, 6, 0] (lv' := [(0, .ref (zad G (5 + 6 * g))), (1, .int (nI f)), (2, .int (nI t)), (3, .int x1), (4, .int x2), (5, .int p4.1), (6, .int x5)]) rfl ?_
          exact hJx6
    refine z_if_ne ok dX1_carryOut_87 94 (by decide) (fun c16 => ?_) (fun c16 => ?_)
    · rw [if_neg c16] at hsx5
      refine z_iconst ok dX1_carryOut_94 (x := 0) (by decide) ?_
      rw [← hsx5] at hJx5
      refine z_locs [0, 1, 2, 3, 4, 5] (lv' := [(0, .ref (zad G (5 + 6 * g))), (1, .int (nI f)), (2, .int (nI t)), (3, .int x1), (4, .int x2), (5, .int p4.1)]) rfl ?_
      exact hJx5
    · rw [if_pos c16] at hsx5
      refine z_iconst ok dX1_carryOut_90 (x := 5) (by decide) ?_
      refine z_goto ok dX1_carryOut_91 95 (by decide) ?_
      rw [← hsx5] at hJx5
      refine z_locs [0, 1, 2, 3, 4, 5] (lv' := [(0, .ref (zad G (5 + 6 * g))), (1, .int (nI f)), (2, .int (nI t)), (3, .int x1), (4, .int x2), (5, .int p4.1)]) rfl ?_
      exact hJx5
  refine z_if_eq ok dX1_carryOut_40 83 (by decide) (fun c17 => ?_) (fun c17 => ?_)
  · rw [if_pos c17] at hsp4
    rw [← hsp4] at hJp4
    refine z_locs [3, 4, 5, 2, 1, 0] (lv' := [(0, .ref (zad G (5 + 6 * g))), (1, .int (nI f)), (2, .int (nI t)), (3, .int x1), (4, .int x2), (5, .int x3)]) rfl ?_
    exact hJp4
  · rw [if_neg c17] at hsp4
    refine z_aload_n ok dX1_carryOut_43 3 rfl ?_
    refine z_iload ok dX1_carryOut_44 0 rfl ?_
    refine z_aload_n ok dX1_carryOut_46 3 rfl ?_
    refine z_get_X1_board ok dX1_carryOut_47 g h_g hN zw_118 ?_
    refine z_iload_n ok dX1_carryOut_50 5 rfl ?_
    refine z_callVNi ok old dX1_carryOut_51 [.int x3, .ref (zad G (5 + 6 * g))] (c_X0_springOn G N hN hg w g h_g t (by omega)) zy_X0_springOn zw_271 (6 + 6 * g) (zg_lt' hN h_g) (zE_board G w h_g) rfl rfl rfl rfl rfl (by decide) (Nat.le_of_ble_eq_true rfl) ?_
    refine z_callVi ok old dX1_carryOut_54 [] (c_X1_springBehindTaking G N hN hg w g h_g x3 (d_X0_springOn w g t)) zy_X1_springBehindTaking zw_396 (5 + 6 * g) (zg_lt hN h_g) (zE_game G w h_g) rfl rfl rfl rfl rfl (by decide) (Nat.le_of_ble_eq_true rfl) ?_
    replace hsp4 := zlet_open hsp4
    obtain ⟨p18, hp18, hsp4⟩ := hsp4
    rw [← hp18]
    refine z_istore ok dX1_carryOut_57 (hI 5 (by decide)) (lv' := [(5, .int p18.1), (4, .int x2), (3, .int x1), (0, .ref (zad G (5 + 6 * g))), (1, .int (nI f)), (2, .int (nI t))]) rfl ?_
    refine z_aload_n ok dX1_carryOut_59 3 rfl ?_
    refine z_get_X1_board ok dX1_carryOut_60 g h_g hN zw_118 ?_
    refine z_iload_n ok dX1_carryOut_63 5 rfl ?_
    refine z_callVNi ok old dX1_carryOut_64 [] (c_X0_kindOn G N hN hg p18.2 g h_g t (by omega)) zy_X0_kindOn zw_395 (6 + 6 * g) (zg_lt' hN h_g) (zE_board G p18.2 h_g) rfl rfl rfl rfl rfl (by decide) (Nat.le_of_ble_eq_true rfl) ?_
    replace hsp4 := zlet_open hsp4
    obtain ⟨w19, hw19, hsp4⟩ := hsp4
    have hsw19 := hw19.symm
    have hJw19 : zZ k G N w19 83 [(0, .ref (zad G (5 + 6 * g))), (1, .int (nI f)), (2, .int (nI t)), (3, .int x1), (4, .int x2), (5, .int p18.1)] [] := by
      rw [← hsp4] at hJp4
      refine z_locs [0, 1, 2, 3, 4, 5] (lv' := [(0, .ref (zad G (5 + 6 * g))), (1, .int (nI f)), (2, .int (nI t)), (3, .int x1), (4, .int x2), (5, .int p18.1)]) rfl ?_
      exact hJp4
    refine z_if_ne ok dX1_carryOut_67 83 (by decide) (fun c20 => ?_) (fun c20 => ?_)
    · rw [if_neg c20] at hsw19
      rw [← hsw19] at hJw19
      refine z_locs [3, 4, 5, 2, 1, 0] (lv' := [(0, .ref (zad G (5 + 6 * g))), (1, .int (nI f)), (2, .int (nI t)), (3, .int x1), (4, .int x2), (5, .int p18.1)]) rfl ?_
      exact hJw19
    · rw [if_pos c20] at hsw19
      refine z_aload_n ok dX1_carryOut_70 3 rfl ?_
      refine z_iconst ok dX1_carryOut_71 (x := 1) (by decide) ?_
      refine z_put_X1_ending ok dX1_carryOut_72 g h_g hN zw_126 ?_
      replace hsw19 := zlet_open hsw19
      obtain ⟨w21, hw21, hsw19⟩ := hsw19
      rw [← hw21]
      refine z_aload_n ok dX1_carryOut_75 3 rfl ?_
      refine z_aload_n ok dX1_carryOut_76 3 rfl ?_
      refine z_get_X1_mover ok dX1_carryOut_77 g h_g hN zw_124 ?_
      refine z_put_X1_winner ok dX1_carryOut_80 g h_g hN zw_128 ?_
      replace hsw19 := zlet_open hsw19
      obtain ⟨w22, hw22, hsw19⟩ := hsw19
      rw [← hw22]
      rw [← hsw19] at hJw19
      refine z_locs [3, 4, 5, 2, 1, 0] (lv' := [(0, .ref (zad G (5 + 6 * g))), (1, .int (nI f)), (2, .int (nI t)), (3, .int x1), (4, .int x2), (5, .int p18.1)]) rfl ?_
      exact hJw19

def d_X1_makeMove (w : xW) (g : Nat) (f : Nat) (t : Nat) : Int32 × xW :=
  zlet (d_X1_carryOut w g f t) fun p1 =>
  if (d_X1_isOver p1.2 g) = 0 then (zlet (d_X1_beginTurn p1.2 g (1 - (xg p1.2 g 144))) fun w3 =>
  (p1.1, w3))
  else ((p1.1, p1.2))
set_option maxRecDepth 100000 in
set_option maxHeartbeats 4000000 in
theorem c_X1_makeMove (G : zG) (N : Nat) (hN : 47 ≤ N) (hg : zGeo G N) (w : xW) (g : Nat) (h_g : g < 7) (f : Nat) (h_f : f < 36) (t : Nat) (h_t : t < 36) : zM yX1_makeMove cX1_makeMove 4 (some .int) 4 104 G N [.ref (zad G (5 + 6 * g)), .int (nI f), .int (nI t)] w (some (d_X1_makeMove w g f t).1) (d_X1_makeMove w g f t).2 := by
  obtain ⟨r, u, hT⟩ : ∃ r u, d_X1_makeMove w g f t = (r, u) := ⟨_, _, rfl⟩
  rw [hT]
  dsimp only
  unfold d_X1_makeMove at hT
  refine zM_of zy_X1_makeMove.2.2.2.2.2.2.2 hg ⟨Nat.le_of_ble_eq_true rfl, by decide⟩ rfl (fun k ok hE hI => ?_)
  have old := hE.old
  refine z_aload_n ok dX1_makeMove_0 0 rfl ?_
  refine z_iload_n ok dX1_makeMove_1 1 rfl ?_
  refine z_iload_n ok dX1_makeMove_2 2 rfl ?_
  refine z_callVi ok old dX1_makeMove_3 [] (c_X1_carryOut G N hN hg w g h_g f (by omega) t (by omega)) zy_X1_carryOut zw_391 (5 + 6 * g) (zg_lt hN h_g) (zE_game G w h_g) rfl rfl rfl rfl rfl (by decide) (Nat.le_of_ble_eq_true rfl) ?_
  replace hT := zlet_open hT
  obtain ⟨p1, hp1, hT⟩ := hT
  rw [← hp1]
  refine z_istore_n ok dX1_makeMove_6 (hI 3 (by decide)) (lv' := [(3, .int p1.1), (0, .ref (zad G (5 + 6 * g))), (1, .int (nI f)), (2, .int (nI t))]) rfl ?_
  refine z_aload_n ok dX1_makeMove_7 1 rfl ?_
  refine z_callVi ok old dX1_makeMove_8 [] (c_X1_isOver G N hN hg p1.2 g h_g) zy_X1_isOver zw_383 (5 + 6 * g) (zg_lt hN h_g) (zE_game G p1.2 h_g) rfl rfl rfl rfl rfl (by decide) (Nat.le_of_ble_eq_true rfl) ?_
  refine z_if_ne ok dX1_makeMove_11 24 (by decide) (fun c2 => ?_) (fun c2 => ?_)
  · rw [if_neg c2] at hT
    refine z_iload_n ok dX1_makeMove_24 0 rfl ?_
    exact z_iret ok hE dX1_makeMove_25 rfl ⟨congrArg Prod.fst hT, congrArg Prod.snd hT⟩
  · rw [if_pos c2] at hT
    refine z_aload_n ok dX1_makeMove_14 1 rfl ?_
    refine z_iconst ok dX1_makeMove_15 (x := 1) (by decide) ?_
    refine z_aload_n ok dX1_makeMove_16 1 rfl ?_
    refine z_get_X1_mover ok dX1_makeMove_17 g h_g hN zw_124 ?_
    refine z_isub ok dX1_makeMove_20 ?_
    refine z_callVv ok old dX1_makeMove_21 [] (c_X1_beginTurn G N hN hg p1.2 g h_g (1 - (xg p1.2 g 144))) zy_X1_beginTurn zw_403 (5 + 6 * g) (zg_lt hN h_g) (zE_game G p1.2 h_g) rfl rfl rfl rfl rfl (by decide) (Nat.le_of_ble_eq_true rfl) ?_
    replace hT := zlet_open hT
    obtain ⟨w3, hw3, hT⟩ := hT
    rw [← hw3]
    refine z_iload_n ok dX1_makeMove_24 0 rfl ?_
    exact z_iret ok hE dX1_makeMove_25 rfl ⟨congrArg Prod.fst hT, congrArg Prod.snd hT⟩

def d_X1_makePass (w : xW) (g : Nat) : xW :=
  zlet (xs w g 147 ((xg w g 147) + 1)) fun w1 =>
  if (zb (xg w1 g 148)) = 0 then (zlet (xs w1 g 148 1) fun w3 =>
  zlet (d_X1_beginTurn w3 g (1 - (xg w3 g 144))) fun w4 =>
  w4)
  else (zlet (xs w1 g 145 2) fun w5 =>
  zlet (((d_X0_springsOf w5 g 0) - (d_X0_springsOf w5 g 1))) fun x6 =>
  if x6 = 0 then (w5)
  else (if x6 ≤ 0 then (zlet (xs w5 g 146 1) fun w9 =>
  w9)
  else (zlet (xs w5 g 146 0) fun w10 =>
  w10)))
set_option maxRecDepth 100000 in
set_option maxHeartbeats 4000000 in
theorem c_X1_makePass (G : zG) (N : Nat) (hN : 47 ≤ N) (hg : zGeo G N) (w : xW) (g : Nat) (h_g : g < 7) : zM yX1_makePass cX1_makePass 2 none 3 65 G N [.ref (zad G (5 + 6 * g))] w none (d_X1_makePass w g) := by
  generalize hT : d_X1_makePass w g = u
  unfold d_X1_makePass at hT
  refine zM_of zy_X1_makePass.2.2.2.2.2.2.2 hg ⟨Nat.le_of_ble_eq_true rfl, by decide⟩ rfl (fun k ok hE hI => ?_)
  have old := hE.old
  refine z_aload_n ok dX1_makePass_0 0 rfl ?_
  refine z_dup ok dX1_makePass_1 rfl ?_
  refine z_get_X1_turnsMade ok dX1_makePass_2 g h_g hN zw_130 ?_
  refine z_iconst ok dX1_makePass_5 (x := 1) (by decide) ?_
  refine z_iadd ok dX1_makePass_6 ?_
  refine z_put_X1_turnsMade ok dX1_makePass_7 g h_g hN zw_130 ?_
  replace hT := zlet_open hT
  obtain ⟨w1, hw1, hT⟩ := hT
  rw [← hw1]
  refine z_aload_n ok dX1_makePass_10 0 rfl ?_
  refine z_get_X1_justPassed ok dX1_makePass_11 g h_g hN zw_132 ?_
  refine z_if_eq ok dX1_makePass_14 60 (by decide) (fun c2 => ?_) (fun c2 => ?_)
  · rw [if_pos c2] at hT
    refine z_aload_n ok dX1_makePass_60 0 rfl ?_
    refine z_iconst ok dX1_makePass_61 (x := 1) (by decide) ?_
    refine z_put_X1_justPassed ok dX1_makePass_62 g h_g hN (by decide) zw_132 ?_
    replace hT := zlet_open hT
    obtain ⟨w3, hw3, hT⟩ := hT
    rw [← hw3]
    refine z_aload_n ok dX1_makePass_65 0 rfl ?_
    refine z_iconst ok dX1_makePass_66 (x := 1) (by decide) ?_
    refine z_aload_n ok dX1_makePass_67 0 rfl ?_
    refine z_get_X1_mover ok dX1_makePass_68 g h_g hN zw_124 ?_
    refine z_isub ok dX1_makePass_71 ?_
    refine z_callVv ok old dX1_makePass_72 [] (c_X1_beginTurn G N hN hg w3 g h_g (1 - (xg w3 g 144))) zy_X1_beginTurn zw_403 (5 + 6 * g) (zg_lt hN h_g) (zE_game G w3 h_g) rfl rfl rfl rfl rfl (by decide) (Nat.le_of_ble_eq_true rfl) ?_
    replace hT := zlet_open hT
    obtain ⟨w4, hw4, hT⟩ := hT
    rw [← hw4]
    exact z_vret ok hE dX1_makePass_75 hT
  · rw [if_neg c2] at hT
    refine z_aload_n ok dX1_makePass_17 0 rfl ?_
    refine z_iconst ok dX1_makePass_18 (x := 2) (by decide) ?_
    refine z_put_X1_ending ok dX1_makePass_19 g h_g hN zw_126 ?_
    replace hT := zlet_open hT
    obtain ⟨w5, hw5, hT⟩ := hT
    rw [← hw5]
    refine z_aload_n ok dX1_makePass_22 0 rfl ?_
    refine z_get_X1_board ok dX1_makePass_23 g h_g hN zw_118 ?_
    refine z_iconst ok dX1_makePass_26 (x := 0) (by decide) ?_
    refine z_callVNi ok old dX1_makePass_27 [] (c_X0_springsOf G N hN hg w5 g h_g 0) zy_X0_springsOf zw_424 (6 + 6 * g) (zg_lt' hN h_g) (zE_board G w5 h_g) rfl rfl rfl rfl rfl (by decide) (Nat.le_of_ble_eq_true rfl) ?_
    refine z_aload_n ok dX1_makePass_30 0 rfl ?_
    refine z_get_X1_board ok dX1_makePass_31 g h_g hN zw_118 ?_
    refine z_iconst ok dX1_makePass_34 (x := 1) (by decide) ?_
    refine z_callVNi ok old dX1_makePass_35 [.int (d_X0_springsOf w5 g 0)] (c_X0_springsOf G N hN hg w5 g h_g 1) zy_X0_springsOf zw_424 (6 + 6 * g) (zg_lt' hN h_g) (zE_board G w5 h_g) rfl rfl rfl rfl rfl (by decide) (Nat.le_of_ble_eq_true rfl) ?_
    refine z_isub ok dX1_makePass_38 ?_
    replace hT := zlet_open hT
    obtain ⟨x6, hx6, hT⟩ := hT
    rw [← hx6]
    refine z_istore_n ok dX1_makePass_39 (hI 1 (by decide)) (lv' := [(1, .int x6), (0, .ref (zad G (5 + 6 * g)))]) rfl ?_
    refine z_iload_n ok dX1_makePass_40 0 rfl ?_
    refine z_if_eq ok dX1_makePass_41 57 (by decide) (fun c7 => ?_) (fun c7 => ?_)
    · rw [if_pos c7] at hT
      refine z_goto ok dX1_makePass_57 75 (by decide) ?_
      exact z_vret ok hE dX1_makePass_75 hT
    · rw [if_neg c7] at hT
      refine z_aload_n ok dX1_makePass_44 1 rfl ?_
      refine z_iload_n ok dX1_makePass_45 0 rfl ?_
      refine z_if_le ok dX1_makePass_46 53 (by decide) (fun c8 => ?_) (fun c8 => ?_)
      · rw [if_pos c8] at hT
        refine z_iconst ok dX1_makePass_53 (x := 1) (by decide) ?_
        refine z_put_X1_winner ok dX1_makePass_54 g h_g hN zw_128 ?_
        replace hT := zlet_open hT
        obtain ⟨w9, hw9, hT⟩ := hT
        rw [← hw9]
        refine z_goto ok dX1_makePass_57 75 (by decide) ?_
        exact z_vret ok hE dX1_makePass_75 hT
      · rw [if_neg c8] at hT
        refine z_iconst ok dX1_makePass_49 (x := 0) (by decide) ?_
        refine z_goto ok dX1_makePass_50 54 (by decide) ?_
        refine z_put_X1_winner ok dX1_makePass_54 g h_g hN zw_128 ?_
        replace hT := zlet_open hT
        obtain ⟨w10, hw10, hT⟩ := hT
        rw [← hw10]
        refine z_goto ok dX1_makePass_57 75 (by decide) ?_
        exact z_vret ok hE dX1_makePass_75 hT
end
section
theorem zisCell {w : xW} {x : Int32} (h : ¬ d_X2_isCell w x = 0) : x = nI x.toNatClampNeg ∧ x.toNatClampNeg < 36 := by
  unfold d_X2_isCell at h
  by_cases h1 : x < 0
  · rw [if_pos h1] at h; exact absurd rfl h
  · rw [if_neg h1] at h
    by_cases h2 : 36 ≤ x
    · rw [if_pos h2] at h; exact absurd rfl h
    · exact zidx h1 h2
theorem zidx13 {x : Int32} (h1 : ¬ x < 0) (h2 : x ≤ 12) : x = nI x.toNatClampNeg ∧ x.toNatClampNeg < 13 := zidxN (by decide) h1 (by
  have := Int32.le_iff_toInt_le.mp h2
  intro q
  have q2 := Int32.le_iff_toInt_le.mp q
  have e : (12 : Int32).toInt = 12 := rfl
  rw [nI_toInt (by decide)] at q2
  omega)
theorem zidx_undo {w w1 : xW} (h1 : ¬ xg w 10 0 ≤ 0) (h2 : xg w 10 0 ≤ 5) (hw : w1 = xs w 10 0 (xg w 10 0 - 1)) : xg w1 10 0 = nI (xg w1 10 0).toNatClampNeg ∧ (xg w1 10 0).toNatClampNeg < 5 := by
  rw [hw, xg_same]
  rcases pk_ix (xg w 10 0) (n := 6) (by decide) with q | q | ⟨j, hj, e⟩
  · exact absurd (Int32.le_of_lt q) h1
  · have a1 := Int32.le_iff_toInt_le.mp h2
    have a2 := Int32.le_iff_toInt_le.mp q
    have e1 : (5 : Int32).toInt = 5 := rfl
    rw [nI_toInt (by decide)] at a2
    omega
  · rw [e] at h1 ⊢
    have : j ≠ 0 := fun z => h1 (by rw [z]; decide)
    rw [show (1 : Int32) = nI 1 from rfl, pk_sub (by omega), zcl (by omega)]
    exact ⟨rfl, by omega⟩
theorem zclamp_lt (x : Int32) : x.toNatClampNeg < 2147483648 := by
  have := Int32.toInt_lt x
  show x.toInt.toNat < 2147483648
  omega
theorem zlt_cl {x : Int32} {c : Nat} (h : ¬ x ≤ nI c) (hc : c < 2147483648) : c < x.toNatClampNeg := by
  have h1 : ¬ x.toInt ≤ (nI c).toInt := fun q => h (Int32.le_iff_toInt_le.mpr q)
  rw [nI_toInt hc] at h1
  show c < x.toInt.toNat
  omega
def d_X2_isSide (w : xW) (s : Int32) : Int32 :=
  if s = 0 then (1)
  else (if s = 1 then (1)
  else (0))
set_option maxRecDepth 100000 in
set_option maxHeartbeats 4000000 in
theorem c_X2_isSide (G : zG) (N : Nat) (hN : 47 ≤ N) (hg : zGeo G N) (w : xW) (s : Int32) : zM yX2_isSide cX2_isSide 1 (some .boolean) 0 0 G N [.int s] w (some (d_X2_isSide w s)) w := by
  generalize hT : d_X2_isSide w s = r
  unfold d_X2_isSide at hT
  refine zM_of zy_X2_isSide.2.2.2.2.2.2 hg ⟨Nat.le_of_ble_eq_true rfl, by decide⟩ rfl (fun k ok hE hI => ?_)
  have old := hE.old
  refine z_iload_n ok dX2_isSide_0 0 rfl ?_
  refine z_if_eq ok dX2_isSide_1 9 (by decide) (fun c1 => ?_) (fun c1 => ?_)
  · rw [if_pos c1] at hT
    refine z_iconst ok dX2_isSide_9 (x := 1) (by decide) ?_
    refine z_goto ok dX2_isSide_10 14 (by decide) ?_
    exact z_iret ok hE dX2_isSide_14 rfl ⟨hT, rfl⟩
  · rw [if_neg c1] at hT
    refine z_iload_n ok dX2_isSide_4 0 rfl ?_
    refine z_iconst ok dX2_isSide_5 (x := 1) (by decide) ?_
    refine z_icmp_ne ok dX2_isSide_6 13 (by decide) (fun c2 => ?_) (fun c2 => ?_)
    · rw [if_neg c2] at hT
      refine z_iconst ok dX2_isSide_13 (x := 0) (by decide) ?_
      exact z_iret ok hE dX2_isSide_14 rfl ⟨hT, rfl⟩
    · rw [if_pos c2] at hT
      refine z_iconst ok dX2_isSide_9 (x := 1) (by decide) ?_
      refine z_goto ok dX2_isSide_10 14 (by decide) ?_
      exact z_iret ok hE dX2_isSide_14 rfl ⟨hT, rfl⟩

def d_X2_isAccount (w : xW) (n : Int32) : Int32 :=
  if n < 0 then (0)
  else (if 6 < n then (0)
  else (1))
set_option maxRecDepth 100000 in
set_option maxHeartbeats 4000000 in
theorem c_X2_isAccount (G : zG) (N : Nat) (hN : 47 ≤ N) (hg : zGeo G N) (w : xW) (n : Int32) : zM yX2_isAccount cX2_isAccount 1 (some .boolean) 0 0 G N [.int n] w (some (d_X2_isAccount w n)) w := by
  generalize hT : d_X2_isAccount w n = r
  unfold d_X2_isAccount at hT
  refine zM_of zy_X2_isAccount.2.2.2.2.2.2 hg ⟨Nat.le_of_ble_eq_true rfl, by decide⟩ rfl (fun k ok hE hI => ?_)
  have old := hE.old
  refine z_iload_n ok dX2_isAccount_0 0 rfl ?_
  refine z_if_lt ok dX2_isAccount_1 14 (by decide) (fun c1 => ?_) (fun c1 => ?_)
  · rw [if_pos c1] at hT
    refine z_iconst ok dX2_isAccount_14 (x := 0) (by decide) ?_
    exact z_iret ok hE dX2_isAccount_15 rfl ⟨hT, rfl⟩
  · rw [if_neg c1] at hT
    refine z_iload_n ok dX2_isAccount_4 0 rfl ?_
    refine z_bipush ok dX2_isAccount_5 (x := 6) (by decide) ?_
    refine z_icmp_gt ok dX2_isAccount_7 14 (by decide) (fun c2 => ?_) (fun c2 => ?_)
    · rw [if_pos c2] at hT
      refine z_iconst ok dX2_isAccount_14 (x := 0) (by decide) ?_
      exact z_iret ok hE dX2_isAccount_15 rfl ⟨hT, rfl⟩
    · rw [if_neg c2] at hT
      refine z_iconst ok dX2_isAccount_10 (x := 1) (by decide) ?_
      refine z_goto ok dX2_isAccount_11 15 (by decide) ?_
      exact z_iret ok hE dX2_isAccount_15 rfl ⟨hT, rfl⟩

def d_X2_isSetting (w : xW) (what : Int32) (value : Int32) : Int32 :=
  if what = 0 then (if value < 1 then (0)
  else (if 12 < value then (0)
  else (1)))
  else (if what = 1 then (if value < 0 then (0)
  else (if 5 < value then (0)
  else (1)))
  else (if what = 2 then (if value < 0 then (0)
  else (if 5 < value then (0)
  else (1)))
  else (0)))
set_option maxRecDepth 100000 in
set_option maxHeartbeats 4000000 in
theorem c_X2_isSetting (G : zG) (N : Nat) (hN : 47 ≤ N) (hg : zGeo G N) (w : xW) (what : Int32) (value : Int32) : zM yX2_isSetting cX2_isSetting 2 (some .boolean) 0 0 G N [.int what, .int value] w (some (d_X2_isSetting w what value)) w := by
  generalize hT : d_X2_isSetting w what value = r
  unfold d_X2_isSetting at hT
  refine zM_of zy_X2_isSetting.2.2.2.2.2.2 hg ⟨Nat.le_of_ble_eq_true rfl, by decide⟩ rfl (fun k ok hE hI => ?_)
  have old := hE.old
  refine z_iload_n ok dX2_isSetting_0 0 rfl ?_
  refine z_if_ne ok dX2_isSetting_1 21 (by decide) (fun c1 => ?_) (fun c1 => ?_)
  · rw [if_neg c1] at hT
    refine z_iload_n ok dX2_isSetting_21 0 rfl ?_
    refine z_iconst ok dX2_isSetting_22 (x := 1) (by decide) ?_
    refine z_icmp_eq ok dX2_isSetting_23 31 (by decide) (fun c2 => ?_) (fun c2 => ?_)
    · rw [if_pos c2] at hT
      refine z_iload_n ok dX2_isSetting_31 1 rfl ?_
      refine z_if_lt ok dX2_isSetting_32 44 (by decide) (fun c3 => ?_) (fun c3 => ?_)
      · rw [if_pos c3] at hT
        refine z_iconst ok dX2_isSetting_44 (x := 0) (by decide) ?_
        exact z_iret ok hE dX2_isSetting_45 rfl ⟨hT, rfl⟩
      · rw [if_neg c3] at hT
        refine z_iload_n ok dX2_isSetting_35 1 rfl ?_
        refine z_iconst ok dX2_isSetting_36 (x := 5) (by decide) ?_
        refine z_icmp_gt ok dX2_isSetting_37 44 (by decide) (fun c4 => ?_) (fun c4 => ?_)
        · rw [if_pos c4] at hT
          refine z_iconst ok dX2_isSetting_44 (x := 0) (by decide) ?_
          exact z_iret ok hE dX2_isSetting_45 rfl ⟨hT, rfl⟩
        · rw [if_neg c4] at hT
          refine z_iconst ok dX2_isSetting_40 (x := 1) (by decide) ?_
          refine z_goto ok dX2_isSetting_41 45 (by decide) ?_
          exact z_iret ok hE dX2_isSetting_45 rfl ⟨hT, rfl⟩
    · rw [if_neg c2] at hT
      refine z_iload_n ok dX2_isSetting_26 0 rfl ?_
      refine z_iconst ok dX2_isSetting_27 (x := 2) (by decide) ?_
      refine z_icmp_ne ok dX2_isSetting_28 44 (by decide) (fun c5 => ?_) (fun c5 => ?_)
      · rw [if_neg c5] at hT
        refine z_iconst ok dX2_isSetting_44 (x := 0) (by decide) ?_
        exact z_iret ok hE dX2_isSetting_45 rfl ⟨hT, rfl⟩
      · rw [if_pos c5] at hT
        refine z_iload_n ok dX2_isSetting_31 1 rfl ?_
        refine z_if_lt ok dX2_isSetting_32 44 (by decide) (fun c6 => ?_) (fun c6 => ?_)
        · rw [if_pos c6] at hT
          refine z_iconst ok dX2_isSetting_44 (x := 0) (by decide) ?_
          exact z_iret ok hE dX2_isSetting_45 rfl ⟨hT, rfl⟩
        · rw [if_neg c6] at hT
          refine z_iload_n ok dX2_isSetting_35 1 rfl ?_
          refine z_iconst ok dX2_isSetting_36 (x := 5) (by decide) ?_
          refine z_icmp_gt ok dX2_isSetting_37 44 (by decide) (fun c7 => ?_) (fun c7 => ?_)
          · rw [if_pos c7] at hT
            refine z_iconst ok dX2_isSetting_44 (x := 0) (by decide) ?_
            exact z_iret ok hE dX2_isSetting_45 rfl ⟨hT, rfl⟩
          · rw [if_neg c7] at hT
            refine z_iconst ok dX2_isSetting_40 (x := 1) (by decide) ?_
            refine z_goto ok dX2_isSetting_41 45 (by decide) ?_
            exact z_iret ok hE dX2_isSetting_45 rfl ⟨hT, rfl⟩
  · rw [if_pos c1] at hT
    refine z_iload_n ok dX2_isSetting_4 1 rfl ?_
    refine z_iconst ok dX2_isSetting_5 (x := 1) (by decide) ?_
    refine z_icmp_lt ok dX2_isSetting_6 19 (by decide) (fun c8 => ?_) (fun c8 => ?_)
    · rw [if_pos c8] at hT
      refine z_iconst ok dX2_isSetting_19 (x := 0) (by decide) ?_
      exact z_iret ok hE dX2_isSetting_20 rfl ⟨hT, rfl⟩
    · rw [if_neg c8] at hT
      refine z_iload_n ok dX2_isSetting_9 1 rfl ?_
      refine z_bipush ok dX2_isSetting_10 (x := 12) (by decide) ?_
      refine z_icmp_gt ok dX2_isSetting_12 19 (by decide) (fun c9 => ?_) (fun c9 => ?_)
      · rw [if_pos c9] at hT
        refine z_iconst ok dX2_isSetting_19 (x := 0) (by decide) ?_
        exact z_iret ok hE dX2_isSetting_20 rfl ⟨hT, rfl⟩
      · rw [if_neg c9] at hT
        refine z_iconst ok dX2_isSetting_15 (x := 1) (by decide) ?_
        refine z_goto ok dX2_isSetting_16 20 (by decide) ?_
        exact z_iret ok hE dX2_isSetting_20 rfl ⟨hT, rfl⟩

def d_X2_record_21k (w : xW) (e7_2 : Nat) (ew7 : xW) : xW :=
  zlet (xp ew7 (5 - 1) (zpg w 0)) fun w8 =>
  zlet (xs w8 10 0 (nI (5 - 1))) fun w9 =>
  w9
def d_X2_record_21  (kt7 : Nat → xW → xW) : Nat → Nat → xW → xW
  | 0, _, _ => default
  | n7 + 1, v7_2, vw7 => if 5 ≤ v7_2 then (kt7 v7_2 vw7)
  else (zlet (xp vw7 (v7_2 - 1) (zpg vw7 v7_2)) fun w11 =>
  d_X2_record_21  kt7 n7 (v7_2 + 1) w11)
def d_X2_record (w : xW)  : xW :=
  zlet (if (xg w 10 0) < 5 then (w)
  else (d_X2_record_21  (d_X2_record_21k w) 6 1 w) : xW) fun w1 =>
  if (xg w1 10 0) < 0 then (w1)
  else (if 5 ≤ (xg w1 10 0) then (w1)
  else (zlet (d_X1_copyFrom w1 (zpg w1 ((xg w1 10 0)).toNatClampNeg) 0) fun w4 =>
  zlet (xs w4 10 0 ((xg w4 10 0) + 1)) fun w5 =>
  w5))
set_option maxRecDepth 100000 in
set_option maxHeartbeats 4000000 in
theorem c_X2_record (G : zG) (N : Nat) (hN : 47 ≤ N) (hg : zGeo G N) (w : xW) : zM yX2_record cX2_record 3 none 3 102 G N [.ref (zad G 0)] w none (d_X2_record w) := by
  generalize hT : d_X2_record w = u
  unfold d_X2_record at hT
  refine zM_of zy_X2_record.2.2.2.2.2.2.2 hg ⟨Nat.le_of_ble_eq_true rfl, by decide⟩ rfl (fun k ok hE hI => ?_)
  have old := hE.old
  refine z_aload_n ok dX2_record_0 0 rfl ?_
  refine z_get_X2_stateCount ok dX2_record_1 hN zw_209 ?_
  refine z_aload_n ok dX2_record_4 0 rfl ?_
  refine z_get_X2_states ok dX2_record_5 hN zw_208 ?_
  refine z_alen ok dX2_record_8 1 (by omega) (zE_1 G w) (t := 2) (ty := .object RX1) (x := 5) rfl rfl ?_
  replace hT := zlet_open hT
  obtain ⟨w1, hw1, hT⟩ := hT
  have hsw1 := hw1.symm
  have hJw1 : zZ k G N w1 74 [(0, .ref (zad G 0))] [] := by
    refine z_aload_n ok dX2_record_74 0 rfl ?_
    refine z_get_X2_stateCount ok dX2_record_75 hN zw_209 ?_
    refine z_if_lt ok dX2_record_78 119 (by decide) (fun c2 => ?_) (fun c2 => ?_)
    · rw [if_pos c2] at hT
      exact z_vret ok hE dX2_record_119 hT
    · rw [if_neg c2] at hT
      refine z_aload_n ok dX2_record_81 0 rfl ?_
      refine z_get_X2_stateCount ok dX2_record_82 hN zw_209 ?_
      refine z_aload_n ok dX2_record_85 0 rfl ?_
      refine z_get_X2_states ok dX2_record_86 hN zw_208 ?_
      refine z_alen ok dX2_record_89 1 (by omega) (zE_1 G w1) (t := 2) (ty := .object RX1) (x := 5) rfl rfl ?_
      refine z_icmp_ge ok dX2_record_90 119 (by decide) (fun c3 => ?_) (fun c3 => ?_)
      · rw [if_pos c3] at hT
        exact z_vret ok hE dX2_record_119 hT
      · rw [if_neg c3] at hT
        refine z_aload_n ok dX2_record_93 0 rfl ?_
        refine z_get_X2_states ok dX2_record_94 hN zw_208 ?_
        refine z_aload_n ok dX2_record_97 0 rfl ?_
        refine z_get_X2_stateCount ok dX2_record_98 hN zw_209 ?_
        refine z_aald ok dX2_record_101 (by omega) ((xg w1 10 0)).toNatClampNeg (zidx5 (by assumption) (by assumption)).1 (zidx5 (by assumption) (by assumption)).2 ?_
        refine z_aload_n ok dX2_record_102 0 rfl ?_
        refine z_get_X2_game ok dX2_record_103 hN zw_206 ?_
        refine z_callVNv ok old dX2_record_106 [] (c_X1_copyFrom G N hN hg w1 (zpg w1 ((xg w1 10 0)).toNatClampNeg) (zpg_lt _ _) 0 (by decide)) zy_X1_copyFrom zw_240 (5 + 6 * (zpg w1 ((xg w1 10 0)).toNatClampNeg)) (zg_lt hN (zpg_lt _ _)) (zE_game G w1 (zpg_lt _ _)) rfl rfl rfl rfl rfl (by decide) (Nat.le_of_ble_eq_true rfl) ?_
        replace hT := zlet_open hT
        obtain ⟨w4, hw4, hT⟩ := hT
        rw [← hw4]
        refine z_aload_n ok dX2_record_109 0 rfl ?_
        refine z_dup ok dX2_record_110 rfl ?_
        refine z_get_X2_stateCount ok dX2_record_111 hN zw_209 ?_
        refine z_iconst ok dX2_record_114 (x := 1) (by decide) ?_
        refine z_iadd ok dX2_record_115 ?_
        refine z_put_X2_stateCount ok dX2_record_116 hN zw_209 ?_
        replace hT := zlet_open hT
        obtain ⟨w5, hw5, hT⟩ := hT
        rw [← hw5]
        exact z_vret ok hE dX2_record_119 hT
  refine z_icmp_lt ok dX2_record_9 74 (by decide) (fun c6 => ?_) (fun c6 => ?_)
  · rw [if_pos c6] at hsw1
    rw [← hsw1] at hJw1
    refine z_locs [0] (lv' := [(0, .ref (zad G 0))]) rfl ?_
    exact hJw1
  · rw [if_neg c6] at hsw1
    refine z_aload_n ok dX2_record_12 0 rfl ?_
    refine z_get_X2_states ok dX2_record_13 hN zw_208 ?_
    refine z_iconst ok dX2_record_16 (x := 0) (by decide) ?_
    refine z_aald ok dX2_record_17 (by omega) 0 rfl (by omega) ?_
    refine z_astore_n ok dX2_record_18 (hI 1 (by decide)) (lv' := [(1, .ref (zad G (5 + 6 * (zpg w 0)))), (0, .ref (zad G 0))]) rfl ?_
    refine z_iconst ok dX2_record_19 (x := 1) (by decide) ?_
    refine z_istore_n ok dX2_record_20 (hI 2 (by decide)) (lv' := [(2, .int 1), (1, .ref (zad G (5 + 6 * (zpg w 0)))), (0, .ref (zad G 0))]) rfl ?_
    refine z_locs [2, 1, 0] (lv' := [(0, .ref (zad G 0)), (1, .ref (zad G (5 + 6 * (zpg w 0)))), (2, .int 1)]) rfl ?_
    obtain ⟨kt7, hkt7⟩ : ∃ z, z = (d_X2_record_21k w) := ⟨_, rfl⟩
    rw [← hkt7] at hsw1
    have hk7 : ∀ (e7_2 : Nat) (ew7 : xW), e7_2 ≤ 5 → 1 ≤ e7_2 → kt7 e7_2 ew7 = w1 → zZ k G N ew7 50 [(0, .ref (zad G 0)), (1, .ref (zad G (5 + 6 * (zpg w 0)))), (2, .int (nI e7_2))] [] := by
      intro e7_2 ew7 q7_0 q7_1 hT7
      rw [hkt7, d_X2_record_21k] at hT7
      refine z_aload_n ok dX2_record_50 0 rfl ?_
      refine z_get_X2_states ok dX2_record_51 hN zw_208 ?_
      refine z_aload_n ok dX2_record_54 0 rfl ?_
      refine z_get_X2_states ok dX2_record_55 hN zw_208 ?_
      refine z_alen ok dX2_record_58 1 (by omega) (zE_1 G ew7) (t := 2) (ty := .object RX1) (x := 5) rfl rfl ?_
      refine z_iconst ok dX2_record_59 (x := 1) (by decide) ?_
      refine z_isub_n ok dX2_record_60 5 1 rfl rfl (by omega) ?_
      refine z_aload_n ok dX2_record_61 1 rfl ?_
      refine z_aast ok dX2_record_62 (by omega) (zpg w 0) (zpg_lt _ _) (zg_lt hN (zpg_lt _ _)) (5 - 1) rfl (by omega) ?_
      replace hT7 := zlet_open hT7
      obtain ⟨w8, hw8, hT7⟩ := hT7
      rw [← hw8]
      refine z_aload_n ok dX2_record_63 0 rfl ?_
      refine z_aload_n ok dX2_record_64 0 rfl ?_
      refine z_get_X2_states ok dX2_record_65 hN zw_208 ?_
      refine z_alen ok dX2_record_68 1 (by omega) (zE_1 G w8) (t := 2) (ty := .object RX1) (x := 5) rfl rfl ?_
      refine z_iconst ok dX2_record_69 (x := 1) (by decide) ?_
      refine z_isub_n ok dX2_record_70 5 1 rfl rfl (by omega) ?_
      refine z_put_X2_stateCount ok dX2_record_71 hN zw_209 ?_
      replace hT7 := zlet_open hT7
      obtain ⟨w9, hw9, hT7⟩ := hT7
      rw [← hw9]
      rw [← hT7] at hJw1
      refine z_locs [0] (lv' := [(0, .ref (zad G 0))]) rfl ?_
      exact hJw1
    have hl7 : ∀ (n7 : Nat) (v7_2 : Nat) (vw7 : xW), 5 < v7_2 + n7 → v7_2 ≤ 5 → 1 ≤ v7_2 → d_X2_record_21  kt7 n7 v7_2 vw7 = w1 → zZ k G N vw7 21 [(0, .ref (zad G 0)), (1, .ref (zad G (5 + 6 * (zpg w 0)))), (2, .int (nI v7_2))] [] := by
      intro n7
      induction n7 with
      | zero =>
        intro v7_2 vw7 q7_0 q7_1 q7_2
        exact absurd q7_0 (by omega)
      | succ n7 ih7 =>
        intro v7_2 vw7 q7_0 q7_1 q7_2 hT7
        rw [d_X2_record_21] at hT7
        refine z_iload_n ok dX2_record_21 2 rfl ?_
        refine z_aload_n ok dX2_record_22 0 rfl ?_
        refine z_get_X2_states ok dX2_record_23 hN zw_208 ?_
        refine z_alen ok dX2_record_26 1 (by omega) (zE_1 G vw7) (t := 2) (ty := .object RX1) (x := 5) rfl rfl ?_
        refine z_icmp_ge_n ok dX2_record_27 50 (by decide) v7_2 5 rfl rfl (by omega) (fun c10 => ?_) (fun c10 => ?_)
        · rw [if_pos c10] at hT7
          refine z_locs [0, 1, 2] (lv' := [(0, .ref (zad G 0)), (1, .ref (zad G (5 + 6 * (zpg w 0)))), (2, .int (nI v7_2))]) rfl ?_
          exact hk7 v7_2 vw7 (by omega) (by first | assumption | omega) hT7
        · rw [if_neg c10] at hT7
          refine z_aload_n ok dX2_record_30 0 rfl ?_
          refine z_get_X2_states ok dX2_record_31 hN zw_208 ?_
          refine z_iload_n ok dX2_record_34 2 rfl ?_
          refine z_iconst ok dX2_record_35 (x := 1) (by decide) ?_
          refine z_isub_n ok dX2_record_36 v7_2 1 rfl rfl (by omega) ?_
          refine z_aload_n ok dX2_record_37 0 rfl ?_
          refine z_get_X2_states ok dX2_record_38 hN zw_208 ?_
          refine z_iload_n ok dX2_record_41 2 rfl ?_
          refine z_aald ok dX2_record_42 (by omega) v7_2 rfl (by omega) ?_
          refine z_aast ok dX2_record_43 (by omega) (zpg vw7 v7_2) (zpg_lt _ _) (zg_lt hN (zpg_lt _ _)) (v7_2 - 1) rfl (by omega) ?_
          replace hT7 := zlet_open hT7
          obtain ⟨w11, hw11, hT7⟩ := hT7
          rw [← hw11]
          refine z_iinc ok dX2_record_44 (hI 2 (by decide)) 2 rfl (y := (nI (v7_2 + 1))) (z_incn v7_2 1) (lv' := [(2, .int (nI (v7_2 + 1))), (0, .ref (zad G 0)), (1, .ref (zad G (5 + 6 * (zpg w 0))))]) rfl ?_
          refine z_goto ok dX2_record_47 21 (by decide) ?_
          refine z_locs [1, 2, 0] (lv' := [(0, .ref (zad G 0)), (1, .ref (zad G (5 + 6 * (zpg w 0)))), (2, .int (nI (v7_2 + 1)))]) rfl ?_
          exact ih7 (v7_2 + 1) w11 (by omega) (by omega) (by first | assumption | omega) hT7
    exact hl7 6 1 w (by omega) (by omega) (by first | assumption | omega) hsw1

def d_X2_setUp (w : xW)  : Int32 × xW :=
  zlet (d_X2_record w) fun w1 =>
  zlet (d_X1_begin w1 0) fun w2 =>
  ((d_X0_springsInAll w2 0), w2)
set_option maxRecDepth 100000 in
set_option maxHeartbeats 4000000 in
theorem c_X2_setUp (G : zG) (N : Nat) (hN : 47 ≤ N) (hg : zGeo G N) (w : xW) : zM yX2_setUp cX2_setUp 1 (some .int) 5 124 G N [.ref (zad G 0)] w (some (d_X2_setUp w).1) (d_X2_setUp w).2 := by
  obtain ⟨r, u, hT⟩ : ∃ r u, d_X2_setUp w = (r, u) := ⟨_, _, rfl⟩
  rw [hT]
  dsimp only
  unfold d_X2_setUp at hT
  refine zM_of zy_X2_setUp.2.2.2.2.2.2.2 hg ⟨Nat.le_of_ble_eq_true rfl, by decide⟩ rfl (fun k ok hE hI => ?_)
  have old := hE.old
  refine z_aload_n ok dX2_setUp_0 0 rfl ?_
  refine z_callVv ok old dX2_setUp_1 [] (c_X2_record G N hN hg w ) zy_X2_record zw_236 0 (by omega) (zE_0 G w) rfl rfl rfl rfl rfl (by decide) (Nat.le_of_ble_eq_true rfl) ?_
  replace hT := zlet_open hT
  obtain ⟨w1, hw1, hT⟩ := hT
  rw [← hw1]
  refine z_aload_n ok dX2_setUp_4 0 rfl ?_
  refine z_get_X2_game ok dX2_setUp_5 hN zw_206 ?_
  refine z_callVNv ok old dX2_setUp_8 [] (c_X1_begin G N hN hg w1 0 (by decide)) zy_X1_begin zw_171 (5 + 6 * 0) (zg_lt hN (by decide)) (zE_game G w1 (by decide)) rfl rfl rfl rfl rfl (by decide) (Nat.le_of_ble_eq_true rfl) ?_
  replace hT := zlet_open hT
  obtain ⟨w2, hw2, hT⟩ := hT
  rw [← hw2]
  refine z_aload_n ok dX2_setUp_11 0 rfl ?_
  refine z_get_X2_game ok dX2_setUp_12 hN zw_206 ?_
  refine z_getN_X1_board ok dX2_setUp_15 0 (by decide) hN zw_119 ?_
  refine z_callVNi ok old dX2_setUp_18 [] (c_X0_springsInAll G N hN hg w2 0 (by decide)) zy_X0_springsInAll zw_251 (6 + 6 * 0) (zg_lt' hN (by decide)) (zE_board G w2 (by decide)) rfl rfl rfl rfl rfl (by decide) (Nat.le_of_ble_eq_true rfl) ?_
  exact z_iret ok hE dX2_setUp_21 rfl ⟨congrArg Prod.fst hT, congrArg Prod.snd hT⟩

def d_X2_set (w : xW) (what : Int32) (value : Int32) : Int32 × xW :=
  if (d_X2_isSetting w what value) = 0 then (((-1), w))
  else (zlet (d_X2_record w) fun w2 =>
  zlet ((d_X1_setting w2 0 what)) fun x3 =>
  zlet (d_X1_changeSetting w2 0 what value) fun w4 =>
  (x3, w4))
set_option maxRecDepth 100000 in
set_option maxHeartbeats 4000000 in
theorem c_X2_set (G : zG) (N : Nat) (hN : 47 ≤ N) (hg : zGeo G N) (w : xW) (what : Int32) (value : Int32) : zM yX2_set cX2_set 4 (some .int) 4 124 G N [.ref (zad G 0), .int what, .int value] w (some (d_X2_set w what value).1) (d_X2_set w what value).2 := by
  obtain ⟨r, u, hT⟩ : ∃ r u, d_X2_set w what value = (r, u) := ⟨_, _, rfl⟩
  rw [hT]
  dsimp only
  unfold d_X2_set at hT
  refine zM_of zy_X2_set.2.2.2.2.2.2.2 hg ⟨Nat.le_of_ble_eq_true rfl, by decide⟩ rfl (fun k ok hE hI => ?_)
  have old := hE.old
  refine z_iload_n ok dX2_set_0 1 rfl ?_
  refine z_iload_n ok dX2_set_1 2 rfl ?_
  refine z_callSi ok old dX2_set_2 [] (c_X2_isSetting G N hN hg w what value) zy_X2_isSetting zw_256 rfl rfl (by decide) (Nat.le_of_ble_eq_true rfl) ?_
  refine z_if_ne ok dX2_set_5 10 (by decide) (fun c1 => ?_) (fun c1 => ?_)
  · rw [if_neg c1] at hT
    refine z_aload_n ok dX2_set_10 0 rfl ?_
    refine z_callVv ok old dX2_set_11 [] (c_X2_record G N hN hg w ) zy_X2_record zw_236 0 (by omega) (zE_0 G w) rfl rfl rfl rfl rfl (by decide) (Nat.le_of_ble_eq_true rfl) ?_
    replace hT := zlet_open hT
    obtain ⟨w2, hw2, hT⟩ := hT
    rw [← hw2]
    refine z_aload_n ok dX2_set_14 0 rfl ?_
    refine z_get_X2_game ok dX2_set_15 hN zw_206 ?_
    refine z_iload_n ok dX2_set_18 1 rfl ?_
    refine z_callVNi ok old dX2_set_19 [] (c_X1_setting G N hN hg w2 0 (by decide) what) zy_X1_setting zw_259 (5 + 6 * 0) (zg_lt hN (by decide)) (zE_game G w2 (by decide)) rfl rfl rfl rfl rfl (by decide) (Nat.le_of_ble_eq_true rfl) ?_
    replace hT := zlet_open hT
    obtain ⟨x3, hx3, hT⟩ := hT
    rw [← hx3]
    refine z_istore_n ok dX2_set_22 (hI 3 (by decide)) (lv' := [(3, .int x3), (0, .ref (zad G 0)), (1, .int what), (2, .int value)]) rfl ?_
    refine z_aload_n ok dX2_set_23 1 rfl ?_
    refine z_get_X2_game ok dX2_set_24 hN zw_206 ?_
    refine z_iload_n ok dX2_set_27 2 rfl ?_
    refine z_iload_n ok dX2_set_28 3 rfl ?_
    refine z_callVNv ok old dX2_set_29 [] (c_X1_changeSetting G N hN hg w2 0 (by decide) what value) zy_X1_changeSetting zw_263 (5 + 6 * 0) (zg_lt hN (by decide)) (zE_game G w2 (by decide)) rfl rfl rfl rfl rfl (by decide) (Nat.le_of_ble_eq_true rfl) ?_
    replace hT := zlet_open hT
    obtain ⟨w4, hw4, hT⟩ := hT
    rw [← hw4]
    refine z_iload_n ok dX2_set_32 0 rfl ?_
    exact z_iret ok hE dX2_set_33 rfl ⟨congrArg Prod.fst hT, congrArg Prod.snd hT⟩
  · rw [if_pos c1] at hT
    refine z_iconst ok dX2_set_8 (x := (-1)) (by decide) ?_
    exact z_iret ok hE dX2_set_9 rfl ⟨congrArg Prod.fst hT, congrArg Prod.snd hT⟩

def d_X2_put (w : xW) (cell : Int32) (side : Int32) (kind : Int32) (spring : Int32) : Int32 × xW :=
  zlet (if (d_X2_isSide w side) = 0 then (if side = (-1) then (1)
  else (0))
  else (1) : Int32) fun x1 =>
  zlet (if kind < 0 then (0)
  else (if 4 < kind then (0)
  else (1)) : Int32) fun x2 =>
  zlet (if spring < 0 then (0)
  else (if (xg w 0 149) < spring then (0)
  else (1)) : Int32) fun x3 =>
  if (d_X2_isCell w cell) = 0 then (((-1), w))
  else (if x1 = 0 then (((-1), w))
  else (if x2 = 0 then (((-1), w))
  else (if x3 = 0 then (((-1), w))
  else (zlet cell.toNatClampNeg fun c_cell =>
  if (d_X1_isOver w 0) = 0 then (zlet (d_X2_record w) fun w9 =>
  zlet ((d_X0_hasPiece w9 0 c_cell)) fun x10 =>
  zlet (d_X1_putInstead w9 0 c_cell side kind spring) fun w11 =>
  if x10 = 0 then ((0, w11))
  else ((1, w11)))
  else (((-2), w))))))
set_option maxRecDepth 100000 in
set_option maxHeartbeats 4000000 in
theorem c_X2_put (G : zG) (N : Nat) (hN : 47 ≤ N) (hg : zGeo G N) (w : xW) (cell : Int32) (side : Int32) (kind : Int32) (spring : Int32) : zM yX2_put cX2_put 9 (some .int) 4 124 G N [.ref (zad G 0), .int cell, .int side, .int kind, .int spring] w (some (d_X2_put w cell side kind spring).1) (d_X2_put w cell side kind spring).2 := by
  obtain ⟨r, u, hT⟩ : ∃ r u, d_X2_put w cell side kind spring = (r, u) := ⟨_, _, rfl⟩
  rw [hT]
  dsimp only
  unfold d_X2_put at hT
  refine zM_of zy_X2_put.2.2.2.2.2.2.2 hg ⟨Nat.le_of_ble_eq_true rfl, by decide⟩ rfl (fun k ok hE hI => ?_)
  have old := hE.old
  refine z_iload_n ok dX2_put_0 2 rfl ?_
  refine z_callSi ok old dX2_put_1 [] (c_X2_isSide G N hN hg w side) zy_X2_isSide zw_283 rfl rfl (by decide) (Nat.le_of_ble_eq_true rfl) ?_
  replace hT := zlet_open hT
  obtain ⟨x1, hx1, hT⟩ := hT
  have hsx1 := hx1.symm
  have hJx1 : zZ k G N w 17 [(0, .ref (zad G 0)), (1, .int cell), (2, .int side), (3, .int kind), (4, .int spring)] [.int x1] := by
    refine z_istore ok dX2_put_17 (hI 5 (by decide)) (lv' := [(5, .int x1), (0, .ref (zad G 0)), (1, .int cell), (2, .int side), (3, .int kind), (4, .int spring)]) rfl ?_
    refine z_iload_n ok dX2_put_19 4 rfl ?_
    replace hT := zlet_open hT
    obtain ⟨x2, hx2, hT⟩ := hT
    have hsx2 := hx2.symm
    have hJx2 : zZ k G N w 33 [(0, .ref (zad G 0)), (1, .int cell), (2, .int side), (3, .int kind), (4, .int spring), (5, .int x1)] [.int x2] := by
      refine z_istore ok dX2_put_33 (hI 6 (by decide)) (lv' := [(6, .int x2), (0, .ref (zad G 0)), (1, .int cell), (2, .int side), (3, .int kind), (4, .int spring), (5, .int x1)]) rfl ?_
      refine z_iload ok dX2_put_35 5 rfl ?_
      replace hT := zlet_open hT
      obtain ⟨x3, hx3, hT⟩ := hT
      have hsx3 := hx3.symm
      have hJx3 : zZ k G N w 57 [(0, .ref (zad G 0)), (1, .int cell), (2, .int side), (3, .int kind), (4, .int spring), (5, .int x1), (6, .int x2)] [.int x3] := by
        refine z_istore ok dX2_put_57 (hI 7 (by decide)) (lv' := [(7, .int x3), (0, .ref (zad G 0)), (1, .int cell), (2, .int side), (3, .int kind), (4, .int spring), (5, .int x1), (6, .int x2)]) rfl ?_
        refine z_iload_n ok dX2_put_59 2 rfl ?_
        refine z_callSi ok old dX2_put_60 [] (c_X2_isCell G N hN hg w cell) zy_X2_isCell zw_286 rfl rfl (by decide) (Nat.le_of_ble_eq_true rfl) ?_
        refine z_if_eq ok dX2_put_63 81 (by decide) (fun c4 => ?_) (fun c4 => ?_)
        · rw [if_pos c4] at hT
          refine z_iconst ok dX2_put_81 (x := (-1)) (by decide) ?_
          exact z_iret ok hE dX2_put_82 rfl ⟨congrArg Prod.fst hT, congrArg Prod.snd hT⟩
        · rw [if_neg c4] at hT
          refine z_iload ok dX2_put_66 6 rfl ?_
          refine z_if_eq ok dX2_put_68 81 (by decide) (fun c5 => ?_) (fun c5 => ?_)
          · rw [if_pos c5] at hT
            refine z_iconst ok dX2_put_81 (x := (-1)) (by decide) ?_
            exact z_iret ok hE dX2_put_82 rfl ⟨congrArg Prod.fst hT, congrArg Prod.snd hT⟩
          · rw [if_neg c5] at hT
            refine z_iload ok dX2_put_71 7 rfl ?_
            refine z_if_eq ok dX2_put_73 81 (by decide) (fun c6 => ?_) (fun c6 => ?_)
            · rw [if_pos c6] at hT
              refine z_iconst ok dX2_put_81 (x := (-1)) (by decide) ?_
              exact z_iret ok hE dX2_put_82 rfl ⟨congrArg Prod.fst hT, congrArg Prod.snd hT⟩
            · rw [if_neg c6] at hT
              refine z_iload ok dX2_put_76 0 rfl ?_
              refine z_if_ne ok dX2_put_78 83 (by decide) (fun c7 => ?_) (fun c7 => ?_)
              · rw [if_neg c7] at hT
                replace hT := zlet_open hT
                obtain ⟨c_cell, hc_cell, hT⟩ := hT
                obtain ⟨lc_cell, ec_cell⟩ := zcellx (zisCell (by assumption)) hc_cell
                subst ec_cell
                refine z_aload_n ok dX2_put_83 1 rfl ?_
                refine z_get_X2_game ok dX2_put_84 hN zw_206 ?_
                refine z_callVNi ok old dX2_put_87 [] (c_X1_isOver G N hN hg w 0 (by decide)) zy_X1_isOver zw_287 (5 + 6 * 0) (zg_lt hN (by decide)) (zE_game G w (by decide)) rfl rfl rfl rfl rfl (by decide) (Nat.le_of_ble_eq_true rfl) ?_
                refine z_if_eq ok dX2_put_90 96 (by decide) (fun c8 => ?_) (fun c8 => ?_)
                · rw [if_pos c8] at hT
                  refine z_aload_n ok dX2_put_96 1 rfl ?_
                  refine z_callVv ok old dX2_put_97 [] (c_X2_record G N hN hg w ) zy_X2_record zw_236 0 (by omega) (zE_0 G w) rfl rfl rfl rfl rfl (by decide) (Nat.le_of_ble_eq_true rfl) ?_
                  replace hT := zlet_open hT
                  obtain ⟨w9, hw9, hT⟩ := hT
                  rw [← hw9]
                  refine z_aload_n ok dX2_put_100 1 rfl ?_
                  refine z_get_X2_game ok dX2_put_101 hN zw_206 ?_
                  refine z_getN_X1_board ok dX2_put_104 0 (by decide) hN zw_119 ?_
                  refine z_iload_n ok dX2_put_107 2 rfl ?_
                  refine z_callVNi ok old dX2_put_108 [] (c_X0_hasPiece G N hN hg w9 0 (by decide) c_cell (by omega)) zy_X0_hasPiece zw_291 (6 + 6 * 0) (zg_lt' hN (by decide)) (zE_board G w9 (by decide)) rfl rfl rfl rfl rfl (by decide) (Nat.le_of_ble_eq_true rfl) ?_
                  replace hT := zlet_open hT
                  obtain ⟨x10, hx10, hT⟩ := hT
                  rw [← hx10]
                  refine z_istore ok dX2_put_111 (hI 8 (by decide)) (lv' := [(8, .int x10), (7, .int x3), (0, .ref (zad G 0)), (1, .int (nI c_cell)), (2, .int side), (3, .int kind), (4, .int spring), (5, .int x1), (6, .int x2)]) rfl ?_
                  refine z_aload_n ok dX2_put_113 2 rfl ?_
                  refine z_get_X2_game ok dX2_put_114 hN zw_206 ?_
                  refine z_iload_n ok dX2_put_117 3 rfl ?_
                  refine z_iload_n ok dX2_put_118 4 rfl ?_
                  refine z_iload_n ok dX2_put_119 5 rfl ?_
                  refine z_iload ok dX2_put_120 6 rfl ?_
                  refine z_callVNv ok old dX2_put_122 [] (c_X1_putInstead G N hN hg w9 0 (by decide) c_cell (by omega) side kind spring) zy_X1_putInstead zw_299 (5 + 6 * 0) (zg_lt hN (by decide)) (zE_game G w9 (by decide)) rfl rfl rfl rfl rfl (by decide) (Nat.le_of_ble_eq_true rfl) ?_
                  replace hT := zlet_open hT
                  obtain ⟨w11, hw11, hT⟩ := hT
                  rw [← hw11]
                  refine z_iload ok dX2_put_125 0 rfl ?_
                  refine z_if_eq ok dX2_put_127 134 (by decide) (fun c12 => ?_) (fun c12 => ?_)
                  · rw [if_pos c12] at hT
                    refine z_iconst ok dX2_put_134 (x := 0) (by decide) ?_
                    exact z_iret ok hE dX2_put_135 rfl ⟨congrArg Prod.fst hT, congrArg Prod.snd hT⟩
                  · rw [if_neg c12] at hT
                    refine z_iconst ok dX2_put_130 (x := 1) (by decide) ?_
                    refine z_goto ok dX2_put_131 135 (by decide) ?_
                    exact z_iret ok hE dX2_put_135 rfl ⟨congrArg Prod.fst hT, congrArg Prod.snd hT⟩
                · rw [if_neg c8] at hT
                  refine z_bipush ok dX2_put_93 (x := (-2)) (by decide) ?_
                  exact z_iret ok hE dX2_put_95 rfl ⟨congrArg Prod.fst hT, congrArg Prod.snd hT⟩
              · rw [if_pos c7] at hT
                refine z_iconst ok dX2_put_81 (x := (-1)) (by decide) ?_
                exact z_iret ok hE dX2_put_82 rfl ⟨congrArg Prod.fst hT, congrArg Prod.snd hT⟩
      refine z_if_lt ok dX2_put_37 56 (by decide) (fun c13 => ?_) (fun c13 => ?_)
      · rw [if_pos c13] at hsx3
        refine z_iconst ok dX2_put_56 (x := 0) (by decide) ?_
        rw [← hsx3] at hJx3
        refine z_locs [1, 2, 3, 4, 5, 6, 0] (lv' := [(0, .ref (zad G 0)), (1, .int cell), (2, .int side), (3, .int kind), (4, .int spring), (5, .int x1), (6, .int x2)]) rfl ?_
        exact hJx3
      · rw [if_neg c13] at hsx3
        refine z_iload ok dX2_put_40 5 rfl ?_
        refine z_aload_n ok dX2_put_42 1 rfl ?_
        refine z_get_X2_game ok dX2_put_43 hN zw_206 ?_
        refine z_getN_X1_limit ok dX2_put_46 0 (by decide) hN zw_121 ?_
        refine z_icmp_gt ok dX2_put_49 56 (by decide) (fun c14 => ?_) (fun c14 => ?_)
        · rw [if_pos c14] at hsx3
          refine z_iconst ok dX2_put_56 (x := 0) (by decide) ?_
          rw [← hsx3] at hJx3
          refine z_locs [1, 2, 3, 4, 5, 6, 0] (lv' := [(0, .ref (zad G 0)), (1, .int cell), (2, .int side), (3, .int kind), (4, .int spring), (5, .int x1), (6, .int x2)]) rfl ?_
          exact hJx3
        · rw [if_neg c14] at hsx3
          refine z_iconst ok dX2_put_52 (x := 1) (by decide) ?_
          refine z_goto ok dX2_put_53 57 (by decide) ?_
          rw [← hsx3] at hJx3
          refine z_locs [1, 2, 3, 4, 5, 6, 0] (lv' := [(0, .ref (zad G 0)), (1, .int cell), (2, .int side), (3, .int kind), (4, .int spring), (5, .int x1), (6, .int x2)]) rfl ?_
          exact hJx3
    refine z_if_lt ok dX2_put_20 32 (by decide) (fun c15 => ?_) (fun c15 => ?_)
    · rw [if_pos c15] at hsx2
      refine z_iconst ok dX2_put_32 (x := 0) (by decide) ?_
      rw [← hsx2] at hJx2
      refine z_locs [1, 2, 3, 4, 5, 0] (lv' := [(0, .ref (zad G 0)), (1, .int cell), (2, .int side), (3, .int kind), (4, .int spring), (5, .int x1)]) rfl ?_
      exact hJx2
    · rw [if_neg c15] at hsx2
      refine z_iload_n ok dX2_put_23 4 rfl ?_
      refine z_iconst ok dX2_put_24 (x := 4) (by decide) ?_
      refine z_icmp_gt ok dX2_put_25 32 (by decide) (fun c16 => ?_) (fun c16 => ?_)
      · rw [if_pos c16] at hsx2
        refine z_iconst ok dX2_put_32 (x := 0) (by decide) ?_
        rw [← hsx2] at hJx2
        refine z_locs [1, 2, 3, 4, 5, 0] (lv' := [(0, .ref (zad G 0)), (1, .int cell), (2, .int side), (3, .int kind), (4, .int spring), (5, .int x1)]) rfl ?_
        exact hJx2
      · rw [if_neg c16] at hsx2
        refine z_iconst ok dX2_put_28 (x := 1) (by decide) ?_
        refine z_goto ok dX2_put_29 33 (by decide) ?_
        rw [← hsx2] at hJx2
        refine z_locs [1, 2, 3, 4, 5, 0] (lv' := [(0, .ref (zad G 0)), (1, .int cell), (2, .int side), (3, .int kind), (4, .int spring), (5, .int x1)]) rfl ?_
        exact hJx2
  refine z_if_ne ok dX2_put_4 12 (by decide) (fun c17 => ?_) (fun c17 => ?_)
  · rw [if_neg c17] at hsx1
    refine z_iconst ok dX2_put_12 (x := 1) (by decide) ?_
    refine z_goto ok dX2_put_13 17 (by decide) ?_
    rw [← hsx1] at hJx1
    refine z_locs [0, 1, 2, 3, 4] (lv' := [(0, .ref (zad G 0)), (1, .int cell), (2, .int side), (3, .int kind), (4, .int spring)]) rfl ?_
    exact hJx1
  · rw [if_pos c17] at hsx1
    refine z_iload_n ok dX2_put_7 2 rfl ?_
    refine z_iconst ok dX2_put_8 (x := (-1)) (by decide) ?_
    refine z_icmp_ne ok dX2_put_9 16 (by decide) (fun c18 => ?_) (fun c18 => ?_)
    · rw [if_neg c18] at hsx1
      refine z_iconst ok dX2_put_16 (x := 0) (by decide) ?_
      rw [← hsx1] at hJx1
      refine z_locs [0, 1, 2, 3, 4] (lv' := [(0, .ref (zad G 0)), (1, .int cell), (2, .int side), (3, .int kind), (4, .int spring)]) rfl ?_
      exact hJx1
    · rw [if_pos c18] at hsx1
      refine z_iconst ok dX2_put_12 (x := 1) (by decide) ?_
      refine z_goto ok dX2_put_13 17 (by decide) ?_
      rw [← hsx1] at hJx1
      refine z_locs [0, 1, 2, 3, 4] (lv' := [(0, .ref (zad G 0)), (1, .int cell), (2, .int side), (3, .int kind), (4, .int spring)]) rfl ?_
      exact hJx1

def d_X2_tower (w : xW) (cell : Int32) : Int32 × xW :=
  if (d_X2_isCell w cell) = 0 then (((-1), w))
  else (zlet cell.toNatClampNeg fun c_cell =>
  if (d_X0_isTower w 0 c_cell) = 0 then (if (d_X0_towersInAll w 0) < 6 then (zlet (d_X2_record w) fun w8 =>
  if (d_X0_isTower w8 0 c_cell) = 0 then (zlet (d_X0_markTower w8 0 c_cell 1) fun w11 =>
  ((d_X0_towersInAll w11 0), w11))
  else (zlet (d_X0_markTower w8 0 c_cell 0) fun w10 =>
  ((d_X0_towersInAll w10 0), w10)))
  else (((-3), w)))
  else (zlet (d_X2_record w) fun w3 =>
  if (d_X0_isTower w3 0 c_cell) = 0 then (zlet (d_X0_markTower w3 0 c_cell 1) fun w6 =>
  ((d_X0_towersInAll w6 0), w6))
  else (zlet (d_X0_markTower w3 0 c_cell 0) fun w5 =>
  ((d_X0_towersInAll w5 0), w5))))
set_option maxRecDepth 100000 in
set_option maxHeartbeats 4000000 in
theorem c_X2_tower (G : zG) (N : Nat) (hN : 47 ≤ N) (hg : zGeo G N) (w : xW) (cell : Int32) : zM yX2_tower cX2_tower 2 (some .int) 4 124 G N [.ref (zad G 0), .int cell] w (some (d_X2_tower w cell).1) (d_X2_tower w cell).2 := by
  obtain ⟨r, u, hT⟩ : ∃ r u, d_X2_tower w cell = (r, u) := ⟨_, _, rfl⟩
  rw [hT]
  dsimp only
  unfold d_X2_tower at hT
  refine zM_of zy_X2_tower.2.2.2.2.2.2.2 hg ⟨Nat.le_of_ble_eq_true rfl, by decide⟩ rfl (fun k ok hE hI => ?_)
  have old := hE.old
  refine z_iload_n ok dX2_tower_0 1 rfl ?_
  refine z_callSi ok old dX2_tower_1 [] (c_X2_isCell G N hN hg w cell) zy_X2_isCell zw_286 rfl rfl (by decide) (Nat.le_of_ble_eq_true rfl) ?_
  refine z_if_ne ok dX2_tower_4 9 (by decide) (fun c1 => ?_) (fun c1 => ?_)
  · rw [if_neg c1] at hT
    replace hT := zlet_open hT
    obtain ⟨c_cell, hc_cell, hT⟩ := hT
    obtain ⟨lc_cell, ec_cell⟩ := zcellx (zisCell (by assumption)) hc_cell
    subst ec_cell
    refine z_aload_n ok dX2_tower_9 0 rfl ?_
    refine z_get_X2_game ok dX2_tower_10 hN zw_206 ?_
    refine z_getN_X1_board ok dX2_tower_13 0 (by decide) hN zw_119 ?_
    refine z_iload_n ok dX2_tower_16 1 rfl ?_
    refine z_callVNi ok old dX2_tower_17 [] (c_X0_isTower G N hN hg w 0 (by decide) c_cell (by omega)) zy_X0_isTower zw_309 (6 + 6 * 0) (zg_lt' hN (by decide)) (zE_board G w (by decide)) rfl rfl rfl rfl rfl (by decide) (Nat.le_of_ble_eq_true rfl) ?_
    refine z_if_ne ok dX2_tower_20 41 (by decide) (fun c2 => ?_) (fun c2 => ?_)
    · rw [if_neg c2] at hT
      refine z_aload_n ok dX2_tower_41 0 rfl ?_
      refine z_callVv ok old dX2_tower_42 [] (c_X2_record G N hN hg w ) zy_X2_record zw_236 0 (by omega) (zE_0 G w) rfl rfl rfl rfl rfl (by decide) (Nat.le_of_ble_eq_true rfl) ?_
      replace hT := zlet_open hT
      obtain ⟨w3, hw3, hT⟩ := hT
      rw [← hw3]
      refine z_aload_n ok dX2_tower_45 0 rfl ?_
      refine z_get_X2_game ok dX2_tower_46 hN zw_206 ?_
      refine z_getN_X1_board ok dX2_tower_49 0 (by decide) hN zw_119 ?_
      refine z_iload_n ok dX2_tower_52 1 rfl ?_
      refine z_aload_n ok dX2_tower_53 0 rfl ?_
      refine z_get_X2_game ok dX2_tower_54 hN zw_206 ?_
      refine z_getN_X1_board ok dX2_tower_57 0 (by decide) hN zw_119 ?_
      refine z_iload_n ok dX2_tower_60 1 rfl ?_
      refine z_callVNi ok old dX2_tower_61 [.int (nI c_cell), .ref (zad G (6 + 6 * 0))] (c_X0_isTower G N hN hg w3 0 (by decide) c_cell (by omega)) zy_X0_isTower zw_309 (6 + 6 * 0) (zg_lt' hN (by decide)) (zE_board G w3 (by decide)) rfl rfl rfl rfl rfl (by decide) (Nat.le_of_ble_eq_true rfl) ?_
      refine z_if_ne ok dX2_tower_64 71 (by decide) (fun c4 => ?_) (fun c4 => ?_)
      · rw [if_neg c4] at hT
        refine z_iconst ok dX2_tower_71 (x := 0) (by decide) ?_
        refine z_callVNv ok old dX2_tower_72 [] (c_X0_markTower G N hN hg w3 0 (by decide) c_cell (by omega) 0) zy_X0_markTower zw_317 (6 + 6 * 0) (zg_lt' hN (by decide)) (zE_board G w3 (by decide)) rfl rfl rfl rfl rfl (by decide) (Nat.le_of_ble_eq_true rfl) ?_
        replace hT := zlet_open hT
        obtain ⟨w5, hw5, hT⟩ := hT
        rw [← hw5]
        refine z_aload_n ok dX2_tower_75 0 rfl ?_
        refine z_get_X2_game ok dX2_tower_76 hN zw_206 ?_
        refine z_getN_X1_board ok dX2_tower_79 0 (by decide) hN zw_119 ?_
        refine z_callVNi ok old dX2_tower_82 [] (c_X0_towersInAll G N hN hg w5 0 (by decide)) zy_X0_towersInAll zw_313 (6 + 6 * 0) (zg_lt' hN (by decide)) (zE_board G w5 (by decide)) rfl rfl rfl rfl rfl (by decide) (Nat.le_of_ble_eq_true rfl) ?_
        exact z_iret ok hE dX2_tower_85 rfl ⟨congrArg Prod.fst hT, congrArg Prod.snd hT⟩
      · rw [if_pos c4] at hT
        refine z_iconst ok dX2_tower_67 (x := 1) (by decide) ?_
        refine z_goto ok dX2_tower_68 72 (by decide) ?_
        refine z_callVNv ok old dX2_tower_72 [] (c_X0_markTower G N hN hg w3 0 (by decide) c_cell (by omega) 1) zy_X0_markTower zw_317 (6 + 6 * 0) (zg_lt' hN (by decide)) (zE_board G w3 (by decide)) rfl rfl rfl rfl rfl (by decide) (Nat.le_of_ble_eq_true rfl) ?_
        replace hT := zlet_open hT
        obtain ⟨w6, hw6, hT⟩ := hT
        rw [← hw6]
        refine z_aload_n ok dX2_tower_75 0 rfl ?_
        refine z_get_X2_game ok dX2_tower_76 hN zw_206 ?_
        refine z_getN_X1_board ok dX2_tower_79 0 (by decide) hN zw_119 ?_
        refine z_callVNi ok old dX2_tower_82 [] (c_X0_towersInAll G N hN hg w6 0 (by decide)) zy_X0_towersInAll zw_313 (6 + 6 * 0) (zg_lt' hN (by decide)) (zE_board G w6 (by decide)) rfl rfl rfl rfl rfl (by decide) (Nat.le_of_ble_eq_true rfl) ?_
        exact z_iret ok hE dX2_tower_85 rfl ⟨congrArg Prod.fst hT, congrArg Prod.snd hT⟩
    · rw [if_pos c2] at hT
      refine z_aload_n ok dX2_tower_23 0 rfl ?_
      refine z_get_X2_game ok dX2_tower_24 hN zw_206 ?_
      refine z_getN_X1_board ok dX2_tower_27 0 (by decide) hN zw_119 ?_
      refine z_callVNi ok old dX2_tower_30 [] (c_X0_towersInAll G N hN hg w 0 (by decide)) zy_X0_towersInAll zw_313 (6 + 6 * 0) (zg_lt' hN (by decide)) (zE_board G w (by decide)) rfl rfl rfl rfl rfl (by decide) (Nat.le_of_ble_eq_true rfl) ?_
      refine z_bipush ok dX2_tower_33 (x := 6) (by decide) ?_
      refine z_icmp_lt ok dX2_tower_35 41 (by decide) (fun c7 => ?_) (fun c7 => ?_)
      · rw [if_pos c7] at hT
        refine z_aload_n ok dX2_tower_41 0 rfl ?_
        refine z_callVv ok old dX2_tower_42 [] (c_X2_record G N hN hg w ) zy_X2_record zw_236 0 (by omega) (zE_0 G w) rfl rfl rfl rfl rfl (by decide) (Nat.le_of_ble_eq_true rfl) ?_
        replace hT := zlet_open hT
        obtain ⟨w8, hw8, hT⟩ := hT
        rw [← hw8]
        refine z_aload_n ok dX2_tower_45 0 rfl ?_
        refine z_get_X2_game ok dX2_tower_46 hN zw_206 ?_
        refine z_getN_X1_board ok dX2_tower_49 0 (by decide) hN zw_119 ?_
        refine z_iload_n ok dX2_tower_52 1 rfl ?_
        refine z_aload_n ok dX2_tower_53 0 rfl ?_
        refine z_get_X2_game ok dX2_tower_54 hN zw_206 ?_
        refine z_getN_X1_board ok dX2_tower_57 0 (by decide) hN zw_119 ?_
        refine z_iload_n ok dX2_tower_60 1 rfl ?_
        refine z_callVNi ok old dX2_tower_61 [.int (nI c_cell), .ref (zad G (6 + 6 * 0))] (c_X0_isTower G N hN hg w8 0 (by decide) c_cell (by omega)) zy_X0_isTower zw_309 (6 + 6 * 0) (zg_lt' hN (by decide)) (zE_board G w8 (by decide)) rfl rfl rfl rfl rfl (by decide) (Nat.le_of_ble_eq_true rfl) ?_
        refine z_if_ne ok dX2_tower_64 71 (by decide) (fun c9 => ?_) (fun c9 => ?_)
        · rw [if_neg c9] at hT
          refine z_iconst ok dX2_tower_71 (x := 0) (by decide) ?_
          refine z_callVNv ok old dX2_tower_72 [] (c_X0_markTower G N hN hg w8 0 (by decide) c_cell (by omega) 0) zy_X0_markTower zw_317 (6 + 6 * 0) (zg_lt' hN (by decide)) (zE_board G w8 (by decide)) rfl rfl rfl rfl rfl (by decide) (Nat.le_of_ble_eq_true rfl) ?_
          replace hT := zlet_open hT
          obtain ⟨w10, hw10, hT⟩ := hT
          rw [← hw10]
          refine z_aload_n ok dX2_tower_75 0 rfl ?_
          refine z_get_X2_game ok dX2_tower_76 hN zw_206 ?_
          refine z_getN_X1_board ok dX2_tower_79 0 (by decide) hN zw_119 ?_
          refine z_callVNi ok old dX2_tower_82 [] (c_X0_towersInAll G N hN hg w10 0 (by decide)) zy_X0_towersInAll zw_313 (6 + 6 * 0) (zg_lt' hN (by decide)) (zE_board G w10 (by decide)) rfl rfl rfl rfl rfl (by decide) (Nat.le_of_ble_eq_true rfl) ?_
          exact z_iret ok hE dX2_tower_85 rfl ⟨congrArg Prod.fst hT, congrArg Prod.snd hT⟩
        · rw [if_pos c9] at hT
          refine z_iconst ok dX2_tower_67 (x := 1) (by decide) ?_
          refine z_goto ok dX2_tower_68 72 (by decide) ?_
          refine z_callVNv ok old dX2_tower_72 [] (c_X0_markTower G N hN hg w8 0 (by decide) c_cell (by omega) 1) zy_X0_markTower zw_317 (6 + 6 * 0) (zg_lt' hN (by decide)) (zE_board G w8 (by decide)) rfl rfl rfl rfl rfl (by decide) (Nat.le_of_ble_eq_true rfl) ?_
          replace hT := zlet_open hT
          obtain ⟨w11, hw11, hT⟩ := hT
          rw [← hw11]
          refine z_aload_n ok dX2_tower_75 0 rfl ?_
          refine z_get_X2_game ok dX2_tower_76 hN zw_206 ?_
          refine z_getN_X1_board ok dX2_tower_79 0 (by decide) hN zw_119 ?_
          refine z_callVNi ok old dX2_tower_82 [] (c_X0_towersInAll G N hN hg w11 0 (by decide)) zy_X0_towersInAll zw_313 (6 + 6 * 0) (zg_lt' hN (by decide)) (zE_board G w11 (by decide)) rfl rfl rfl rfl rfl (by decide) (Nat.le_of_ble_eq_true rfl) ?_
          exact z_iret ok hE dX2_tower_85 rfl ⟨congrArg Prod.fst hT, congrArg Prod.snd hT⟩
      · rw [if_neg c7] at hT
        refine z_bipush ok dX2_tower_38 (x := (-3)) (by decide) ?_
        exact z_iret ok hE dX2_tower_40 rfl ⟨congrArg Prod.fst hT, congrArg Prod.snd hT⟩
  · rw [if_pos c1] at hT
    refine z_iconst ok dX2_tower_7 (x := (-1)) (by decide) ?_
    exact z_iret ok hE dX2_tower_8 rfl ⟨congrArg Prod.fst hT, congrArg Prod.snd hT⟩

def d_X2_cell (w : xW) (cell : Int32) (what : Int32) : Int32 :=
  if (d_X2_isCell w cell) = 0 then ((-1))
  else (if what < 0 then ((-1))
  else (if what ≤ 4 then (zlet cell.toNatClampNeg fun c_cell =>
  if what = 3 then (if (d_X0_isTower w 0 c_cell) = 0 then (0)
  else (1))
  else (if (d_X0_hasPiece w 0 c_cell) = 0 then ((-4))
  else (if what = 0 then ((d_X0_sideOn w 0 c_cell))
  else (if what = 1 then ((d_X0_kindOn w 0 c_cell))
  else (if what = 2 then ((d_X0_springOn w 0 c_cell))
  else ((d_X0_movesFrom w 0 c_cell)))))))
  else ((-1))))
set_option maxRecDepth 100000 in
set_option maxHeartbeats 4000000 in
theorem c_X2_cell (G : zG) (N : Nat) (hN : 47 ≤ N) (hg : zGeo G N) (w : xW) (cell : Int32) (what : Int32) : zM yX2_cell cX2_cell 4 (some .int) 5 123 G N [.ref (zad G 0), .int cell, .int what] w (some (d_X2_cell w cell what)) w := by
  generalize hT : d_X2_cell w cell what = r
  unfold d_X2_cell at hT
  refine zM_of zy_X2_cell.2.2.2.2.2.2.2 hg ⟨Nat.le_of_ble_eq_true rfl, by decide⟩ rfl (fun k ok hE hI => ?_)
  have old := hE.old
  refine z_iload_n ok dX2_cell_0 1 rfl ?_
  refine z_callSi ok old dX2_cell_1 [] (c_X2_isCell G N hN hg w cell) zy_X2_isCell zw_286 rfl rfl (by decide) (Nat.le_of_ble_eq_true rfl) ?_
  refine z_if_eq ok dX2_cell_4 16 (by decide) (fun c1 => ?_) (fun c1 => ?_)
  · rw [if_pos c1] at hT
    refine z_iconst ok dX2_cell_16 (x := (-1)) (by decide) ?_
    exact z_iret ok hE dX2_cell_17 rfl ⟨hT, rfl⟩
  · rw [if_neg c1] at hT
    refine z_iload_n ok dX2_cell_7 2 rfl ?_
    refine z_if_lt ok dX2_cell_8 16 (by decide) (fun c2 => ?_) (fun c2 => ?_)
    · rw [if_pos c2] at hT
      refine z_iconst ok dX2_cell_16 (x := (-1)) (by decide) ?_
      exact z_iret ok hE dX2_cell_17 rfl ⟨hT, rfl⟩
    · rw [if_neg c2] at hT
      refine z_iload_n ok dX2_cell_11 2 rfl ?_
      refine z_iconst ok dX2_cell_12 (x := 4) (by decide) ?_
      refine z_icmp_le ok dX2_cell_13 18 (by decide) (fun c3 => ?_) (fun c3 => ?_)
      · rw [if_pos c3] at hT
        replace hT := zlet_open hT
        obtain ⟨c_cell, hc_cell, hT⟩ := hT
        obtain ⟨lc_cell, ec_cell⟩ := zcellx (zisCell (by assumption)) hc_cell
        subst ec_cell
        refine z_aload_n ok dX2_cell_18 0 rfl ?_
        refine z_get_X2_game ok dX2_cell_19 hN zw_206 ?_
        refine z_getN_X1_board ok dX2_cell_22 0 (by decide) hN zw_119 ?_
        refine z_astore_n ok dX2_cell_25 (hI 3 (by decide)) (lv' := [(3, .ref (zad G (6 + 6 * 0))), (0, .ref (zad G 0)), (1, .int (nI c_cell)), (2, .int what)]) rfl ?_
        refine z_iload_n ok dX2_cell_26 3 rfl ?_
        refine z_iconst ok dX2_cell_27 (x := 3) (by decide) ?_
        refine z_icmp_ne ok dX2_cell_28 45 (by decide) (fun c4 => ?_) (fun c4 => ?_)
        · rw [if_neg c4] at hT
          refine z_aload_n ok dX2_cell_45 0 rfl ?_
          refine z_iload_n ok dX2_cell_46 2 rfl ?_
          refine z_callVNi ok old dX2_cell_47 [] (c_X0_hasPiece G N hN hg w 0 (by decide) c_cell (by omega)) zy_X0_hasPiece zw_291 (6 + 6 * 0) (zg_lt' hN (by decide)) (zE_board G w (by decide)) rfl rfl rfl rfl rfl (by decide) (Nat.le_of_ble_eq_true rfl) ?_
          refine z_if_ne ok dX2_cell_50 56 (by decide) (fun c5 => ?_) (fun c5 => ?_)
          · rw [if_neg c5] at hT
            refine z_iload_n ok dX2_cell_56 3 rfl ?_
            by_cases c6 : what = 0
            · rw [if_pos c6] at hT
              refine z_tableIn ok dX2_cell_57 84 27 (by rw [c6]; decide) ?_
              refine z_aload_n ok dX2_cell_84 0 rfl ?_
              refine z_iload_n ok dX2_cell_85 2 rfl ?_
              refine z_callVNi ok old dX2_cell_86 [] (c_X0_sideOn G N hN hg w 0 (by decide) c_cell (by omega)) zy_X0_sideOn zw_322 (6 + 6 * 0) (zg_lt' hN (by decide)) (zE_board G w (by decide)) rfl rfl rfl rfl rfl (by decide) (Nat.le_of_ble_eq_true rfl) ?_
              exact z_iret ok hE dX2_cell_89 rfl ⟨hT, rfl⟩
            · rw [if_neg c6] at hT
              by_cases c7 : what = 1
              · rw [if_pos c7] at hT
                refine z_tableIn ok dX2_cell_57 90 33 (by rw [c7]; decide) ?_
                refine z_aload_n ok dX2_cell_90 0 rfl ?_
                refine z_iload_n ok dX2_cell_91 2 rfl ?_
                refine z_callVNi ok old dX2_cell_92 [] (c_X0_kindOn G N hN hg w 0 (by decide) c_cell (by omega)) zy_X0_kindOn zw_323 (6 + 6 * 0) (zg_lt' hN (by decide)) (zE_board G w (by decide)) rfl rfl rfl rfl rfl (by decide) (Nat.le_of_ble_eq_true rfl) ?_
                exact z_iret ok hE dX2_cell_95 rfl ⟨hT, rfl⟩
              · rw [if_neg c7] at hT
                by_cases c8 : what = 2
                · rw [if_pos c8] at hT
                  refine z_tableIn ok dX2_cell_57 96 39 (by rw [c8]; decide) ?_
                  refine z_aload_n ok dX2_cell_96 0 rfl ?_
                  refine z_iload_n ok dX2_cell_97 2 rfl ?_
                  refine z_callVNi ok old dX2_cell_98 [] (c_X0_springOn G N hN hg w 0 (by decide) c_cell (by omega)) zy_X0_springOn zw_327 (6 + 6 * 0) (zg_lt' hN (by decide)) (zE_board G w (by decide)) rfl rfl rfl rfl rfl (by decide) (Nat.le_of_ble_eq_true rfl) ?_
                  exact z_iret ok hE dX2_cell_101 rfl ⟨hT, rfl⟩
                · rw [if_neg c8] at hT
                  refine z_tableOut ok dX2_cell_57 102 (ztab_out3 c6 c7 c8) (by decide) ?_
                  refine z_aload_n ok dX2_cell_102 0 rfl ?_
                  refine z_iload_n ok dX2_cell_103 2 rfl ?_
                  refine z_callVNi ok old dX2_cell_104 [] (c_X0_movesFrom G N hN hg w 0 (by decide) c_cell (by omega)) zy_X0_movesFrom zw_328 (6 + 6 * 0) (zg_lt' hN (by decide)) (zE_board G w (by decide)) rfl rfl rfl rfl rfl (by decide) (Nat.le_of_ble_eq_true rfl) ?_
                  exact z_iret ok hE dX2_cell_107 rfl ⟨hT, rfl⟩
          · rw [if_pos c5] at hT
            refine z_bipush ok dX2_cell_53 (x := (-4)) (by decide) ?_
            exact z_iret ok hE dX2_cell_55 rfl ⟨hT, rfl⟩
        · rw [if_pos c4] at hT
          refine z_aload_n ok dX2_cell_31 0 rfl ?_
          refine z_iload_n ok dX2_cell_32 2 rfl ?_
          refine z_callVNi ok old dX2_cell_33 [] (c_X0_isTower G N hN hg w 0 (by decide) c_cell (by omega)) zy_X0_isTower zw_309 (6 + 6 * 0) (zg_lt' hN (by decide)) (zE_board G w (by decide)) rfl rfl rfl rfl rfl (by decide) (Nat.le_of_ble_eq_true rfl) ?_
          refine z_if_eq ok dX2_cell_36 43 (by decide) (fun c9 => ?_) (fun c9 => ?_)
          · rw [if_pos c9] at hT
            refine z_iconst ok dX2_cell_43 (x := 0) (by decide) ?_
            exact z_iret ok hE dX2_cell_44 rfl ⟨hT, rfl⟩
          · rw [if_neg c9] at hT
            refine z_iconst ok dX2_cell_39 (x := 1) (by decide) ?_
            refine z_goto ok dX2_cell_40 44 (by decide) ?_
            exact z_iret ok hE dX2_cell_44 rfl ⟨hT, rfl⟩
      · rw [if_neg c3] at hT
        refine z_iconst ok dX2_cell_16 (x := (-1)) (by decide) ?_
        exact z_iret ok hE dX2_cell_17 rfl ⟨hT, rfl⟩

def d_X2_count (w : xW) (what : Int32) : Int32 :=
  if what = 0 then ((xg w 0 144))
  else (if what = 1 then ((xg w 0 145))
  else (if what = 2 then (if (xg w 0 146) = (-1) then ((-4))
  else ((xg w 0 146)))
  else (if what = 3 then ((xg w 0 147))
  else (if what = 4 then ((d_X0_piecesInAll w 0))
  else (if what = 5 then ((d_X0_towersInAll w 0))
  else (if what = 6 then ((d_X0_springsOf w 0 0))
  else (if what = 7 then ((d_X0_springsOf w 0 1))
  else (if what = 8 then ((xg w 10 0))
  else (if what = 9 then ((xg w 10 1))
  else (if what = 10 then ((d_X1_setting w 0 (what - 10)))
  else (if what = 11 then ((d_X1_setting w 0 (what - 10)))
  else (if what = 12 then ((d_X1_setting w 0 (what - 10)))
  else (if (d_X2_isAccount w (what - 20)) = 0 then ((-1))
  else ((d_X1_account w 0 (what - 20))))))))))))))))
set_option maxRecDepth 100000 in
set_option maxHeartbeats 4000000 in
theorem c_X2_count (G : zG) (N : Nat) (hN : 47 ≤ N) (hg : zGeo G N) (w : xW) (what : Int32) : zM yX2_count cX2_count 2 (some .int) 3 64 G N [.ref (zad G 0), .int what] w (some (d_X2_count w what)) w := by
  generalize hT : d_X2_count w what = r
  unfold d_X2_count at hT
  refine zM_of zy_X2_count.2.2.2.2.2.2.2 hg ⟨Nat.le_of_ble_eq_true rfl, by decide⟩ rfl (fun k ok hE hI => ?_)
  have old := hE.old
  refine z_iload_n ok dX2_count_0 1 rfl ?_
  by_cases c1 : what = 0
  · rw [if_pos c1] at hT
    refine z_tableIn ok dX2_count_1 68 67 (by rw [c1]; decide) ?_
    refine z_aload_n ok dX2_count_68 0 rfl ?_
    refine z_get_X2_game ok dX2_count_69 hN zw_206 ?_
    refine z_getN_X1_mover ok dX2_count_72 0 (by decide) hN zw_125 ?_
    exact z_iret ok hE dX2_count_75 rfl ⟨hT, rfl⟩
  · rw [if_neg c1] at hT
    by_cases c2 : what = 1
    · rw [if_pos c2] at hT
      refine z_tableIn ok dX2_count_1 76 75 (by rw [c2]; decide) ?_
      refine z_aload_n ok dX2_count_76 0 rfl ?_
      refine z_get_X2_game ok dX2_count_77 hN zw_206 ?_
      refine z_getN_X1_ending ok dX2_count_80 0 (by decide) hN zw_127 ?_
      exact z_iret ok hE dX2_count_83 rfl ⟨hT, rfl⟩
    · rw [if_neg c2] at hT
      by_cases c3 : what = 2
      · rw [if_pos c3] at hT
        refine z_tableIn ok dX2_count_1 84 83 (by rw [c3]; decide) ?_
        refine z_aload_n ok dX2_count_84 0 rfl ?_
        refine z_get_X2_game ok dX2_count_85 hN zw_206 ?_
        refine z_getN_X1_winner ok dX2_count_88 0 (by decide) hN zw_129 ?_
        refine z_iconst ok dX2_count_91 (x := (-1)) (by decide) ?_
        refine z_icmp_ne ok dX2_count_92 100 (by decide) (fun c4 => ?_) (fun c4 => ?_)
        · rw [if_neg c4] at hT
          refine z_aload_n ok dX2_count_100 0 rfl ?_
          refine z_get_X2_game ok dX2_count_101 hN zw_206 ?_
          refine z_getN_X1_winner ok dX2_count_104 0 (by decide) hN zw_129 ?_
          exact z_iret ok hE dX2_count_107 rfl ⟨hT, rfl⟩
        · rw [if_pos c4] at hT
          refine z_bipush ok dX2_count_95 (x := (-4)) (by decide) ?_
          refine z_goto ok dX2_count_97 107 (by decide) ?_
          exact z_iret ok hE dX2_count_107 rfl ⟨hT, rfl⟩
      · rw [if_neg c3] at hT
        by_cases c5 : what = 3
        · rw [if_pos c5] at hT
          refine z_tableIn ok dX2_count_1 108 107 (by rw [c5]; decide) ?_
          refine z_aload_n ok dX2_count_108 0 rfl ?_
          refine z_get_X2_game ok dX2_count_109 hN zw_206 ?_
          refine z_getN_X1_turnsMade ok dX2_count_112 0 (by decide) hN zw_131 ?_
          exact z_iret ok hE dX2_count_115 rfl ⟨hT, rfl⟩
        · rw [if_neg c5] at hT
          by_cases c6 : what = 4
          · rw [if_pos c6] at hT
            refine z_tableIn ok dX2_count_1 116 115 (by rw [c6]; decide) ?_
            refine z_aload_n ok dX2_count_116 0 rfl ?_
            refine z_get_X2_game ok dX2_count_117 hN zw_206 ?_
            refine z_getN_X1_board ok dX2_count_120 0 (by decide) hN zw_119 ?_
            refine z_callVNi ok old dX2_count_123 [] (c_X0_piecesInAll G N hN hg w 0 (by decide)) zy_X0_piecesInAll zw_359 (6 + 6 * 0) (zg_lt' hN (by decide)) (zE_board G w (by decide)) rfl rfl rfl rfl rfl (by decide) (Nat.le_of_ble_eq_true rfl) ?_
            exact z_iret ok hE dX2_count_126 rfl ⟨hT, rfl⟩
          · rw [if_neg c6] at hT
            by_cases c7 : what = 5
            · rw [if_pos c7] at hT
              refine z_tableIn ok dX2_count_1 127 126 (by rw [c7]; decide) ?_
              refine z_aload_n ok dX2_count_127 0 rfl ?_
              refine z_get_X2_game ok dX2_count_128 hN zw_206 ?_
              refine z_getN_X1_board ok dX2_count_131 0 (by decide) hN zw_119 ?_
              refine z_callVNi ok old dX2_count_134 [] (c_X0_towersInAll G N hN hg w 0 (by decide)) zy_X0_towersInAll zw_313 (6 + 6 * 0) (zg_lt' hN (by decide)) (zE_board G w (by decide)) rfl rfl rfl rfl rfl (by decide) (Nat.le_of_ble_eq_true rfl) ?_
              exact z_iret ok hE dX2_count_137 rfl ⟨hT, rfl⟩
            · rw [if_neg c7] at hT
              by_cases c8 : what = 6
              · rw [if_pos c8] at hT
                refine z_tableIn ok dX2_count_1 138 137 (by rw [c8]; decide) ?_
                refine z_aload_n ok dX2_count_138 0 rfl ?_
                refine z_get_X2_game ok dX2_count_139 hN zw_206 ?_
                refine z_getN_X1_board ok dX2_count_142 0 (by decide) hN zw_119 ?_
                refine z_iconst ok dX2_count_145 (x := 0) (by decide) ?_
                refine z_callVNi ok old dX2_count_146 [] (c_X0_springsOf G N hN hg w 0 (by decide) 0) zy_X0_springsOf zw_363 (6 + 6 * 0) (zg_lt' hN (by decide)) (zE_board G w (by decide)) rfl rfl rfl rfl rfl (by decide) (Nat.le_of_ble_eq_true rfl) ?_
                exact z_iret ok hE dX2_count_149 rfl ⟨hT, rfl⟩
              · rw [if_neg c8] at hT
                by_cases c9 : what = 7
                · rw [if_pos c9] at hT
                  refine z_tableIn ok dX2_count_1 150 149 (by rw [c9]; decide) ?_
                  refine z_aload_n ok dX2_count_150 0 rfl ?_
                  refine z_get_X2_game ok dX2_count_151 hN zw_206 ?_
                  refine z_getN_X1_board ok dX2_count_154 0 (by decide) hN zw_119 ?_
                  refine z_iconst ok dX2_count_157 (x := 1) (by decide) ?_
                  refine z_callVNi ok old dX2_count_158 [] (c_X0_springsOf G N hN hg w 0 (by decide) 1) zy_X0_springsOf zw_363 (6 + 6 * 0) (zg_lt' hN (by decide)) (zE_board G w (by decide)) rfl rfl rfl rfl rfl (by decide) (Nat.le_of_ble_eq_true rfl) ?_
                  exact z_iret ok hE dX2_count_161 rfl ⟨hT, rfl⟩
                · rw [if_neg c9] at hT
                  by_cases c10 : what = 8
                  · rw [if_pos c10] at hT
                    refine z_tableIn ok dX2_count_1 162 161 (by rw [c10]; decide) ?_
                    refine z_aload_n ok dX2_count_162 0 rfl ?_
                    refine z_get_X2_stateCount ok dX2_count_163 hN zw_209 ?_
                    exact z_iret ok hE dX2_count_166 rfl ⟨hT, rfl⟩
                  · rw [if_neg c10] at hT
                    by_cases c11 : what = 9
                    · rw [if_pos c11] at hT
                      refine z_tableIn ok dX2_count_1 167 166 (by rw [c11]; decide) ?_
                      refine z_aload_n ok dX2_count_167 0 rfl ?_
                      refine z_get_X2_textLength ok dX2_count_168 hN zw_211 ?_
                      exact z_iret ok hE dX2_count_171 rfl ⟨hT, rfl⟩
                    · rw [if_neg c11] at hT
                      by_cases c12 : what = 10
                      · rw [if_pos c12] at hT
                        refine z_tableIn ok dX2_count_1 172 171 (by rw [c12]; decide) ?_
                        refine z_aload_n ok dX2_count_172 0 rfl ?_
                        refine z_get_X2_game ok dX2_count_173 hN zw_206 ?_
                        refine z_iload_n ok dX2_count_176 1 rfl ?_
                        refine z_bipush ok dX2_count_177 (x := 10) (by decide) ?_
                        refine z_isub ok dX2_count_179 ?_
                        refine z_callVNi ok old dX2_count_180 [] (c_X1_setting G N hN hg w 0 (by decide) (what - 10)) zy_X1_setting zw_259 (5 + 6 * 0) (zg_lt hN (by decide)) (zE_game G w (by decide)) rfl rfl rfl rfl rfl (by decide) (Nat.le_of_ble_eq_true rfl) ?_
                        exact z_iret ok hE dX2_count_183 rfl ⟨hT, rfl⟩
                      · rw [if_neg c12] at hT
                        by_cases c13 : what = 11
                        · rw [if_pos c13] at hT
                          refine z_tableIn ok dX2_count_1 172 171 (by rw [c13]; decide) ?_
                          refine z_aload_n ok dX2_count_172 0 rfl ?_
                          refine z_get_X2_game ok dX2_count_173 hN zw_206 ?_
                          refine z_iload_n ok dX2_count_176 1 rfl ?_
                          refine z_bipush ok dX2_count_177 (x := 10) (by decide) ?_
                          refine z_isub ok dX2_count_179 ?_
                          refine z_callVNi ok old dX2_count_180 [] (c_X1_setting G N hN hg w 0 (by decide) (what - 10)) zy_X1_setting zw_259 (5 + 6 * 0) (zg_lt hN (by decide)) (zE_game G w (by decide)) rfl rfl rfl rfl rfl (by decide) (Nat.le_of_ble_eq_true rfl) ?_
                          exact z_iret ok hE dX2_count_183 rfl ⟨hT, rfl⟩
                        · rw [if_neg c13] at hT
                          by_cases c14 : what = 12
                          · rw [if_pos c14] at hT
                            refine z_tableIn ok dX2_count_1 172 171 (by rw [c14]; decide) ?_
                            refine z_aload_n ok dX2_count_172 0 rfl ?_
                            refine z_get_X2_game ok dX2_count_173 hN zw_206 ?_
                            refine z_iload_n ok dX2_count_176 1 rfl ?_
                            refine z_bipush ok dX2_count_177 (x := 10) (by decide) ?_
                            refine z_isub ok dX2_count_179 ?_
                            refine z_callVNi ok old dX2_count_180 [] (c_X1_setting G N hN hg w 0 (by decide) (what - 10)) zy_X1_setting zw_259 (5 + 6 * 0) (zg_lt hN (by decide)) (zE_game G w (by decide)) rfl rfl rfl rfl rfl (by decide) (Nat.le_of_ble_eq_true rfl) ?_
                            exact z_iret ok hE dX2_count_183 rfl ⟨hT, rfl⟩
                          · rw [if_neg c14] at hT
                            refine z_tableOut ok dX2_count_1 184 (ztab_out13 c1 c2 c3 c5 c6 c7 c8 c9 c10 c11 c12 c13 c14) (by decide) ?_
                            refine z_iload_n ok dX2_count_184 1 rfl ?_
                            refine z_bipush ok dX2_count_185 (x := 20) (by decide) ?_
                            refine z_isub ok dX2_count_187 ?_
                            refine z_callSi ok old dX2_count_188 [] (c_X2_isAccount G N hN hg w (what - 20)) zy_X2_isAccount zw_364 rfl rfl (by decide) (Nat.le_of_ble_eq_true rfl) ?_
                            refine z_if_eq ok dX2_count_191 208 (by decide) (fun c15 => ?_) (fun c15 => ?_)
                            · rw [if_pos c15] at hT
                              refine z_iconst ok dX2_count_208 (x := (-1)) (by decide) ?_
                              exact z_iret ok hE dX2_count_209 rfl ⟨hT, rfl⟩
                            · rw [if_neg c15] at hT
                              refine z_aload_n ok dX2_count_194 0 rfl ?_
                              refine z_get_X2_game ok dX2_count_195 hN zw_206 ?_
                              refine z_iload_n ok dX2_count_198 1 rfl ?_
                              refine z_bipush ok dX2_count_199 (x := 20) (by decide) ?_
                              refine z_isub ok dX2_count_201 ?_
                              refine z_callVNi ok old dX2_count_202 [] (c_X1_account G N hN hg w 0 (by decide) (what - 20)) zy_X1_account zw_367 (5 + 6 * 0) (zg_lt hN (by decide)) (zE_game G w (by decide)) rfl rfl rfl rfl rfl (by decide) (Nat.le_of_ble_eq_true rfl) ?_
                              refine z_goto ok dX2_count_205 209 (by decide) ?_
                              exact z_iret ok hE dX2_count_209 rfl ⟨hT, rfl⟩

def d_X2_undo (w : xW)  : Int32 × xW :=
  if (xg w 10 0) ≤ 0 then (((-2), w))
  else (if (xg w 10 0) ≤ 5 then (zlet (xs w 10 0 ((xg w 10 0) - 1)) fun w3 =>
  zlet (d_X1_copyFrom w3 0 (zpg w3 ((xg w3 10 0)).toNatClampNeg)) fun w4 =>
  ((xg w4 10 0), w4))
  else (((-2), w)))
set_option maxRecDepth 100000 in
set_option maxHeartbeats 4000000 in
theorem c_X2_undo (G : zG) (N : Nat) (hN : 47 ≤ N) (hg : zGeo G N) (w : xW) : zM yX2_undo cX2_undo 1 (some .int) 3 102 G N [.ref (zad G 0)] w (some (d_X2_undo w).1) (d_X2_undo w).2 := by
  obtain ⟨r, u, hT⟩ : ∃ r u, d_X2_undo w = (r, u) := ⟨_, _, rfl⟩
  rw [hT]
  dsimp only
  unfold d_X2_undo at hT
  refine zM_of zy_X2_undo.2.2.2.2.2.2.2 hg ⟨Nat.le_of_ble_eq_true rfl, by decide⟩ rfl (fun k ok hE hI => ?_)
  have old := hE.old
  refine z_aload_n ok dX2_undo_0 0 rfl ?_
  refine z_get_X2_stateCount ok dX2_undo_1 hN zw_209 ?_
  refine z_if_le ok dX2_undo_4 19 (by decide) (fun c1 => ?_) (fun c1 => ?_)
  · rw [if_pos c1] at hT
    refine z_bipush ok dX2_undo_19 (x := (-2)) (by decide) ?_
    exact z_iret ok hE dX2_undo_21 rfl ⟨congrArg Prod.fst hT, congrArg Prod.snd hT⟩
  · rw [if_neg c1] at hT
    refine z_aload_n ok dX2_undo_7 0 rfl ?_
    refine z_get_X2_stateCount ok dX2_undo_8 hN zw_209 ?_
    refine z_aload_n ok dX2_undo_11 0 rfl ?_
    refine z_get_X2_states ok dX2_undo_12 hN zw_208 ?_
    refine z_alen ok dX2_undo_15 1 (by omega) (zE_1 G w) (t := 2) (ty := .object RX1) (x := 5) rfl rfl ?_
    refine z_icmp_le ok dX2_undo_16 22 (by decide) (fun c2 => ?_) (fun c2 => ?_)
    · rw [if_pos c2] at hT
      refine z_aload_n ok dX2_undo_22 0 rfl ?_
      refine z_dup ok dX2_undo_23 rfl ?_
      refine z_get_X2_stateCount ok dX2_undo_24 hN zw_209 ?_
      refine z_iconst ok dX2_undo_27 (x := 1) (by decide) ?_
      refine z_isub ok dX2_undo_28 ?_
      refine z_put_X2_stateCount ok dX2_undo_29 hN zw_209 ?_
      replace hT := zlet_open hT
      obtain ⟨w3, hw3, hT⟩ := hT
      rw [← hw3]
      refine z_aload_n ok dX2_undo_32 0 rfl ?_
      refine z_get_X2_game ok dX2_undo_33 hN zw_206 ?_
      refine z_aload_n ok dX2_undo_36 0 rfl ?_
      refine z_get_X2_states ok dX2_undo_37 hN zw_208 ?_
      refine z_aload_n ok dX2_undo_40 0 rfl ?_
      refine z_get_X2_stateCount ok dX2_undo_41 hN zw_209 ?_
      refine z_aald ok dX2_undo_44 (by omega) ((xg w3 10 0)).toNatClampNeg (zidx_undo (by assumption) (by assumption) (by assumption)).1 (zidx_undo (by assumption) (by assumption) (by assumption)).2 ?_
      refine z_callVNv ok old dX2_undo_45 [] (c_X1_copyFrom G N hN hg w3 0 (by decide) (zpg w3 ((xg w3 10 0)).toNatClampNeg) (zpg_lt _ _)) zy_X1_copyFrom zw_240 (5 + 6 * 0) (zg_lt hN (by decide)) (zE_game G w3 (by decide)) rfl rfl rfl rfl rfl (by decide) (Nat.le_of_ble_eq_true rfl) ?_
      replace hT := zlet_open hT
      obtain ⟨w4, hw4, hT⟩ := hT
      rw [← hw4]
      refine z_aload_n ok dX2_undo_48 0 rfl ?_
      refine z_get_X2_stateCount ok dX2_undo_49 hN zw_209 ?_
      exact z_iret ok hE dX2_undo_52 rfl ⟨congrArg Prod.fst hT, congrArg Prod.snd hT⟩
    · rw [if_neg c2] at hT
      refine z_bipush ok dX2_undo_19 (x := (-2)) (by decide) ?_
      exact z_iret ok hE dX2_undo_21 rfl ⟨congrArg Prod.fst hT, congrArg Prod.snd hT⟩
end
