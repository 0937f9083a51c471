-- ===== PART A: goes FIRST, ahead of the names: the tables' words, and 'selects' of the private methods out of them =====
/-- a private method of a class that the tables say can be made, by its rows of tables_1 -/
def lw_okq (q : MethodName × Nat) : Prop := (q.1.cls ≠ "java/lang/invoke/MethodHandle" ∧ q.1.cls ≠ "java/lang/invoke/VarHandle") ∧ Cond.instantiable q.1.cls q.2 ∈ tables_1 ∧ Cond.privateMethod q.1 ∈ tables_1 ∧ Cond.instanceMethod q.1 ∈ tables_1
theorem lw_p0 : lw_okq (⟨"TurningShop$Game", "dealDecks", "()V"⟩, 14) := ⟨⟨by decide +kernel, by decide +kernel⟩, List.mem_of_getElem? (i := 15) (by decide +kernel), List.mem_of_getElem? (i := 91) (by decide +kernel), List.mem_of_getElem? (i := 92) (by decide +kernel)⟩
theorem lw_p1 : lw_okq (⟨"TurningShop$Game", "drawCards", "(II)V"⟩, 14) := ⟨⟨by decide +kernel, by decide +kernel⟩, List.mem_of_getElem? (i := 15) (by decide +kernel), List.mem_of_getElem? (i := 97) (by decide +kernel), List.mem_of_getElem? (i := 98) (by decide +kernel)⟩
theorem lw_p2 : lw_okq (⟨"TurningShop$Game", "moveToEnd", "(III)V"⟩, 14) := ⟨⟨by decide +kernel, by decide +kernel⟩, List.mem_of_getElem? (i := 15) (by decide +kernel), List.mem_of_getElem? (i := 101) (by decide +kernel), List.mem_of_getElem? (i := 102) (by decide +kernel)⟩
theorem lw_p3 : lw_okq (⟨"TurningShop$Game", "beginTurn", "()V"⟩, 14) := ⟨⟨by decide +kernel, by decide +kernel⟩, List.mem_of_getElem? (i := 15) (by decide +kernel), List.mem_of_getElem? (i := 105) (by decide +kernel), List.mem_of_getElem? (i := 106) (by decide +kernel)⟩
theorem lw_p4 : lw_okq (⟨"TurningShop", "copyOfNow", "()LTurningShop$Game;"⟩, 9) := ⟨⟨by decide +kernel, by decide +kernel⟩, List.mem_of_getElem? (i := 7) (by decide +kernel), List.mem_of_getElem? (i := 142) (by decide +kernel), List.mem_of_getElem? (i := 143) (by decide +kernel)⟩
theorem lw_p5 : lw_okq (⟨"TurningShop", "settle", "(I)I"⟩, 9) := ⟨⟨by decide +kernel, by decide +kernel⟩, List.mem_of_getElem? (i := 7) (by decide +kernel), List.mem_of_getElem? (i := 150) (by decide +kernel), List.mem_of_getElem? (i := 151) (by decide +kernel)⟩
theorem lw_p6 : lw_okq (⟨"TurningShop", "dropOldestState", "()V"⟩, 9) := ⟨⟨by decide +kernel, by decide +kernel⟩, List.mem_of_getElem? (i := 7) (by decide +kernel), List.mem_of_getElem? (i := 154) (by decide +kernel), List.mem_of_getElem? (i := 155) (by decide +kernel)⟩
theorem lw_p7 : lw_okq (⟨"TurningShop$Game", "kindAt", "(I)I"⟩, 14) := ⟨⟨by decide +kernel, by decide +kernel⟩, List.mem_of_getElem? (i := 15) (by decide +kernel), List.mem_of_getElem? (i := 170) (by decide +kernel), List.mem_of_getElem? (i := 171) (by decide +kernel)⟩
theorem lw_p8 : lw_okq (⟨"TurningShop$Game", "giveCurses", "()V"⟩, 14) := ⟨⟨by decide +kernel, by decide +kernel⟩, List.mem_of_getElem? (i := 15) (by decide +kernel), List.mem_of_getElem? (i := 185) (by decide +kernel), List.mem_of_getElem? (i := 186) (by decide +kernel)⟩
theorem lw_p9 : lw_okq (⟨"TurningShop$Game", "playerBehind", "(I)I"⟩, 14) := ⟨⟨by decide +kernel, by decide +kernel⟩, List.mem_of_getElem? (i := 15) (by decide +kernel), List.mem_of_getElem? (i := 189) (by decide +kernel), List.mem_of_getElem? (i := 190) (by decide +kernel)⟩
theorem lw_p10 : lw_okq (⟨"TurningShop$Game", "takeFromPile", "(II)V"⟩, 14) := ⟨⟨by decide +kernel, by decide +kernel⟩, List.mem_of_getElem? (i := 15) (by decide +kernel), List.mem_of_getElem? (i := 193) (by decide +kernel), List.mem_of_getElem? (i := 194) (by decide +kernel)⟩
theorem lw_p11 : lw_okq (⟨"TurningShop$Game", "playTurnAlike", "()V"⟩, 14) := ⟨⟨by decide +kernel, by decide +kernel⟩, List.mem_of_getElem? (i := 15) (by decide +kernel), List.mem_of_getElem? (i := 247) (by decide +kernel), List.mem_of_getElem? (i := 248) (by decide +kernel)⟩
theorem lw_p12 : lw_okq (⟨"TurningShop$Game", "firstInHand", "(II)I"⟩, 14) := ⟨⟨by decide +kernel, by decide +kernel⟩, List.mem_of_getElem? (i := 15) (by decide +kernel), List.mem_of_getElem? (i := 251) (by decide +kernel), List.mem_of_getElem? (i := 252) (by decide +kernel)⟩
theorem lw_p13 : lw_okq (⟨"TurningShop$Game", "dearestToBuy", "()I"⟩, 14) := ⟨⟨by decide +kernel, by decide +kernel⟩, List.mem_of_getElem? (i := 15) (by decide +kernel), List.mem_of_getElem? (i := 256) (by decide +kernel), List.mem_of_getElem? (i := 257) (by decide +kernel)⟩
theorem lw_p14 : lw_okq (⟨"TurningShop", "pointsAfter", "(I)I"⟩, 9) := ⟨⟨by decide +kernel, by decide +kernel⟩, List.mem_of_getElem? (i := 7) (by decide +kernel), List.mem_of_getElem? (i := 332) (by decide +kernel), List.mem_of_getElem? (i := 333) (by decide +kernel)⟩
theorem lw_p15 : lw_okq (⟨"TurningShop", "tryText", "()I"⟩, 9) := ⟨⟨by decide +kernel, by decide +kernel⟩, List.mem_of_getElem? (i := 7) (by decide +kernel), List.mem_of_getElem? (i := 369) (by decide +kernel), List.mem_of_getElem? (i := 370) (by decide +kernel)⟩
def lw_privs_1 : List (MethodName × Nat) := [(⟨"TurningShop$Game", "dealDecks", "()V"⟩, 14), (⟨"TurningShop$Game", "drawCards", "(II)V"⟩, 14), (⟨"TurningShop$Game", "moveToEnd", "(III)V"⟩, 14), (⟨"TurningShop$Game", "beginTurn", "()V"⟩, 14), (⟨"TurningShop", "copyOfNow", "()LTurningShop$Game;"⟩, 9), (⟨"TurningShop", "settle", "(I)I"⟩, 9), (⟨"TurningShop", "dropOldestState", "()V"⟩, 9), (⟨"TurningShop$Game", "kindAt", "(I)I"⟩, 14), (⟨"TurningShop$Game", "giveCurses", "()V"⟩, 14), (⟨"TurningShop$Game", "playerBehind", "(I)I"⟩, 14), (⟨"TurningShop$Game", "takeFromPile", "(II)V"⟩, 14), (⟨"TurningShop$Game", "playTurnAlike", "()V"⟩, 14), (⟨"TurningShop$Game", "firstInHand", "(II)I"⟩, 14), (⟨"TurningShop$Game", "dearestToBuy", "()I"⟩, 14), (⟨"TurningShop", "pointsAfter", "(I)I"⟩, 9), (⟨"TurningShop", "tryText", "()I"⟩, 9)]
theorem lw_r1 : ∀ q ∈ lw_privs_1, lw_okq q := List.forall_mem_cons.mpr ⟨lw_p0, List.forall_mem_cons.mpr ⟨lw_p1, List.forall_mem_cons.mpr ⟨lw_p2, List.forall_mem_cons.mpr ⟨lw_p3, List.forall_mem_cons.mpr ⟨lw_p4, List.forall_mem_cons.mpr ⟨lw_p5, List.forall_mem_cons.mpr ⟨lw_p6, List.forall_mem_cons.mpr ⟨lw_p7, List.forall_mem_cons.mpr ⟨lw_p8, List.forall_mem_cons.mpr ⟨lw_p9, List.forall_mem_cons.mpr ⟨lw_p10, List.forall_mem_cons.mpr ⟨lw_p11, List.forall_mem_cons.mpr ⟨lw_p12, List.forall_mem_cons.mpr ⟨lw_p13, List.forall_mem_cons.mpr ⟨lw_p14, List.forall_mem_cons.mpr ⟨lw_p15, fun _ h => absurd h List.not_mem_nil⟩⟩⟩⟩⟩⟩⟩⟩⟩⟩⟩⟩⟩⟩⟩⟩
theorem lw_p16 : lw_okq (⟨"TurningShop", "keepFault", "(III)I"⟩, 9) := ⟨⟨by decide +kernel, by decide +kernel⟩, List.mem_of_getElem? (i := 7) (by decide +kernel), List.mem_of_getElem? (i := 376) (by decide +kernel), List.mem_of_getElem? (i := 377) (by decide +kernel)⟩
theorem lw_p17 : lw_okq (⟨"TurningShop", "digitsFrom", "(I)I"⟩, 9) := ⟨⟨by decide +kernel, by decide +kernel⟩, List.mem_of_getElem? (i := 7) (by decide +kernel), List.mem_of_getElem? (i := 380) (by decide +kernel), List.mem_of_getElem? (i := 381) (by decide +kernel)⟩
theorem lw_p18 : lw_okq (⟨"TurningShop", "numberBetween", "(II)I"⟩, 9) := ⟨⟨by decide +kernel, by decide +kernel⟩, List.mem_of_getElem? (i := 7) (by decide +kernel), List.mem_of_getElem? (i := 384) (by decide +kernel), List.mem_of_getElem? (i := 385) (by decide +kernel)⟩
theorem lw_p19 : lw_okq (⟨"TurningShop", "doOrder", "(II)I"⟩, 9) := ⟨⟨by decide +kernel, by decide +kernel⟩, List.mem_of_getElem? (i := 7) (by decide +kernel), List.mem_of_getElem? (i := 388) (by decide +kernel), List.mem_of_getElem? (i := 389) (by decide +kernel)⟩
theorem lw_p20 : lw_okq (⟨"TurningShopModel", "begins", "(I)I"⟩, 13) := ⟨⟨by decide +kernel, by decide +kernel⟩, List.mem_of_getElem? (i := 396) (by decide +kernel), List.mem_of_getElem? (i := 402) (by decide +kernel), List.mem_of_getElem? (i := 403) (by decide +kernel)⟩
theorem lw_p21 : lw_okq (⟨"TurningShopModel", "put", "(III)V"⟩, 13) := ⟨⟨by decide +kernel, by decide +kernel⟩, List.mem_of_getElem? (i := 396) (by decide +kernel), List.mem_of_getElem? (i := 409) (by decide +kernel), List.mem_of_getElem? (i := 410) (by decide +kernel)⟩
theorem lw_p22 : lw_okq (⟨"TurningShopModel", "draw", "(II)V"⟩, 13) := ⟨⟨by decide +kernel, by decide +kernel⟩, List.mem_of_getElem? (i := 396) (by decide +kernel), List.mem_of_getElem? (i := 416) (by decide +kernel), List.mem_of_getElem? (i := 417) (by decide +kernel)⟩
theorem lw_p23 : lw_okq (⟨"TurningShopModel", "manyAt", "(II)I"⟩, 13) := ⟨⟨by decide +kernel, by decide +kernel⟩, List.mem_of_getElem? (i := 396) (by decide +kernel), List.mem_of_getElem? (i := 420) (by decide +kernel), List.mem_of_getElem? (i := 421) (by decide +kernel)⟩
theorem lw_p24 : lw_okq (⟨"TurningShopModel", "moveAll", "(III)V"⟩, 13) := ⟨⟨by decide +kernel, by decide +kernel⟩, List.mem_of_getElem? (i := 396) (by decide +kernel), List.mem_of_getElem? (i := 424) (by decide +kernel), List.mem_of_getElem? (i := 425) (by decide +kernel)⟩
theorem lw_p25 : lw_okq (⟨"TurningShopModel", "take", "(III)I"⟩, 13) := ⟨⟨by decide +kernel, by decide +kernel⟩, List.mem_of_getElem? (i := 396) (by decide +kernel), List.mem_of_getElem? (i := 428) (by decide +kernel), List.mem_of_getElem? (i := 429) (by decide +kernel)⟩
theorem lw_p26 : lw_okq (⟨"TurningShopModel", "know", "()V"⟩, 13) := ⟨⟨by decide +kernel, by decide +kernel⟩, List.mem_of_getElem? (i := 396) (by decide +kernel), List.mem_of_getElem? (i := 480) (by decide +kernel), List.mem_of_getElem? (i := 481) (by decide +kernel)⟩
theorem lw_p27 : lw_okq (⟨"TurningShopModel", "playFault", "(I)I"⟩, 13) := ⟨⟨by decide +kernel, by decide +kernel⟩, List.mem_of_getElem? (i := 396) (by decide +kernel), List.mem_of_getElem? (i := 488) (by decide +kernel), List.mem_of_getElem? (i := 489) (by decide +kernel)⟩
theorem lw_p28 : lw_okq (⟨"TurningShopModel", "isInHand", "(I)Z"⟩, 13) := ⟨⟨by decide +kernel, by decide +kernel⟩, List.mem_of_getElem? (i := 396) (by decide +kernel), List.mem_of_getElem? (i := 492) (by decide +kernel), List.mem_of_getElem? (i := 493) (by decide +kernel)⟩
theorem lw_p29 : lw_okq (⟨"TurningShopModel", "inHand", "(I)I"⟩, 13) := ⟨⟨by decide +kernel, by decide +kernel⟩, List.mem_of_getElem? (i := 396) (by decide +kernel), List.mem_of_getElem? (i := 496) (by decide +kernel), List.mem_of_getElem? (i := 497) (by decide +kernel)⟩
theorem lw_p30 : lw_okq (⟨"TurningShopModel", "plays", "(I)I"⟩, 13) := ⟨⟨by decide +kernel, by decide +kernel⟩, List.mem_of_getElem? (i := 396) (by decide +kernel), List.mem_of_getElem? (i := 501) (by decide +kernel), List.mem_of_getElem? (i := 502) (by decide +kernel)⟩
theorem lw_p31 : lw_okq (⟨"TurningShopModel", "buyFault", "(I)I"⟩, 13) := ⟨⟨by decide +kernel, by decide +kernel⟩, List.mem_of_getElem? (i := 396) (by decide +kernel), List.mem_of_getElem? (i := 515) (by decide +kernel), List.mem_of_getElem? (i := 516) (by decide +kernel)⟩
def lw_privs_2 : List (MethodName × Nat) := [(⟨"TurningShop", "keepFault", "(III)I"⟩, 9), (⟨"TurningShop", "digitsFrom", "(I)I"⟩, 9), (⟨"TurningShop", "numberBetween", "(II)I"⟩, 9), (⟨"TurningShop", "doOrder", "(II)I"⟩, 9), (⟨"TurningShopModel", "begins", "(I)I"⟩, 13), (⟨"TurningShopModel", "put", "(III)V"⟩, 13), (⟨"TurningShopModel", "draw", "(II)V"⟩, 13), (⟨"TurningShopModel", "manyAt", "(II)I"⟩, 13), (⟨"TurningShopModel", "moveAll", "(III)V"⟩, 13), (⟨"TurningShopModel", "take", "(III)I"⟩, 13), (⟨"TurningShopModel", "know", "()V"⟩, 13), (⟨"TurningShopModel", "playFault", "(I)I"⟩, 13), (⟨"TurningShopModel", "isInHand", "(I)Z"⟩, 13), (⟨"TurningShopModel", "inHand", "(I)I"⟩, 13), (⟨"TurningShopModel", "plays", "(I)I"⟩, 13), (⟨"TurningShopModel", "buyFault", "(I)I"⟩, 13)]
theorem lw_r2 : ∀ q ∈ lw_privs_2, lw_okq q := List.forall_mem_cons.mpr ⟨lw_p16, List.forall_mem_cons.mpr ⟨lw_p17, List.forall_mem_cons.mpr ⟨lw_p18, List.forall_mem_cons.mpr ⟨lw_p19, List.forall_mem_cons.mpr ⟨lw_p20, List.forall_mem_cons.mpr ⟨lw_p21, List.forall_mem_cons.mpr ⟨lw_p22, List.forall_mem_cons.mpr ⟨lw_p23, List.forall_mem_cons.mpr ⟨lw_p24, List.forall_mem_cons.mpr ⟨lw_p25, List.forall_mem_cons.mpr ⟨lw_p26, List.forall_mem_cons.mpr ⟨lw_p27, List.forall_mem_cons.mpr ⟨lw_p28, List.forall_mem_cons.mpr ⟨lw_p29, List.forall_mem_cons.mpr ⟨lw_p30, List.forall_mem_cons.mpr ⟨lw_p31, fun _ h => absurd h List.not_mem_nil⟩⟩⟩⟩⟩⟩⟩⟩⟩⟩⟩⟩⟩⟩⟩⟩
theorem lw_p32 : lw_okq (⟨"TurningShopModel", "whyNot", "(I)I"⟩, 13) := ⟨⟨by decide +kernel, by decide +kernel⟩, List.mem_of_getElem? (i := 396) (by decide +kernel), List.mem_of_getElem? (i := 519) (by decide +kernel), List.mem_of_getElem? (i := 520) (by decide +kernel)⟩
theorem lw_p33 : lw_okq (⟨"TurningShopModel", "isInRow", "(I)Z"⟩, 13) := ⟨⟨by decide +kernel, by decide +kernel⟩, List.mem_of_getElem? (i := 396) (by decide +kernel), List.mem_of_getElem? (i := 523) (by decide +kernel), List.mem_of_getElem? (i := 524) (by decide +kernel)⟩
theorem lw_p34 : lw_okq (⟨"TurningShopModel", "buys", "(I)I"⟩, 13) := ⟨⟨by decide +kernel, by decide +kernel⟩, List.mem_of_getElem? (i := 396) (by decide +kernel), List.mem_of_getElem? (i := 530) (by decide +kernel), List.mem_of_getElem? (i := 531) (by decide +kernel)⟩
theorem lw_p35 : lw_okq (⟨"TurningShopModel", "scrapFault", "(I)I"⟩, 13) := ⟨⟨by decide +kernel, by decide +kernel⟩, List.mem_of_getElem? (i := 396) (by decide +kernel), List.mem_of_getElem? (i := 538) (by decide +kernel), List.mem_of_getElem? (i := 539) (by decide +kernel)⟩
theorem lw_p36 : lw_okq (⟨"TurningShopModel", "scraps", "(I)I"⟩, 13) := ⟨⟨by decide +kernel, by decide +kernel⟩, List.mem_of_getElem? (i := 396) (by decide +kernel), List.mem_of_getElem? (i := 542) (by decide +kernel), List.mem_of_getElem? (i := 543) (by decide +kernel)⟩
theorem lw_p37 : lw_okq (⟨"TurningShopModel", "ends", "()I"⟩, 13) := ⟨⟨by decide +kernel, by decide +kernel⟩, List.mem_of_getElem? (i := 396) (by decide +kernel), List.mem_of_getElem? (i := 550) (by decide +kernel), List.mem_of_getElem? (i := 551) (by decide +kernel)⟩
theorem lw_p38 : lw_okq (⟨"TurningShopModel", "emptyPiles", "()I"⟩, 13) := ⟨⟨by decide +kernel, by decide +kernel⟩, List.mem_of_getElem? (i := 396) (by decide +kernel), List.mem_of_getElem? (i := 554) (by decide +kernel), List.mem_of_getElem? (i := 555) (by decide +kernel)⟩
theorem lw_p39 : lw_okq (⟨"TurningShopModel", "goesOn", "(I)I"⟩, 13) := ⟨⟨by decide +kernel, by decide +kernel⟩, List.mem_of_getElem? (i := 396) (by decide +kernel), List.mem_of_getElem? (i := 562) (by decide +kernel), List.mem_of_getElem? (i := 563) (by decide +kernel)⟩
theorem lw_p40 : lw_okq (⟨"TurningShopModel", "goOn", "()V"⟩, 13) := ⟨⟨by decide +kernel, by decide +kernel⟩, List.mem_of_getElem? (i := 396) (by decide +kernel), List.mem_of_getElem? (i := 566) (by decide +kernel), List.mem_of_getElem? (i := 567) (by decide +kernel)⟩
theorem lw_p41 : lw_okq (⟨"TurningShopModel", "firstOf", "(Z)I"⟩, 13) := ⟨⟨by decide +kernel, by decide +kernel⟩, List.mem_of_getElem? (i := 396) (by decide +kernel), List.mem_of_getElem? (i := 570) (by decide +kernel), List.mem_of_getElem? (i := 571) (by decide +kernel)⟩
theorem lw_p42 : lw_okq (⟨"TurningShopModel", "dearest", "()I"⟩, 13) := ⟨⟨by decide +kernel, by decide +kernel⟩, List.mem_of_getElem? (i := 396) (by decide +kernel), List.mem_of_getElem? (i := 574) (by decide +kernel), List.mem_of_getElem? (i := 575) (by decide +kernel)⟩
theorem lw_p43 : lw_okq (⟨"TurningShopModel", "isPlayer", "(I)Z"⟩, 13) := ⟨⟨by decide +kernel, by decide +kernel⟩, List.mem_of_getElem? (i := 396) (by decide +kernel), List.mem_of_getElem? (i := 586) (by decide +kernel), List.mem_of_getElem? (i := 587) (by decide +kernel)⟩
theorem lw_p44 : lw_okq (⟨"TurningShopModel", "cardsOf", "(IIII)I"⟩, 13) := ⟨⟨by decide +kernel, by decide +kernel⟩, List.mem_of_getElem? (i := 396) (by decide +kernel), List.mem_of_getElem? (i := 595) (by decide +kernel), List.mem_of_getElem? (i := 596) (by decide +kernel)⟩
theorem lw_p45 : lw_okq (⟨"TurningShopModel", "pointsBy", "(I)I"⟩, 13) := ⟨⟨by decide +kernel, by decide +kernel⟩, List.mem_of_getElem? (i := 396) (by decide +kernel), List.mem_of_getElem? (i := 603) (by decide +kernel), List.mem_of_getElem? (i := 604) (by decide +kernel)⟩
theorem lw_p46 : lw_okq (⟨"TurningShopModel", "canBuy", "()I"⟩, 13) := ⟨⟨by decide +kernel, by decide +kernel⟩, List.mem_of_getElem? (i := 396) (by decide +kernel), List.mem_of_getElem? (i := 618) (by decide +kernel), List.mem_of_getElem? (i := 619) (by decide +kernel)⟩
theorem lw_p47 : lw_okq (⟨"TurningShopModel", "putAside", "()V"⟩, 13) := ⟨⟨by decide +kernel, by decide +kernel⟩, List.mem_of_getElem? (i := 396) (by decide +kernel), List.mem_of_getElem? (i := 630) (by decide +kernel), List.mem_of_getElem? (i := 631) (by decide +kernel)⟩
def lw_privs_3 : List (MethodName × Nat) := [(⟨"TurningShopModel", "whyNot", "(I)I"⟩, 13), (⟨"TurningShopModel", "isInRow", "(I)Z"⟩, 13), (⟨"TurningShopModel", "buys", "(I)I"⟩, 13), (⟨"TurningShopModel", "scrapFault", "(I)I"⟩, 13), (⟨"TurningShopModel", "scraps", "(I)I"⟩, 13), (⟨"TurningShopModel", "ends", "()I"⟩, 13), (⟨"TurningShopModel", "emptyPiles", "()I"⟩, 13), (⟨"TurningShopModel", "goesOn", "(I)I"⟩, 13), (⟨"TurningShopModel", "goOn", "()V"⟩, 13), (⟨"TurningShopModel", "firstOf", "(Z)I"⟩, 13), (⟨"TurningShopModel", "dearest", "()I"⟩, 13), (⟨"TurningShopModel", "isPlayer", "(I)Z"⟩, 13), (⟨"TurningShopModel", "cardsOf", "(IIII)I"⟩, 13), (⟨"TurningShopModel", "pointsBy", "(I)I"⟩, 13), (⟨"TurningShopModel", "canBuy", "()I"⟩, 13), (⟨"TurningShopModel", "putAside", "()V"⟩, 13)]
theorem lw_r3 : ∀ q ∈ lw_privs_3, lw_okq q := List.forall_mem_cons.mpr ⟨lw_p32, List.forall_mem_cons.mpr ⟨lw_p33, List.forall_mem_cons.mpr ⟨lw_p34, List.forall_mem_cons.mpr ⟨lw_p35, List.forall_mem_cons.mpr ⟨lw_p36, List.forall_mem_cons.mpr ⟨lw_p37, List.forall_mem_cons.mpr ⟨lw_p38, List.forall_mem_cons.mpr ⟨lw_p39, List.forall_mem_cons.mpr ⟨lw_p40, List.forall_mem_cons.mpr ⟨lw_p41, List.forall_mem_cons.mpr ⟨lw_p42, List.forall_mem_cons.mpr ⟨lw_p43, List.forall_mem_cons.mpr ⟨lw_p44, List.forall_mem_cons.mpr ⟨lw_p45, List.forall_mem_cons.mpr ⟨lw_p46, List.forall_mem_cons.mpr ⟨lw_p47, fun _ h => absurd h List.not_mem_nil⟩⟩⟩⟩⟩⟩⟩⟩⟩⟩⟩⟩⟩⟩⟩⟩
theorem lw_p48 : lw_okq (⟨"TurningShopModel", "leader", "()I"⟩, 13) := ⟨⟨by decide +kernel, by decide +kernel⟩, List.mem_of_getElem? (i := 396) (by decide +kernel), List.mem_of_getElem? (i := 634) (by decide +kernel), List.mem_of_getElem? (i := 635) (by decide +kernel)⟩
theorem lw_p49 : lw_okq (⟨"TurningShopModel", "putBack", "()V"⟩, 13) := ⟨⟨by decide +kernel, by decide +kernel⟩, List.mem_of_getElem? (i := 396) (by decide +kernel), List.mem_of_getElem? (i := 638) (by decide +kernel), List.mem_of_getElem? (i := 639) (by decide +kernel)⟩
theorem lw_p50 : lw_okq (⟨"TurningShopModel", "wouldHave", "(I)I"⟩, 13) := ⟨⟨by decide +kernel, by decide +kernel⟩, List.mem_of_getElem? (i := 396) (by decide +kernel), List.mem_of_getElem? (i := 646) (by decide +kernel), List.mem_of_getElem? (i := 647) (by decide +kernel)⟩
theorem lw_p51 : lw_okq (⟨"TurningShopModel", "sum", "(I)I"⟩, 13) := ⟨⟨by decide +kernel, by decide +kernel⟩, List.mem_of_getElem? (i := 396) (by decide +kernel), List.mem_of_getElem? (i := 664) (by decide +kernel), List.mem_of_getElem? (i := 665) (by decide +kernel)⟩
theorem lw_p52 : lw_okq (⟨"TurningShopModel", "look", "()V"⟩, 13) := ⟨⟨by decide +kernel, by decide +kernel⟩, List.mem_of_getElem? (i := 396) (by decide +kernel), List.mem_of_getElem? (i := 685) (by decide +kernel), List.mem_of_getElem? (i := 686) (by decide +kernel)⟩
theorem lw_p53 : lw_okq (⟨"TurningShopModel", "go", "()I"⟩, 13) := ⟨⟨by decide +kernel, by decide +kernel⟩, List.mem_of_getElem? (i := 396) (by decide +kernel), List.mem_of_getElem? (i := 689) (by decide +kernel), List.mem_of_getElem? (i := 690) (by decide +kernel)⟩
theorem lw_p54 : lw_okq (⟨"TurningShopModel", "read", "()V"⟩, 13) := ⟨⟨by decide +kernel, by decide +kernel⟩, List.mem_of_getElem? (i := 396) (by decide +kernel), List.mem_of_getElem? (i := 693) (by decide +kernel), List.mem_of_getElem? (i := 694) (by decide +kernel)⟩
theorem lw_p55 : lw_okq (⟨"TurningShopModel", "sign", "(II)I"⟩, 13) := ⟨⟨by decide +kernel, by decide +kernel⟩, List.mem_of_getElem? (i := 396) (by decide +kernel), List.mem_of_getElem? (i := 697) (by decide +kernel), List.mem_of_getElem? (i := 698) (by decide +kernel)⟩
theorem lw_p56 : lw_okq (⟨"TurningShopModel", "does", "()I"⟩, 13) := ⟨⟨by decide +kernel, by decide +kernel⟩, List.mem_of_getElem? (i := 396) (by decide +kernel), List.mem_of_getElem? (i := 701) (by decide +kernel), List.mem_of_getElem? (i := 702) (by decide +kernel)⟩
def lw_privs_4 : List (MethodName × Nat) := [(⟨"TurningShopModel", "leader", "()I"⟩, 13), (⟨"TurningShopModel", "putBack", "()V"⟩, 13), (⟨"TurningShopModel", "wouldHave", "(I)I"⟩, 13), (⟨"TurningShopModel", "sum", "(I)I"⟩, 13), (⟨"TurningShopModel", "look", "()V"⟩, 13), (⟨"TurningShopModel", "go", "()I"⟩, 13), (⟨"TurningShopModel", "read", "()V"⟩, 13), (⟨"TurningShopModel", "sign", "(II)I"⟩, 13), (⟨"TurningShopModel", "does", "()I"⟩, 13)]
theorem lw_r4 : ∀ q ∈ lw_privs_4, lw_okq q := List.forall_mem_cons.mpr ⟨lw_p48, List.forall_mem_cons.mpr ⟨lw_p49, List.forall_mem_cons.mpr ⟨lw_p50, List.forall_mem_cons.mpr ⟨lw_p51, List.forall_mem_cons.mpr ⟨lw_p52, List.forall_mem_cons.mpr ⟨lw_p53, List.forall_mem_cons.mpr ⟨lw_p54, List.forall_mem_cons.mpr ⟨lw_p55, List.forall_mem_cons.mpr ⟨lw_p56, fun _ h => absurd h List.not_mem_nil⟩⟩⟩⟩⟩⟩⟩⟩⟩
def lw_privs : List (MethodName × Nat) := lw_privs_1 ++ (lw_privs_2 ++ (lw_privs_3 ++ (lw_privs_4)))
def lw_tbl : List Cond := k2_sels lw_privs ++ tables_1
theorem lw_privs_ok : ∀ q ∈ lw_privs, lw_okq q := by
  show ∀ q ∈ lw_privs_1 ++ (lw_privs_2 ++ (lw_privs_3 ++ (lw_privs_4))), lw_okq q
  exact List.forall_mem_append.mpr ⟨lw_r1, List.forall_mem_append.mpr ⟨lw_r2, List.forall_mem_append.mpr ⟨lw_r3, lw_r4⟩⟩⟩
/-- the streams that the claim lets the run draw from -/
abbrev lw_cs : List Choice := [Jvm.Choice.named "NaN.bits"]
theorem lw_bits : nanBits ∈ lw_cs := by first | decide | exact List.mem_cons_self | simp [lw_cs, nanBits]

/-! ===== BEGIN words of one list among another's, by their places ===== -/
theorem goodIn_r {big : List Cond} (ws : List Cond) (ps : List Nat) (hp : ws = ps.filterMap (fun i => big[i]?)) (h : ws.all goodWord = true) : GoodIn big ws := by
  intro w hw
  have h1 := List.all_eq_true.mp h w hw
  rw [hp] at hw
  obtain ⟨i, -, hi⟩ := List.mem_filterMap.mp hw
  have hm : w ∈ big := by first | exact List.mem_of_getElem? hi | exact List.getElem?_mem hi
  exact ⟨hm, good_of_word h1⟩
theorem goodIn_app {big a b : List Cond} (ha : GoodIn big a) (hb : GoodIn big b) : GoodIn big (a ++ b) := fun w h => (List.mem_append.mp h).elim (ha w) (hb w)
theorem goodIn_ca {big a b : List Cond} {c : Cond} (ha : GoodIn big (c :: a)) (hb : GoodIn big b) : GoodIn big (c :: (a ++ b)) := fun w h => (List.mem_cons.mp h).elim (fun e => ha w (List.mem_cons.mpr (Or.inl e))) (fun h => (List.mem_append.mp h).elim (fun h => ha w (List.mem_cons.mpr (Or.inr h))) (hb w))
theorem goodIn_sub {big ws : List Cond} (hm : ∀ w ∈ ws, w ∈ big) (h : ws.all goodWord = true) : GoodIn big ws := fun w hw => ⟨hm w hw, good_of_word (List.all_eq_true.mp h w hw)⟩
/-! ===== END ===== -/

/-! ===== BEGIN printed: names, fields, word lists, decode rows ===== -/
def RX0 : String := "TurningShop$Game"
def TX0 : u_T := fun k => match k with
  | 0 => ("TurningShop$Game", "cards", "[I", true)
  | 1 => ("TurningShop$Game", "starts", "[I", true)
  | 2 => ("TurningShop$Game", "piles", "[I", true)
  | 3 => ("TurningShop$Game", "scrapped", "[I", true)
  | 4 => ("TurningShop$Game", "players", "I", false)
  | 5 => ("TurningShop$Game", "player", "I", false)
  | 6 => ("TurningShop$Game", "coins", "I", false)
  | 7 => ("TurningShop$Game", "buys", "I", false)
  | 8 => ("TurningShop$Game", "actions", "I", false)
  | 9 => ("TurningShop$Game", "scraps", "I", false)
  | 10 => ("TurningShop$Game", "rowFirst", "I", false)
  | 11 => ("TurningShop$Game", "setting", "I", false)
  | 12 => ("TurningShop$Game", "endedTurns", "I", false)
  | _ => ("TurningShop$Game", "over", "Z", false)
def tyX0 : Nat → FieldType := fun k => match k with
  | 0 => .array .int
  | 1 => .array .int
  | 2 => .array .int
  | 3 => .array .int
  | 4 => .int
  | 5 => .int
  | 6 => .int
  | 7 => .int
  | 8 => .int
  | 9 => .int
  | 10 => .int
  | 11 => .int
  | 12 => .int
  | _ => .boolean
abbrev wsX00 : List Cond := u_ws RX0 TX0 14
theorem nmX0 : ∀ a, a < 14 → ∀ b, b < 14 → a ≠ b → (TX0 a).2.1 ≠ (TX0 b).2.1 := by decide +kernel
theorem tyX0_ok : ∀ k, k < 14 → parseFieldDescriptor (TX0 k).2.2.1 = some (tyX0 k) := by decide +kernel
abbrev cX0_init : ByteArray := prog_2_method_1_code
def yX0_init : MethodName := ⟨RX0, "<init>", "()V"⟩
abbrev cX0_copyFrom : ByteArray := prog_2_method_2_code
def yX0_copyFrom : MethodName := ⟨RX0, "copyFrom", "(LTurningShop$Game;)V"⟩
abbrev cX0_startGame : ByteArray := prog_2_method_3_code
def yX0_startGame : MethodName := ⟨RX0, "startGame", "(I)I"⟩
abbrev cX0_dealDecks : ByteArray := prog_2_method_4_code
def yX0_dealDecks : MethodName := ⟨RX0, "dealDecks", "()V"⟩
abbrev cX0_beginTurn : ByteArray := prog_2_method_5_code
def yX0_beginTurn : MethodName := ⟨RX0, "beginTurn", "()V"⟩
abbrev cX0_playCard : ByteArray := prog_2_method_6_code
def yX0_playCard : MethodName := ⟨RX0, "playCard", "(I)I"⟩
abbrev cX0_giveCurses : ByteArray := prog_2_method_7_code
def yX0_giveCurses : MethodName := ⟨RX0, "giveCurses", "()V"⟩
abbrev cX0_buyCard : ByteArray := prog_2_method_8_code
def yX0_buyCard : MethodName := ⟨RX0, "buyCard", "(I)I"⟩
abbrev cX0_scrapCard : ByteArray := prog_2_method_9_code
def yX0_scrapCard : MethodName := ⟨RX0, "scrapCard", "(I)I"⟩
abbrev cX0_endTurn : ByteArray := prog_2_method_10_code
def yX0_endTurn : MethodName := ⟨RX0, "endTurn", "()I"⟩
abbrev cX0_goOnAlike : ByteArray := prog_2_method_11_code
def yX0_goOnAlike : MethodName := ⟨RX0, "goOnAlike", "(I)I"⟩
abbrev cX0_playTurnAlike : ByteArray := prog_2_method_12_code
def yX0_playTurnAlike : MethodName := ⟨RX0, "playTurnAlike", "()V"⟩
abbrev cX0_firstInHand : ByteArray := prog_2_method_13_code
def yX0_firstInHand : MethodName := ⟨RX0, "firstInHand", "(II)I"⟩
abbrev cX0_dearestToBuy : ByteArray := prog_2_method_14_code
def yX0_dearestToBuy : MethodName := ⟨RX0, "dearestToBuy", "()I"⟩
abbrev cX0_drawCards : ByteArray := prog_2_method_15_code
def yX0_drawCards : MethodName := ⟨RX0, "drawCards", "(II)V"⟩
abbrev cX0_moveToEnd : ByteArray := prog_2_method_16_code
def yX0_moveToEnd : MethodName := ⟨RX0, "moveToEnd", "(III)V"⟩
abbrev cX0_takeFromPile : ByteArray := prog_2_method_17_code
def yX0_takeFromPile : MethodName := ⟨RX0, "takeFromPile", "(II)V"⟩
abbrev cX0_hasPlayer : ByteArray := prog_2_method_18_code
def yX0_hasPlayer : MethodName := ⟨RX0, "hasPlayer", "(I)Z"⟩
abbrev cX0_playerBehind : ByteArray := prog_2_method_19_code
def yX0_playerBehind : MethodName := ⟨RX0, "playerBehind", "(I)I"⟩
abbrev cX0_cardOf : ByteArray := prog_2_method_20_code
def yX0_cardOf : MethodName := ⟨RX0, "cardOf", "(III)I"⟩
abbrev cX0_kindAt : ByteArray := prog_2_method_21_code
def yX0_kindAt : MethodName := ⟨RX0, "kindAt", "(I)I"⟩
abbrev cX0_howMany : ByteArray := prog_2_method_22_code
def yX0_howMany : MethodName := ⟨RX0, "howMany", "(IIII)I"⟩
abbrev cX0_sumOf : ByteArray := prog_2_method_23_code
def yX0_sumOf : MethodName := ⟨RX0, "sumOf", "(I[I)I"⟩
abbrev cX0_leader : ByteArray := prog_2_method_24_code
def yX0_leader : MethodName := ⟨RX0, "leader", "()I"⟩
abbrev cX0_emptyPiles : ByteArray := prog_2_method_25_code
def yX0_emptyPiles : MethodName := ⟨RX0, "emptyPiles", "()I"⟩
abbrev cX0_isInRow : ByteArray := prog_2_method_26_code
def yX0_isInRow : MethodName := ⟨RX0, "isInRow", "(I)Z"⟩
abbrev cX0_whyNotBought : ByteArray := prog_2_method_27_code
def yX0_whyNotBought : MethodName := ⟨RX0, "whyNotBought", "(I)I"⟩
abbrev cX0_kindsToBuy : ByteArray := prog_2_method_28_code
def yX0_kindsToBuy : MethodName := ⟨RX0, "kindsToBuy", "()I"⟩
def RX1 : String := "TurningShop"
def TX1 : u_T := fun k => match k with
  | 0 => ("TurningShop", "now", "LTurningShop$Game;", false)
  | 1 => ("TurningShop", "spare", "LTurningShop$Game;", false)
  | 2 => ("TurningShop", "history", "[LTurningShop$Game;", true)
  | 3 => ("TurningShop", "states", "I", false)
  | 4 => ("TurningShop", "text", "[C", true)
  | 5 => ("TurningShop", "textLength", "I", false)
  | 6 => ("TurningShop", "faultPosition", "I", false)
  | 7 => ("TurningShop", "faultReason", "I", false)
  | _ => ("TurningShop", "faultCause", "I", false)
def tyX1 : Nat → FieldType := fun k => match k with
  | 0 => .object "TurningShop$Game"
  | 1 => .object "TurningShop$Game"
  | 2 => .array (.object "TurningShop$Game")
  | 3 => .int
  | 4 => .array .char
  | 5 => .int
  | 6 => .int
  | 7 => .int
  | _ => .int
abbrev wsX10 : List Cond := u_ws RX1 TX1 9
theorem nmX1 : ∀ a, a < 9 → ∀ b, b < 9 → a ≠ b → (TX1 a).2.1 ≠ (TX1 b).2.1 := by decide +kernel
theorem tyX1_ok : ∀ k, k < 9 → parseFieldDescriptor (TX1 k).2.2.1 = some (tyX1 k) := by decide +kernel
abbrev cX1_init : ByteArray := prog_1_method_1_code
def yX1_init : MethodName := ⟨RX1, "<init>", "()V"⟩
abbrev cX1_begin : ByteArray := prog_1_method_2_code
def yX1_begin : MethodName := ⟨RX1, "begin", "(I)I"⟩
abbrev cX1_play : ByteArray := prog_1_method_3_code
def yX1_play : MethodName := ⟨RX1, "play", "(I)I"⟩
abbrev cX1_buy : ByteArray := prog_1_method_4_code
def yX1_buy : MethodName := ⟨RX1, "buy", "(I)I"⟩
abbrev cX1_scrap : ByteArray := prog_1_method_5_code
def yX1_scrap : MethodName := ⟨RX1, "scrap", "(I)I"⟩
abbrev cX1_end : ByteArray := prog_1_method_6_code
def yX1_end : MethodName := ⟨RX1, "end", "()I"⟩
abbrev cX1_alike : ByteArray := prog_1_method_7_code
def yX1_alike : MethodName := ⟨RX1, "alike", "(I)I"⟩
abbrev cX1_set : ByteArray := prog_1_method_8_code
def yX1_set : MethodName := ⟨RX1, "set", "(II)I"⟩
abbrev cX1_card : ByteArray := prog_1_method_9_code
def yX1_card : MethodName := ⟨RX1, "card", "(III)I"⟩
abbrev cX1_many : ByteArray := prog_1_method_10_code
def yX1_many : MethodName := ⟨RX1, "many", "(III)I"⟩
abbrev cX1_points : ByteArray := prog_1_method_11_code
def yX1_points : MethodName := ⟨RX1, "points", "(I)I"⟩
abbrev cX1_kindOf : ByteArray := prog_1_method_12_code
def yX1_kindOf : MethodName := ⟨RX1, "kindOf", "(II)I"⟩
abbrev cX1_turn : ByteArray := prog_1_method_13_code
def yX1_turn : MethodName := ⟨RX1, "turn", "(I)I"⟩
abbrev cX1_purse : ByteArray := prog_1_method_14_code
def yX1_purse : MethodName := ⟨RX1, "purse", "()I"⟩
abbrev cX1_outcome : ByteArray := prog_1_method_15_code
def yX1_outcome : MethodName := ⟨RX1, "outcome", "(I)I"⟩
abbrev cX1_advice : ByteArray := prog_1_method_16_code
def yX1_advice : MethodName := ⟨RX1, "advice", "(I)I"⟩
abbrev cX1_wealth : ByteArray := prog_1_method_17_code
def yX1_wealth : MethodName := ⟨RX1, "wealth", "(I)I"⟩
abbrev cX1_count : ByteArray := prog_1_method_18_code
def yX1_count : MethodName := ⟨RX1, "count", "(I)I"⟩
abbrev cX1_undo : ByteArray := prog_1_method_19_code
def yX1_undo : MethodName := ⟨RX1, "undo", "()I"⟩
abbrev cX1_type : ByteArray := prog_1_method_20_code
def yX1_type : MethodName := ⟨RX1, "type", "(I)I"⟩
abbrev cX1_clearText : ByteArray := prog_1_method_21_code
def yX1_clearText : MethodName := ⟨RX1, "clearText", "()I"⟩
abbrev cX1_fault : ByteArray := prog_1_method_22_code
def yX1_fault : MethodName := ⟨RX1, "fault", "(I)I"⟩
abbrev cX1_perform : ByteArray := prog_1_method_23_code
def yX1_perform : MethodName := ⟨RX1, "perform", "()I"⟩
abbrev cX1_copyOfNow : ByteArray := prog_1_method_24_code
def yX1_copyOfNow : MethodName := ⟨RX1, "copyOfNow", "()LTurningShop$Game;"⟩
abbrev cX1_settle : ByteArray := prog_1_method_25_code
def yX1_settle : MethodName := ⟨RX1, "settle", "(I)I"⟩
abbrev cX1_dropOldestState : ByteArray := prog_1_method_26_code
def yX1_dropOldestState : MethodName := ⟨RX1, "dropOldestState", "()V"⟩
abbrev cX1_pointsAfter : ByteArray := prog_1_method_27_code
def yX1_pointsAfter : MethodName := ⟨RX1, "pointsAfter", "(I)I"⟩
abbrev cX1_tryText : ByteArray := prog_1_method_28_code
def yX1_tryText : MethodName := ⟨RX1, "tryText", "()I"⟩
abbrev cX1_isNumberedOrder : ByteArray := prog_1_method_29_code
def yX1_isNumberedOrder : MethodName := ⟨RX1, "isNumberedOrder", "(C)Z"⟩
abbrev cX1_digitsFrom : ByteArray := prog_1_method_30_code
def yX1_digitsFrom : MethodName := ⟨RX1, "digitsFrom", "(I)I"⟩
abbrev cX1_numberBetween : ByteArray := prog_1_method_31_code
def yX1_numberBetween : MethodName := ⟨RX1, "numberBetween", "(II)I"⟩
abbrev cX1_doOrder : ByteArray := prog_1_method_32_code
def yX1_doOrder : MethodName := ⟨RX1, "doOrder", "(II)I"⟩
abbrev cX1_keepFault : ByteArray := prog_1_method_33_code
def yX1_keepFault : MethodName := ⟨RX1, "keepFault", "(III)I"⟩
abbrev cX1_partAt : ByteArray := prog_1_method_34_code
def yX1_partAt : MethodName := ⟨RX1, "partAt", "(I)I"⟩
abbrev cX1_sum : ByteArray := prog_1_method_35_code
def yX1_sum : MethodName := ⟨RX1, "sum", "([I)I"⟩
abbrev cX1_bitsOf : ByteArray := prog_1_method_36_code
def yX1_bitsOf : MethodName := ⟨RX1, "bitsOf", "(F)I"⟩
def RX2 : String := "TurningShopModel"
def TX2 : u_T := fun k => match k with
  | 0 => ("TurningShopModel", "s", "[I", true)
  | 1 => ("TurningShopModel", "aside", "[I", true)
  | 2 => ("TurningShopModel", "before", "[I", true)
  | 3 => ("TurningShopModel", "known", "I", false)
  | 4 => ("TurningShopModel", "text", "[I", true)
  | 5 => ("TurningShopModel", "length", "I", false)
  | 6 => ("TurningShopModel", "at", "I", false)
  | 7 => ("TurningShopModel", "isWrong", "Z", false)
  | 8 => ("TurningShopModel", "letter", "I", false)
  | 9 => ("TurningShopModel", "number", "I", false)
  | 10 => ("TurningShopModel", "position", "I", false)
  | 11 => ("TurningShopModel", "reason", "I", false)
  | _ => ("TurningShopModel", "cause", "I", false)
def tyX2 : Nat → FieldType := fun k => match k with
  | 0 => .array .int
  | 1 => .array .int
  | 2 => .array .int
  | 3 => .int
  | 4 => .array .int
  | 5 => .int
  | 6 => .int
  | 7 => .boolean
  | 8 => .int
  | 9 => .int
  | 10 => .int
  | 11 => .int
  | _ => .int
abbrev wsX20 : List Cond := u_ws RX2 TX2 13
theorem nmX2 : ∀ a, a < 13 → ∀ b, b < 13 → a ≠ b → (TX2 a).2.1 ≠ (TX2 b).2.1 := by decide +kernel
theorem tyX2_ok : ∀ k, k < 13 → parseFieldDescriptor (TX2 k).2.2.1 = some (tyX2 k) := by decide +kernel
abbrev cX2_init : ByteArray := prog_4_method_1_code
def yX2_init : MethodName := ⟨RX2, "<init>", "()V"⟩
abbrev cX2_in : ByteArray := prog_4_method_3_code
def yX2_in : MethodName := ⟨RX2, "in", "(III)Z"⟩
abbrev cX2_price : ByteArray := prog_4_method_4_code
def yX2_price : MethodName := ⟨RX2, "price", "(I)I"⟩
abbrev cX2_coins : ByteArray := prog_4_method_5_code
def yX2_coins : MethodName := ⟨RX2, "coins", "(I)I"⟩
abbrev cX2_cards : ByteArray := prog_4_method_6_code
def yX2_cards : MethodName := ⟨RX2, "cards", "(I)I"⟩
abbrev cX2_pointsOf : ByteArray := prog_4_method_7_code
def yX2_pointsOf : MethodName := ⟨RX2, "pointsOf", "(I)I"⟩
abbrev cX2_inPile : ByteArray := prog_4_method_8_code
def yX2_inPile : MethodName := ⟨RX2, "inPile", "(I)I"⟩
abbrev cX2_placeOf : ByteArray := prog_4_method_9_code
def yX2_placeOf : MethodName := ⟨RX2, "placeOf", "(II)I"⟩
abbrev cX2_manyAt : ByteArray := prog_4_method_10_code
def yX2_manyAt : MethodName := ⟨RX2, "manyAt", "(II)I"⟩
abbrev cX2_put : ByteArray := prog_4_method_11_code
def yX2_put : MethodName := ⟨RX2, "put", "(III)V"⟩
abbrev cX2_take : ByteArray := prog_4_method_12_code
def yX2_take : MethodName := ⟨RX2, "take", "(III)I"⟩
abbrev cX2_moveAll : ByteArray := prog_4_method_13_code
def yX2_moveAll : MethodName := ⟨RX2, "moveAll", "(III)V"⟩
abbrev cX2_draw : ByteArray := prog_4_method_14_code
def yX2_draw : MethodName := ⟨RX2, "draw", "(II)V"⟩
abbrev cX2_know : ByteArray := prog_4_method_15_code
def yX2_know : MethodName := ⟨RX2, "know", "()V"⟩
abbrev cX2_putAside : ByteArray := prog_4_method_16_code
def yX2_putAside : MethodName := ⟨RX2, "putAside", "()V"⟩
abbrev cX2_putBack : ByteArray := prog_4_method_17_code
def yX2_putBack : MethodName := ⟨RX2, "putBack", "()V"⟩
abbrev cX2_isInHand : ByteArray := prog_4_method_18_code
def yX2_isInHand : MethodName := ⟨RX2, "isInHand", "(I)Z"⟩
abbrev cX2_inHand : ByteArray := prog_4_method_19_code
def yX2_inHand : MethodName := ⟨RX2, "inHand", "(I)I"⟩
abbrev cX2_begins : ByteArray := prog_4_method_20_code
def yX2_begins : MethodName := ⟨RX2, "begins", "(I)I"⟩
abbrev cX2_playFault : ByteArray := prog_4_method_21_code
def yX2_playFault : MethodName := ⟨RX2, "playFault", "(I)I"⟩
abbrev cX2_plays : ByteArray := prog_4_method_22_code
def yX2_plays : MethodName := ⟨RX2, "plays", "(I)I"⟩
abbrev cX2_isInRow : ByteArray := prog_4_method_23_code
def yX2_isInRow : MethodName := ⟨RX2, "isInRow", "(I)Z"⟩
abbrev cX2_whyNot : ByteArray := prog_4_method_24_code
def yX2_whyNot : MethodName := ⟨RX2, "whyNot", "(I)I"⟩
abbrev cX2_buyFault : ByteArray := prog_4_method_25_code
def yX2_buyFault : MethodName := ⟨RX2, "buyFault", "(I)I"⟩
abbrev cX2_buys : ByteArray := prog_4_method_26_code
def yX2_buys : MethodName := ⟨RX2, "buys", "(I)I"⟩
abbrev cX2_scrapFault : ByteArray := prog_4_method_27_code
def yX2_scrapFault : MethodName := ⟨RX2, "scrapFault", "(I)I"⟩
abbrev cX2_scraps : ByteArray := prog_4_method_28_code
def yX2_scraps : MethodName := ⟨RX2, "scraps", "(I)I"⟩
abbrev cX2_emptyPiles : ByteArray := prog_4_method_29_code
def yX2_emptyPiles : MethodName := ⟨RX2, "emptyPiles", "()I"⟩
abbrev cX2_ends : ByteArray := prog_4_method_30_code
def yX2_ends : MethodName := ⟨RX2, "ends", "()I"⟩
abbrev cX2_firstOf : ByteArray := prog_4_method_31_code
def yX2_firstOf : MethodName := ⟨RX2, "firstOf", "(Z)I"⟩
abbrev cX2_dearest : ByteArray := prog_4_method_32_code
def yX2_dearest : MethodName := ⟨RX2, "dearest", "()I"⟩
abbrev cX2_goOn : ByteArray := prog_4_method_33_code
def yX2_goOn : MethodName := ⟨RX2, "goOn", "()V"⟩
abbrev cX2_goesOn : ByteArray := prog_4_method_34_code
def yX2_goesOn : MethodName := ⟨RX2, "goesOn", "(I)I"⟩
abbrev cX2_begin : ByteArray := prog_4_method_35_code
def yX2_begin : MethodName := ⟨RX2, "begin", "(I)I"⟩
abbrev cX2_play : ByteArray := prog_4_method_36_code
def yX2_play : MethodName := ⟨RX2, "play", "(I)I"⟩
abbrev cX2_buy : ByteArray := prog_4_method_37_code
def yX2_buy : MethodName := ⟨RX2, "buy", "(I)I"⟩
abbrev cX2_scrap : ByteArray := prog_4_method_38_code
def yX2_scrap : MethodName := ⟨RX2, "scrap", "(I)I"⟩
abbrev cX2_end : ByteArray := prog_4_method_39_code
def yX2_end : MethodName := ⟨RX2, "end", "()I"⟩
abbrev cX2_alike : ByteArray := prog_4_method_40_code
def yX2_alike : MethodName := ⟨RX2, "alike", "(I)I"⟩
abbrev cX2_set : ByteArray := prog_4_method_41_code
def yX2_set : MethodName := ⟨RX2, "set", "(II)I"⟩
abbrev cX2_isPlayer : ByteArray := prog_4_method_42_code
def yX2_isPlayer : MethodName := ⟨RX2, "isPlayer", "(I)Z"⟩
abbrev cX2_card : ByteArray := prog_4_method_43_code
def yX2_card : MethodName := ⟨RX2, "card", "(III)I"⟩
abbrev cX2_cardsOf : ByteArray := prog_4_method_44_code
def yX2_cardsOf : MethodName := ⟨RX2, "cardsOf", "(IIII)I"⟩
abbrev cX2_many : ByteArray := prog_4_method_45_code
def yX2_many : MethodName := ⟨RX2, "many", "(III)I"⟩
abbrev cX2_pointsBy : ByteArray := prog_4_method_46_code
def yX2_pointsBy : MethodName := ⟨RX2, "pointsBy", "(I)I"⟩
abbrev cX2_points : ByteArray := prog_4_method_47_code
def yX2_points : MethodName := ⟨RX2, "points", "(I)I"⟩
abbrev cX2_kindOf : ByteArray := prog_4_method_48_code
def yX2_kindOf : MethodName := ⟨RX2, "kindOf", "(II)I"⟩
abbrev cX2_canBuy : ByteArray := prog_4_method_49_code
def yX2_canBuy : MethodName := ⟨RX2, "canBuy", "()I"⟩
abbrev cX2_turn : ByteArray := prog_4_method_50_code
def yX2_turn : MethodName := ⟨RX2, "turn", "(I)I"⟩
abbrev cX2_purse : ByteArray := prog_4_method_51_code
def yX2_purse : MethodName := ⟨RX2, "purse", "()I"⟩
abbrev cX2_leader : ByteArray := prog_4_method_52_code
def yX2_leader : MethodName := ⟨RX2, "leader", "()I"⟩
abbrev cX2_outcome : ByteArray := prog_4_method_53_code
def yX2_outcome : MethodName := ⟨RX2, "outcome", "(I)I"⟩
abbrev cX2_wouldHave : ByteArray := prog_4_method_54_code
def yX2_wouldHave : MethodName := ⟨RX2, "wouldHave", "(I)I"⟩
abbrev cX2_advice : ByteArray := prog_4_method_55_code
def yX2_advice : MethodName := ⟨RX2, "advice", "(I)I"⟩
abbrev cX2_bitsOf : ByteArray := prog_4_method_56_code
def yX2_bitsOf : MethodName := ⟨RX2, "bitsOf", "(F)I"⟩
abbrev cX2_wealth : ByteArray := prog_4_method_57_code
def yX2_wealth : MethodName := ⟨RX2, "wealth", "(I)I"⟩
abbrev cX2_sum : ByteArray := prog_4_method_58_code
def yX2_sum : MethodName := ⟨RX2, "sum", "(I)I"⟩
abbrev cX2_count : ByteArray := prog_4_method_59_code
def yX2_count : MethodName := ⟨RX2, "count", "(I)I"⟩
abbrev cX2_undo : ByteArray := prog_4_method_60_code
def yX2_undo : MethodName := ⟨RX2, "undo", "()I"⟩
abbrev cX2_type : ByteArray := prog_4_method_61_code
def yX2_type : MethodName := ⟨RX2, "type", "(I)I"⟩
abbrev cX2_clearText : ByteArray := prog_4_method_62_code
def yX2_clearText : MethodName := ⟨RX2, "clearText", "()I"⟩
abbrev cX2_sign : ByteArray := prog_4_method_63_code
def yX2_sign : MethodName := ⟨RX2, "sign", "(II)I"⟩
abbrev cX2_read : ByteArray := prog_4_method_64_code
def yX2_read : MethodName := ⟨RX2, "read", "()V"⟩
abbrev cX2_does : ByteArray := prog_4_method_65_code
def yX2_does : MethodName := ⟨RX2, "does", "()I"⟩
abbrev cX2_go : ByteArray := prog_4_method_66_code
def yX2_go : MethodName := ⟨RX2, "go", "()I"⟩
abbrev cX2_look : ByteArray := prog_4_method_67_code
def yX2_look : MethodName := ⟨RX2, "look", "()V"⟩
abbrev cX2_fault : ByteArray := prog_4_method_68_code
def yX2_fault : MethodName := ⟨RX2, "fault", "(I)I"⟩
abbrev cX2_perform : ByteArray := prog_4_method_69_code
def yX2_perform : MethodName := ⟨RX2, "perform", "()I"⟩
def RJ10 : String := "java/lang/System"
def TJ10 : u_T := fun k => match k with
  | _ => ("", "", "", false)
def tyJ10 : Nat → FieldType := fun k => match k with
  | _ => .int
abbrev wsJ100 : List Cond := u_ws RJ10 TJ10 0
theorem nmJ10 : ∀ a, a < 0 → ∀ b, b < 0 → a ≠ b → (TJ10 a).2.1 ≠ (TJ10 b).2.1 := by decide +kernel
theorem tyJ10_ok : ∀ k, k < 0 → parseFieldDescriptor (TJ10 k).2.2.1 = some (tyJ10 k) := by decide +kernel
def RJ7 : String := "java/util/Arrays"
def TJ7 : u_T := fun k => match k with
  | _ => ("", "", "", false)
def tyJ7 : Nat → FieldType := fun k => match k with
  | _ => .int
abbrev wsJ70 : List Cond := u_ws RJ7 TJ7 0
theorem nmJ7 : ∀ a, a < 0 → ∀ b, b < 0 → a ≠ b → (TJ7 a).2.1 ≠ (TJ7 b).2.1 := by decide +kernel
theorem tyJ7_ok : ∀ k, k < 0 → parseFieldDescriptor (TJ7 k).2.2.1 = some (tyJ7 k) := by decide +kernel
abbrev cJ7_fill_53178 : ByteArray := prog_6_method_103_code
def yJ7_fill_53178 : MethodName := ⟨RJ7, "fill", "([II)V"⟩
def RL : String := "TurningShopLaw"
abbrev cL_law : ByteArray := code
def yL_law : MethodName := ⟨RL, "law", "([I)Z"⟩
def wsL_law_r1 : List Cond := [Cond.classLink RL 7 RX1, Cond.instantiable RX1 9, Cond.initialized RX1, Cond.classLink RL 10 RX2, Cond.instantiable RX2 13, Cond.initialized RX2, Cond.methodLink RL 9 yX1_init, Cond.instanceMethod yX1_init, Cond.code yX1_init cX1_init 2 none, Cond.methodLink RX1 1 objectInit, Cond.instanceMethod objectInit, Cond.code objectInit ⟨#[0xb1]⟩ 1 none, Cond.classLink RX1 7 RX0, Cond.instantiable RX0 14, Cond.initialized RX0, Cond.fieldLink RX1 10 "TurningShop" "now" "LTurningShop$Game;", Cond.fieldLink RX1 16 "TurningShop" "spare" "LTurningShop$Game;", Cond.fieldLink RX1 19 "TurningShop" "history" "[LTurningShop$Game;", Cond.arrayClass .char, Cond.fieldLink RX1 23 "TurningShop" "text" "[C", Cond.fieldLink RX1 27 "TurningShop$Game" "setting" "I", Cond.methodLink RX1 9 yX0_init, Cond.instanceMethod yX0_init, Cond.code yX0_init cX0_init 1 none]
def wsL_law_r2 : List Cond := [Cond.methodLink RX0 3 objectInit, Cond.arrayClass .int, Cond.fieldLink RX0 9 "TurningShop$Game" "cards" "[I", Cond.fieldLink RX0 15 "TurningShop$Game" "starts" "[I", Cond.fieldLink RX0 18 "TurningShop$Game" "piles" "[I", Cond.fieldLink RX0 21 "TurningShop$Game" "scrapped" "[I", Cond.methodLink RX1 31 yX0_startGame, Cond.instanceMethod yX0_startGame, Cond.selects RX0 yX0_startGame yX0_startGame, Cond.code yX0_startGame cX0_startGame 3 (some .int), Cond.constant RX0 62 (-1000001), Cond.fieldLink RX0 30 "TurningShop$Game" "players" "I", Cond.fieldLink RX0 34 "TurningShop$Game" "player" "I", Cond.fieldLink RX0 49 "TurningShop$Game" "rowFirst" "I", Cond.fieldLink RX0 55 "TurningShop$Game" "endedTurns" "I", Cond.fieldLink RX0 58 "TurningShop$Game" "over" "Z", Cond.methodLink RX0 24 arraycopyName, Cond.native arraycopyName, Cond.static arraycopyName, Cond.initialized "java/lang/System", Cond.methodLink RX0 66 yJ7_fill_53178, Cond.static yJ7_fill_53178, Cond.initialized RJ7, Cond.code yJ7_fill_53178 cJ7_fill_53178 4 none]
def wsL_law_r3 : List Cond := [Cond.methodLink RX0 72 yX0_dealDecks, Cond.instanceMethod yX0_dealDecks, Cond.selects RX0 yX0_dealDecks yX0_dealDecks, Cond.code yX0_dealDecks cX0_dealDecks 4 none, Cond.methodLink RX0 75 yX0_drawCards, Cond.instanceMethod yX0_drawCards, Cond.selects RX0 yX0_drawCards yX0_drawCards, Cond.code yX0_drawCards cX0_drawCards 5 none, Cond.methodLink RX0 90 yX0_moveToEnd, Cond.instanceMethod yX0_moveToEnd, Cond.selects RX0 yX0_moveToEnd yX0_moveToEnd, Cond.code yX0_moveToEnd cX0_moveToEnd 8 none, Cond.methodLink RX0 79 yX0_beginTurn, Cond.instanceMethod yX0_beginTurn, Cond.selects RX0 yX0_beginTurn yX0_beginTurn, Cond.code yX0_beginTurn cX0_beginTurn 1 none, Cond.fieldLink RX0 37 "TurningShop$Game" "coins" "I", Cond.fieldLink RX0 40 "TurningShop$Game" "buys" "I", Cond.fieldLink RX0 43 "TurningShop$Game" "actions" "I", Cond.fieldLink RX0 46 "TurningShop$Game" "scraps" "I", Cond.methodLink RL 12 yX2_init, Cond.instanceMethod yX2_init, Cond.code yX2_init cX2_init 1 none, Cond.methodLink RX2 1 objectInit]
def wsL_law_r4 : List Cond := [Cond.fieldLink RX2 7 "TurningShopModel" "s" "[I", Cond.fieldLink RX2 13 "TurningShopModel" "aside" "[I", Cond.fieldLink RX2 16 "TurningShopModel" "before" "[I", Cond.fieldLink RX2 19 "TurningShopModel" "text" "[I", Cond.methodLink RX2 22 yX2_begins, Cond.instanceMethod yX2_begins, Cond.selects RX2 yX2_begins yX2_begins, Cond.code yX2_begins cX2_begins 6 (some .int), Cond.methodLink RX2 52 yX2_inPile, Cond.static yX2_inPile, Cond.code yX2_inPile cX2_inPile 1 (some .int), Cond.methodLink RX2 30 yX2_put, Cond.instanceMethod yX2_put, Cond.selects RX2 yX2_put yX2_put, Cond.code yX2_put cX2_put 5 none, Cond.methodLink RX2 26 yX2_placeOf, Cond.static yX2_placeOf, Cond.code yX2_placeOf cX2_placeOf 2 (some .int), Cond.methodLink RX2 55 yX2_draw, Cond.instanceMethod yX2_draw, Cond.selects RX2 yX2_draw yX2_draw, Cond.code yX2_draw cX2_draw 4 none, Cond.methodLink RX2 34 yX2_manyAt, Cond.instanceMethod yX2_manyAt]
def wsL_law_r5 : List Cond := [Cond.selects RX2 yX2_manyAt yX2_manyAt, Cond.code yX2_manyAt cX2_manyAt 3 (some .int), Cond.methodLink RX2 37 yX2_moveAll, Cond.instanceMethod yX2_moveAll, Cond.selects RX2 yX2_moveAll yX2_moveAll, Cond.code yX2_moveAll cX2_moveAll 6 none, Cond.methodLink RX2 40 yX2_take, Cond.instanceMethod yX2_take, Cond.selects RX2 yX2_take yX2_take, Cond.code yX2_take cX2_take 7 (some .int), Cond.methodLink RL 13 yX1_begin, Cond.instanceMethod yX1_begin, Cond.selects RX1 yX1_begin yX1_begin, Cond.code yX1_begin cX1_begin 2 (some .int), Cond.methodLink RX1 35 yX1_copyOfNow, Cond.instanceMethod yX1_copyOfNow, Cond.selects RX1 yX1_copyOfNow yX1_copyOfNow, Cond.code yX1_copyOfNow cX1_copyOfNow 1 (some (.object "TurningShop$Game")), Cond.methodLink RX1 169 yX0_copyFrom, Cond.instanceMethod yX0_copyFrom, Cond.selects RX0 yX0_copyFrom yX0_copyFrom, Cond.code yX0_copyFrom cX0_copyFrom 2 none, Cond.fieldLink RX0 52 "TurningShop$Game" "setting" "I", Cond.methodLink RX1 39 yX1_settle]
def wsL_law_r6 : List Cond := [Cond.instanceMethod yX1_settle, Cond.selects RX1 yX1_settle yX1_settle, Cond.code yX1_settle cX1_settle 3 (some .int), Cond.fieldLink RX1 150 "TurningShop" "states" "I", Cond.methodLink RX1 173 yX1_dropOldestState, Cond.instanceMethod yX1_dropOldestState, Cond.selects RX1 yX1_dropOldestState yX1_dropOldestState, Cond.code yX1_dropOldestState cX1_dropOldestState 3 none, Cond.methodLink RL 17 yX2_begin, Cond.instanceMethod yX2_begin, Cond.selects RX2 yX2_begin yX2_begin, Cond.code yX2_begin cX2_begin 2 (some .int), Cond.constant RX2 63 (-1000001), Cond.methodLink RX2 48 yX2_in, Cond.static yX2_in, Cond.code yX2_in cX2_in 3 (some .boolean), Cond.methodLink RX2 106 yX2_know, Cond.instanceMethod yX2_know, Cond.selects RX2 yX2_know yX2_know, Cond.code yX2_know cX2_know 2 none, Cond.fieldLink RX2 44 "TurningShopModel" "known" "I", Cond.methodLink RL 18 yX1_play, Cond.instanceMethod yX1_play, Cond.selects RX1 yX1_play yX1_play]
def wsL_law_r7 : List Cond := [Cond.code yX1_play cX1_play 2 (some .int), Cond.methodLink RX1 42 yX0_playCard, Cond.instanceMethod yX0_playCard, Cond.selects RX0 yX0_playCard yX0_playCard, Cond.code yX0_playCard cX0_playCard 5 (some .int), Cond.constant RX0 89 (-1000002), Cond.methodLink RX0 85 yX0_cardOf, Cond.instanceMethod yX0_cardOf, Cond.selects RX0 yX0_cardOf yX0_cardOf, Cond.code yX0_cardOf cX0_cardOf 6 (some .int), Cond.methodLink RX0 151 yX0_kindAt, Cond.instanceMethod yX0_kindAt, Cond.selects RX0 yX0_kindAt yX0_kindAt, Cond.code yX0_kindAt cX0_kindAt 2 (some .int), Cond.methodLink RX0 109 yX0_giveCurses, Cond.instanceMethod yX0_giveCurses, Cond.selects RX0 yX0_giveCurses yX0_giveCurses, Cond.code yX0_giveCurses cX0_giveCurses 3 none, Cond.methodLink RX0 115 yX0_playerBehind, Cond.instanceMethod yX0_playerBehind, Cond.selects RX0 yX0_playerBehind yX0_playerBehind, Cond.code yX0_playerBehind cX0_playerBehind 2 (some .int), Cond.methodLink RX0 119 yX0_takeFromPile, Cond.instanceMethod yX0_takeFromPile]
def wsL_law_r8 : List Cond := [Cond.selects RX0 yX0_takeFromPile yX0_takeFromPile, Cond.code yX0_takeFromPile cX0_takeFromPile 6 none, Cond.methodLink RL 21 yX2_play, Cond.instanceMethod yX2_play, Cond.selects RX2 yX2_play yX2_play, Cond.code yX2_play cX2_play 3 (some .int), Cond.methodLink RX2 109 yX2_playFault, Cond.instanceMethod yX2_playFault, Cond.selects RX2 yX2_playFault yX2_playFault, Cond.code yX2_playFault cX2_playFault 4 (some .int), Cond.constant RX2 67 (-1000002), Cond.methodLink RX2 59 yX2_isInHand, Cond.instanceMethod yX2_isInHand, Cond.selects RX2 yX2_isInHand yX2_isInHand, Cond.code yX2_isInHand cX2_isInHand 2 (some .boolean), Cond.methodLink RX2 64 yX2_inHand, Cond.instanceMethod yX2_inHand, Cond.selects RX2 yX2_inHand yX2_inHand, Cond.code yX2_inHand cX2_inHand 2 (some .int), Cond.methodLink RX2 91 yX2_plays, Cond.instanceMethod yX2_plays, Cond.selects RX2 yX2_plays yX2_plays, Cond.code yX2_plays cX2_plays 5 (some .int), Cond.methodLink RX2 68 yX2_coins]
def wsL_law_r9 : List Cond := [Cond.static yX2_coins, Cond.code yX2_coins cX2_coins 1 (some .int), Cond.methodLink RX2 71 yX2_cards, Cond.static yX2_cards, Cond.code yX2_cards cX2_cards 1 (some .int), Cond.methodLink RL 22 yX1_buy, Cond.instanceMethod yX1_buy, Cond.selects RX1 yX1_buy yX1_buy, Cond.code yX1_buy cX1_buy 2 (some .int), Cond.methodLink RX1 45 yX0_buyCard, Cond.instanceMethod yX0_buyCard, Cond.selects RX0 yX0_buyCard yX0_buyCard, Cond.code yX0_buyCard cX0_buyCard 2 (some .int), Cond.methodLink RX0 122 yX0_whyNotBought, Cond.instanceMethod yX0_whyNotBought, Cond.selects RX0 yX0_whyNotBought yX0_whyNotBought, Cond.code yX0_whyNotBought cX0_whyNotBought 2 (some .int), Cond.methodLink RX0 165 yX0_isInRow, Cond.instanceMethod yX0_isInRow, Cond.selects RX0 yX0_isInRow yX0_isInRow, Cond.code yX0_isInRow cX0_isInRow 2 (some .boolean), Cond.methodLink RL 25 yX2_buy, Cond.instanceMethod yX2_buy, Cond.selects RX2 yX2_buy yX2_buy]
def wsL_law_r10 : List Cond := [Cond.code yX2_buy cX2_buy 3 (some .int), Cond.methodLink RX2 112 yX2_buyFault, Cond.instanceMethod yX2_buyFault, Cond.selects RX2 yX2_buyFault yX2_buyFault, Cond.code yX2_buyFault cX2_buyFault 2 (some .int), Cond.methodLink RX2 80 yX2_whyNot, Cond.instanceMethod yX2_whyNot, Cond.selects RX2 yX2_whyNot yX2_whyNot, Cond.code yX2_whyNot cX2_whyNot 2 (some .int), Cond.methodLink RX2 74 yX2_isInRow, Cond.instanceMethod yX2_isInRow, Cond.selects RX2 yX2_isInRow yX2_isInRow, Cond.code yX2_isInRow cX2_isInRow 2 (some .boolean), Cond.methodLink RX2 77 yX2_price, Cond.static yX2_price, Cond.code yX2_price cX2_price 1 (some .int), Cond.methodLink RX2 97 yX2_buys, Cond.instanceMethod yX2_buys, Cond.selects RX2 yX2_buys yX2_buys, Cond.code yX2_buys cX2_buys 2 (some .int), Cond.methodLink RL 26 yX1_scrap, Cond.instanceMethod yX1_scrap, Cond.selects RX1 yX1_scrap yX1_scrap, Cond.code yX1_scrap cX1_scrap 2 (some .int)]
def wsL_law_r11 : List Cond := [Cond.methodLink RX1 48 yX0_scrapCard, Cond.instanceMethod yX0_scrapCard, Cond.selects RX0 yX0_scrapCard yX0_scrapCard, Cond.code yX0_scrapCard cX0_scrapCard 3 (some .int), Cond.methodLink RL 29 yX2_scrap, Cond.instanceMethod yX2_scrap, Cond.selects RX2 yX2_scrap yX2_scrap, Cond.code yX2_scrap cX2_scrap 3 (some .int), Cond.methodLink RX2 115 yX2_scrapFault, Cond.instanceMethod yX2_scrapFault, Cond.selects RX2 yX2_scrapFault yX2_scrapFault, Cond.code yX2_scrapFault cX2_scrapFault 2 (some .int), Cond.methodLink RX2 118 yX2_scraps, Cond.instanceMethod yX2_scraps, Cond.selects RX2 yX2_scraps yX2_scraps, Cond.code yX2_scraps cX2_scraps 3 (some .int), Cond.methodLink RL 30 yX1_end, Cond.instanceMethod yX1_end, Cond.selects RX1 yX1_end yX1_end, Cond.code yX1_end cX1_end 1 (some .int), Cond.methodLink RX1 51 yX0_endTurn, Cond.instanceMethod yX0_endTurn, Cond.selects RX0 yX0_endTurn yX0_endTurn, Cond.code yX0_endTurn cX0_endTurn 2 (some .int)]
def wsL_law_r12 : List Cond := [Cond.methodLink RX0 128 yX0_emptyPiles, Cond.instanceMethod yX0_emptyPiles, Cond.selects RX0 yX0_emptyPiles yX0_emptyPiles, Cond.code yX0_emptyPiles cX0_emptyPiles 3 (some .int), Cond.methodLink RL 34 yX2_end, Cond.instanceMethod yX2_end, Cond.selects RX2 yX2_end yX2_end, Cond.code yX2_end cX2_end 1 (some .int), Cond.methodLink RX2 100 yX2_ends, Cond.instanceMethod yX2_ends, Cond.selects RX2 yX2_ends yX2_ends, Cond.code yX2_ends cX2_ends 2 (some .int), Cond.methodLink RX2 83 yX2_emptyPiles, Cond.instanceMethod yX2_emptyPiles, Cond.selects RX2 yX2_emptyPiles yX2_emptyPiles, Cond.code yX2_emptyPiles cX2_emptyPiles 3 (some .int), Cond.methodLink RL 35 yX1_alike, Cond.instanceMethod yX1_alike, Cond.selects RX1 yX1_alike yX1_alike, Cond.code yX1_alike cX1_alike 2 (some .int), Cond.constant RX1 55 (-1000001), Cond.fieldLink RX1 56 "TurningShop$Game" "over" "Z", Cond.constant RX1 60 (-1000002), Cond.methodLink RX1 61 yX0_goOnAlike]
def wsL_law_r13 : List Cond := [Cond.instanceMethod yX0_goOnAlike, Cond.selects RX0 yX0_goOnAlike yX0_goOnAlike, Cond.code yX0_goOnAlike cX0_goOnAlike 3 (some .int), Cond.methodLink RX0 132 yX0_playTurnAlike, Cond.instanceMethod yX0_playTurnAlike, Cond.selects RX0 yX0_playTurnAlike yX0_playTurnAlike, Cond.code yX0_playTurnAlike cX0_playTurnAlike 3 none, Cond.methodLink RX0 135 yX0_firstInHand, Cond.instanceMethod yX0_firstInHand, Cond.selects RX0 yX0_firstInHand yX0_firstInHand, Cond.code yX0_firstInHand cX0_firstInHand 7 (some .int), Cond.methodLink RX0 139 yX0_playCard, Cond.methodLink RX0 142 yX0_dearestToBuy, Cond.instanceMethod yX0_dearestToBuy, Cond.selects RX0 yX0_dearestToBuy yX0_dearestToBuy, Cond.code yX0_dearestToBuy cX0_dearestToBuy 4 (some .int), Cond.methodLink RX0 145 yX0_buyCard, Cond.methodLink RX0 148 yX0_endTurn, Cond.methodLink RL 38 yX2_alike, Cond.instanceMethod yX2_alike, Cond.selects RX2 yX2_alike yX2_alike, Cond.code yX2_alike cX2_alike 2 (some .int), Cond.methodLink RX2 121 yX2_goesOn, Cond.instanceMethod yX2_goesOn]
def wsL_law_r14 : List Cond := [Cond.selects RX2 yX2_goesOn yX2_goesOn, Cond.code yX2_goesOn cX2_goesOn 3 (some .int), Cond.methodLink RX2 103 yX2_goOn, Cond.instanceMethod yX2_goOn, Cond.selects RX2 yX2_goOn yX2_goOn, Cond.code yX2_goOn cX2_goOn 2 none, Cond.methodLink RX2 87 yX2_firstOf, Cond.instanceMethod yX2_firstOf, Cond.selects RX2 yX2_firstOf yX2_firstOf, Cond.code yX2_firstOf cX2_firstOf 3 (some .int), Cond.methodLink RX2 94 yX2_dearest, Cond.instanceMethod yX2_dearest, Cond.selects RX2 yX2_dearest yX2_dearest, Cond.code yX2_dearest cX2_dearest 4 (some .int), Cond.methodLink RL 39 yX1_set, Cond.instanceMethod yX1_set, Cond.selects RX1 yX1_set yX1_set, Cond.code yX1_set cX1_set 4 (some .int), Cond.methodLink RL 43 yX2_set, Cond.instanceMethod yX2_set, Cond.selects RX2 yX2_set yX2_set, Cond.code yX2_set cX2_set 4 (some .int), Cond.methodLink RL 44 yX1_card, Cond.instanceMethod yX1_card]
def wsL_law_r15 : List Cond := [Cond.selects RX1 yX1_card yX1_card, Cond.code yX1_card cX1_card 5 (some .int), Cond.constant RX1 75 (-1000004), Cond.methodLink RX1 64 yX0_hasPlayer, Cond.instanceMethod yX0_hasPlayer, Cond.selects RX0 yX0_hasPlayer yX0_hasPlayer, Cond.code yX0_hasPlayer cX0_hasPlayer 2 (some .boolean), Cond.methodLink RX1 68 yX1_partAt, Cond.static yX1_partAt, Cond.code yX1_partAt cX1_partAt 1 (some .int), Cond.methodLink RX1 71 yX0_cardOf, Cond.methodLink RL 48 yX2_card, Cond.instanceMethod yX2_card, Cond.selects RX2 yX2_card yX2_card, Cond.code yX2_card cX2_card 4 (some .int), Cond.constant RX2 127 (-1000004), Cond.methodLink RX2 124 yX2_isPlayer, Cond.instanceMethod yX2_isPlayer, Cond.selects RX2 yX2_isPlayer yX2_isPlayer, Cond.code yX2_isPlayer cX2_isPlayer 2 (some .boolean), Cond.methodLink RL 49 yX1_many, Cond.instanceMethod yX1_many, Cond.selects RX1 yX1_many yX1_many, Cond.code yX1_many cX1_many 5 (some .int)]
def wsL_law_r16 : List Cond := [Cond.methodLink RX1 76 yX0_howMany, Cond.instanceMethod yX0_howMany, Cond.selects RX0 yX0_howMany yX0_howMany, Cond.code yX0_howMany cX0_howMany 9 (some .int), Cond.methodLink RL 52 yX2_many, Cond.instanceMethod yX2_many, Cond.selects RX2 yX2_many yX2_many, Cond.code yX2_many cX2_many 4 (some .int), Cond.methodLink RX2 128 yX2_cardsOf, Cond.instanceMethod yX2_cardsOf, Cond.selects RX2 yX2_cardsOf yX2_cardsOf, Cond.code yX2_cardsOf cX2_cardsOf 8 (some .int), Cond.methodLink RL 53 yX1_points, Cond.instanceMethod yX1_points, Cond.selects RX1 yX1_points yX1_points, Cond.code yX1_points cX1_points 2 (some .int), Cond.fieldLink RX1 80 "TurningShop" "POINTS" "[I", Cond.methodLink RX1 84 yX0_sumOf, Cond.instanceMethod yX0_sumOf, Cond.selects RX0 yX0_sumOf yX0_sumOf, Cond.code yX0_sumOf cX0_sumOf 5 (some .int), Cond.methodLink RX0 154 yX0_howMany, Cond.methodLink RL 56 yX2_points, Cond.instanceMethod yX2_points]
def wsL_law_r17 : List Cond := [Cond.selects RX2 yX2_points yX2_points, Cond.code yX2_points cX2_points 2 (some .int), Cond.methodLink RX2 135 yX2_pointsBy, Cond.instanceMethod yX2_pointsBy, Cond.selects RX2 yX2_pointsBy yX2_pointsBy, Cond.code yX2_pointsBy cX2_pointsBy 4 (some .int), Cond.methodLink RX2 132 yX2_pointsOf, Cond.static yX2_pointsOf, Cond.code yX2_pointsOf cX2_pointsOf 1 (some .int), Cond.methodLink RL 57 yX1_kindOf, Cond.instanceMethod yX1_kindOf, Cond.selects RX1 yX1_kindOf yX1_kindOf, Cond.code yX1_kindOf cX1_kindOf 3 (some .int), Cond.fieldLink RX1 88 "TurningShop" "PRICE" "[I", Cond.fieldLink RX1 91 "TurningShop$Game" "piles" "[I", Cond.fieldLink RX1 97 "TurningShop$Game" "scrapped" "[I", Cond.methodLink RX1 94 yX0_isInRow, Cond.methodLink RX1 100 yX0_whyNotBought, Cond.methodLink RL 60 yX2_kindOf, Cond.instanceMethod yX2_kindOf, Cond.selects RX2 yX2_kindOf yX2_kindOf, Cond.code yX2_kindOf cX2_kindOf 3 (some .int), Cond.methodLink RL 61 yX1_turn, Cond.instanceMethod yX1_turn]
def wsL_law_r18 : List Cond := [Cond.selects RX1 yX1_turn yX1_turn, Cond.code yX1_turn cX1_turn 2 (some .int), Cond.fieldLink RX1 103 "TurningShop$Game" "player" "I", Cond.fieldLink RX1 106 "TurningShop$Game" "coins" "I", Cond.fieldLink RX1 109 "TurningShop$Game" "buys" "I", Cond.fieldLink RX1 112 "TurningShop$Game" "actions" "I", Cond.fieldLink RX1 115 "TurningShop$Game" "scraps" "I", Cond.fieldLink RX1 121 "TurningShop$Game" "rowFirst" "I", Cond.methodLink RX1 118 yX0_kindsToBuy, Cond.instanceMethod yX0_kindsToBuy, Cond.selects RX0 yX0_kindsToBuy yX0_kindsToBuy, Cond.code yX0_kindsToBuy cX0_kindsToBuy 3 (some .int), Cond.methodLink RL 64 yX2_turn, Cond.instanceMethod yX2_turn, Cond.selects RX2 yX2_turn yX2_turn, Cond.code yX2_turn cX2_turn 2 (some .int), Cond.methodLink RX2 138 yX2_canBuy, Cond.instanceMethod yX2_canBuy, Cond.selects RX2 yX2_canBuy yX2_canBuy, Cond.code yX2_canBuy cX2_canBuy 3 (some .int), Cond.methodLink RL 65 yX1_purse, Cond.instanceMethod yX1_purse, Cond.selects RX1 yX1_purse yX1_purse, Cond.code yX1_purse cX1_purse 3 (some .int)]
def wsL_law_r19 : List Cond := [Cond.fieldLink RX1 124 "TurningShop" "GIVES_COINS" "[I", Cond.methodLink RL 68 yX2_purse, Cond.instanceMethod yX2_purse, Cond.selects RX2 yX2_purse yX2_purse, Cond.code yX2_purse cX2_purse 3 (some .int), Cond.methodLink RL 69 yX1_outcome, Cond.instanceMethod yX1_outcome, Cond.selects RX1 yX1_outcome yX1_outcome, Cond.code yX1_outcome cX1_outcome 5 (some .int), Cond.methodLink RX1 127 yX0_leader, Cond.instanceMethod yX0_leader, Cond.selects RX0 yX0_leader yX0_leader, Cond.code yX0_leader cX0_leader 3 (some .int), Cond.methodLink RX0 161 yX0_sumOf, Cond.methodLink RL 72 yX2_outcome, Cond.instanceMethod yX2_outcome, Cond.selects RX2 yX2_outcome yX2_outcome, Cond.code yX2_outcome cX2_outcome 5 (some .int), Cond.methodLink RX2 141 yX2_putAside, Cond.instanceMethod yX2_putAside, Cond.selects RX2 yX2_putAside yX2_putAside, Cond.code yX2_putAside cX2_putAside 2 none, Cond.methodLink RX2 144 yX2_leader, Cond.instanceMethod yX2_leader]
def wsL_law_r20 : List Cond := [Cond.selects RX2 yX2_leader yX2_leader, Cond.code yX2_leader cX2_leader 3 (some .int), Cond.methodLink RX2 147 yX2_putBack, Cond.instanceMethod yX2_putBack, Cond.selects RX2 yX2_putBack yX2_putBack, Cond.code yX2_putBack cX2_putBack 2 none, Cond.methodLink RL 73 yX1_advice, Cond.instanceMethod yX1_advice, Cond.selects RX1 yX1_advice yX1_advice, Cond.code yX1_advice cX1_advice 6 (some .int), Cond.methodLink RX1 130 yX1_pointsAfter, Cond.instanceMethod yX1_pointsAfter, Cond.selects RX1 yX1_pointsAfter yX1_pointsAfter, Cond.code yX1_pointsAfter cX1_pointsAfter 3 (some .int), Cond.methodLink RL 76 yX2_advice, Cond.instanceMethod yX2_advice, Cond.selects RX2 yX2_advice yX2_advice, Cond.code yX2_advice cX2_advice 7 (some .int), Cond.methodLink RX2 150 yX2_wouldHave, Cond.instanceMethod yX2_wouldHave, Cond.selects RX2 yX2_wouldHave yX2_wouldHave, Cond.code yX2_wouldHave cX2_wouldHave 6 (some .int), Cond.methodLink RL 77 yX1_wealth, Cond.instanceMethod yX1_wealth]
def wsL_law_r21 : List Cond := [Cond.selects RX1 yX1_wealth yX1_wealth, Cond.code yX1_wealth cX1_wealth 4 (some .int), Cond.methodLink RX1 133 yX1_bitsOf, Cond.static yX1_bitsOf, Cond.code yX1_bitsOf cX1_bitsOf 4 (some .int), Cond.constantFloat RX1 193 (1258291200), Cond.methodLink RL 80 yX2_wealth, Cond.instanceMethod yX2_wealth, Cond.selects RX2 yX2_wealth yX2_wealth, Cond.code yX2_wealth cX2_wealth 5 (some .int), Cond.methodLink RX2 156 yX2_bitsOf, Cond.static yX2_bitsOf, Cond.code yX2_bitsOf cX2_bitsOf 3 (some .int), Cond.constantFloat RX2 153 (1056964608), Cond.constant RX2 154 (8388608), Cond.constantFloat RX2 155 (1258291200), Cond.methodLink RL 81 yX1_count, Cond.instanceMethod yX1_count, Cond.selects RX1 yX1_count yX1_count, Cond.code yX1_count cX1_count 2 (some .int), Cond.fieldLink RX1 137 "TurningShop$Game" "players" "I", Cond.fieldLink RX1 140 "TurningShop$Game" "endedTurns" "I", Cond.fieldLink RX1 153 "TurningShop" "textLength" "I", Cond.methodLink RX1 143 yX0_emptyPiles]
def wsL_law_r22 : List Cond := [Cond.methodLink RX1 146 yX1_sum, Cond.static yX1_sum, Cond.code yX1_sum cX1_sum 3 (some .int), Cond.methodLink RL 84 yX2_count, Cond.instanceMethod yX2_count, Cond.selects RX2 yX2_count yX2_count, Cond.code yX2_count cX2_count 2 (some .int), Cond.fieldLink RX2 163 "TurningShopModel" "length" "I", Cond.methodLink RX2 160 yX2_sum, Cond.instanceMethod yX2_sum, Cond.selects RX2 yX2_sum yX2_sum, Cond.code yX2_sum cX2_sum 4 (some .int), Cond.methodLink RL 85 yX1_undo, Cond.instanceMethod yX1_undo, Cond.selects RX1 yX1_undo yX1_undo, Cond.code yX1_undo cX1_undo 2 (some .int), Cond.methodLink RL 88 yX2_undo, Cond.instanceMethod yX2_undo, Cond.selects RX2 yX2_undo yX2_undo, Cond.code yX2_undo cX2_undo 2 (some .int), Cond.methodLink RL 89 yX1_type, Cond.instanceMethod yX1_type, Cond.selects RX1 yX1_type yX1_type, Cond.code yX1_type cX1_type 2 (some .int)]
def wsL_law_r23 : List Cond := [Cond.constant RX1 156 (-1000003), Cond.methodLink RL 92 yX2_type, Cond.instanceMethod yX2_type, Cond.selects RX2 yX2_type yX2_type, Cond.code yX2_type cX2_type 2 (some .int), Cond.constant RX2 166 (-1000003), Cond.methodLink RL 93 yX1_clearText, Cond.instanceMethod yX1_clearText, Cond.selects RX1 yX1_clearText yX1_clearText, Cond.code yX1_clearText cX1_clearText 2 (some .int), Cond.methodLink RL 96 yX2_clearText, Cond.instanceMethod yX2_clearText, Cond.selects RX2 yX2_clearText yX2_clearText, Cond.code yX2_clearText cX2_clearText 2 (some .int), Cond.methodLink RL 97 yX1_fault, Cond.instanceMethod yX1_fault, Cond.selects RX1 yX1_fault yX1_fault, Cond.code yX1_fault cX1_fault 2 (some .int), Cond.fieldLink RX1 160 "TurningShop" "faultPosition" "I", Cond.fieldLink RX1 163 "TurningShop" "faultReason" "I", Cond.fieldLink RX1 166 "TurningShop" "faultCause" "I", Cond.methodLink RX1 157 yX1_tryText, Cond.instanceMethod yX1_tryText, Cond.selects RX1 yX1_tryText yX1_tryText]
def wsL_law_r24 : List Cond := [Cond.code yX1_tryText cX1_tryText 7 (some .int), Cond.methodLink RX1 176 yX1_isNumberedOrder, Cond.static yX1_isNumberedOrder, Cond.code yX1_isNumberedOrder cX1_isNumberedOrder 1 (some .boolean), Cond.methodLink RX1 180 yX1_keepFault, Cond.instanceMethod yX1_keepFault, Cond.selects RX1 yX1_keepFault yX1_keepFault, Cond.code yX1_keepFault cX1_keepFault 4 (some .int), Cond.methodLink RX1 183 yX1_digitsFrom, Cond.instanceMethod yX1_digitsFrom, Cond.selects RX1 yX1_digitsFrom yX1_digitsFrom, Cond.code yX1_digitsFrom cX1_digitsFrom 4 (some .int), Cond.methodLink RX1 186 yX1_numberBetween, Cond.instanceMethod yX1_numberBetween, Cond.selects RX1 yX1_numberBetween yX1_numberBetween, Cond.code yX1_numberBetween cX1_numberBetween 5 (some .int), Cond.methodLink RX1 190 yX1_doOrder, Cond.instanceMethod yX1_doOrder, Cond.selects RX1 yX1_doOrder yX1_doOrder, Cond.code yX1_doOrder cX1_doOrder 3 (some .int), Cond.methodLink RL 100 yX2_fault, Cond.instanceMethod yX2_fault, Cond.selects RX2 yX2_fault yX2_fault, Cond.code yX2_fault cX2_fault 2 (some .int)]
def wsL_law_r25 : List Cond := [Cond.fieldLink RX2 183 "TurningShopModel" "reason" "I", Cond.fieldLink RX2 186 "TurningShopModel" "position" "I", Cond.fieldLink RX2 195 "TurningShopModel" "cause" "I", Cond.methodLink RX2 201 yX2_look, Cond.instanceMethod yX2_look, Cond.selects RX2 yX2_look yX2_look, Cond.code yX2_look cX2_look 2 none, Cond.methodLink RX2 198 yX2_go, Cond.instanceMethod yX2_go, Cond.selects RX2 yX2_go yX2_go, Cond.code yX2_go cX2_go 2 (some .int), Cond.fieldLink RX2 167 "TurningShopModel" "at" "I", Cond.fieldLink RX2 170 "TurningShopModel" "isWrong" "Z", Cond.methodLink RX2 189 yX2_read, Cond.instanceMethod yX2_read, Cond.selects RX2 yX2_read yX2_read, Cond.code yX2_read cX2_read 3 none, Cond.fieldLink RX2 174 "TurningShopModel" "letter" "I", Cond.fieldLink RX2 177 "TurningShopModel" "number" "I", Cond.methodLink RX2 180 yX2_sign, Cond.instanceMethod yX2_sign, Cond.selects RX2 yX2_sign yX2_sign, Cond.code yX2_sign cX2_sign 4 (some .int), Cond.methodLink RX2 192 yX2_does]
def wsL_law_r26 : List Cond := [Cond.instanceMethod yX2_does, Cond.selects RX2 yX2_does yX2_does, Cond.code yX2_does cX2_does 3 (some .int), Cond.methodLink RL 101 yX1_perform, Cond.instanceMethod yX1_perform, Cond.selects RX1 yX1_perform yX1_perform, Cond.code yX1_perform cX1_perform 2 (some .int), Cond.methodLink RL 104 yX2_perform, Cond.instanceMethod yX2_perform, Cond.selects RX2 yX2_perform yX2_perform, Cond.code yX2_perform cX2_perform 1 (some .int)]
def wsL_law : List Cond := (wsL_law_r1 ++ (wsL_law_r2 ++ (wsL_law_r3 ++ (wsL_law_r4 ++ (wsL_law_r5 ++ (wsL_law_r6 ++ (wsL_law_r7 ++ (wsL_law_r8 ++ (wsL_law_r9 ++ (wsL_law_r10 ++ (wsL_law_r11 ++ (wsL_law_r12 ++ (wsL_law_r13 ++ (wsL_law_r14 ++ (wsL_law_r15 ++ (wsL_law_r16 ++ (wsL_law_r17 ++ (wsL_law_r18 ++ (wsL_law_r19 ++ (wsL_law_r20 ++ (wsL_law_r21 ++ (wsL_law_r22 ++ (wsL_law_r23 ++ (wsL_law_r24 ++ (wsL_law_r25 ++ wsL_law_r26))))))))))))))))))))))))) ++ wsX10 ++ wsX20 ++ wsX00 ++ ([] : List Cond)
abbrev vwCl : List vw_C := [(RX0, TX0, 14), (RX1, TX1, 9), (RX2, TX2, 13)]
theorem inlX0 : ∀ w ∈ wsX00, w ∈ wsL_law := fun _ h => List.mem_append_left _ (List.mem_append_right _ h)
theorem inlX1 : ∀ w ∈ wsX10, w ∈ wsL_law := fun _ h => List.mem_append_left _ (List.mem_append_left _ (List.mem_append_left _ (List.mem_append_right _ h)))
theorem inlX2 : ∀ w ∈ wsX20, w ∈ wsL_law := fun _ h => List.mem_append_left _ (List.mem_append_left _ (List.mem_append_right _ h))
