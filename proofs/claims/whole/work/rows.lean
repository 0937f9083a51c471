section
-- ===== PART A: goes FIRST, ahead of the names: the tables' words, and 'selects' of the private methods out of them =====
/-- a private method of a class that the tables say can be made, by its rows of tables_1 -/
def lw_okq (q : MethodName × Nat) : Prop := (q.1.cls ≠ "java/lang/invoke/MethodHandle" ∧ q.1.cls ≠ "java/lang/invoke/VarHandle") ∧ Cond.instantiable q.1.cls q.2 ∈ tables_1 ∧ Cond.privateMethod q.1 ∈ tables_1 ∧ Cond.instanceMethod q.1 ∈ tables_1
theorem lw_p0 : lw_okq (⟨"TurningShop$Game", "dealDecks", "()V"⟩, 14) := ⟨⟨by decide +kernel, by decide +kernel⟩, List.mem_of_getElem? (i := 15) (by decide +kernel), List.mem_of_getElem? (i := 91) (by decide +kernel), List.mem_of_getElem? (i := 92) (by decide +kernel)⟩
theorem lw_p1 : lw_okq (⟨"TurningShop$Game", "drawCards", "(II)V"⟩, 14) := ⟨⟨by decide +kernel, by decide +kernel⟩, List.mem_of_getElem? (i := 15) (by decide +kernel), List.mem_of_getElem? (i := 97) (by decide +kernel), List.mem_of_getElem? (i := 98) (by decide +kernel)⟩
theorem lw_p2 : lw_okq (⟨"TurningShop$Game", "moveToEnd", "(III)V"⟩, 14) := ⟨⟨by decide +kernel, by decide +kernel⟩, List.mem_of_getElem? (i := 15) (by decide +kernel), List.mem_of_getElem? (i := 101) (by decide +kernel), List.mem_of_getElem? (i := 102) (by decide +kernel)⟩
theorem lw_p3 : lw_okq (⟨"TurningShop$Game", "beginTurn", "()V"⟩, 14) := ⟨⟨by decide +kernel, by decide +kernel⟩, List.mem_of_getElem? (i := 15) (by decide +kernel), List.mem_of_getElem? (i := 105) (by decide +kernel), List.mem_of_getElem? (i := 106) (by decide +kernel)⟩
theorem lw_p4 : lw_okq (⟨"TurningShop", "copyOfNow", "()LTurningShop$Game;"⟩, 9) := ⟨⟨by decide +kernel, by decide +kernel⟩, List.mem_of_getElem? (i := 7) (by decide +kernel), List.mem_of_getElem? (i := 142) (by decide +kernel), List.mem_of_getElem? (i := 143) (by decide +kernel)⟩
theorem lw_p5 : lw_okq (⟨"TurningShop", "settle", "(I)I"⟩, 9) := ⟨⟨by decide +kernel, by decide +kernel⟩, List.mem_of_getElem? (i := 7) (by decide +kernel), List.mem_of_getElem? (i := 150) (by decide +kernel), List.mem_of_getElem? (i := 151) (by decide +kernel)⟩
theorem lw_p6 : lw_okq (⟨"TurningShop", "dropOldestState", "()V"⟩, 9) := ⟨⟨by decide +kernel, by decide +kernel⟩, List.mem_of_getElem? (i := 7) (by decide +kernel), List.mem_of_getElem? (i := 154) (by decide +kernel), List.mem_of_getElem? (i := 155) (by decide +kernel)⟩
theorem lw_p7 : lw_okq (⟨"TurningShop$Game", "giveCurses", "()V"⟩, 14) := ⟨⟨by decide +kernel, by decide +kernel⟩, List.mem_of_getElem? (i := 15) (by decide +kernel), List.mem_of_getElem? (i := 181) (by decide +kernel), List.mem_of_getElem? (i := 182) (by decide +kernel)⟩
theorem lw_p8 : lw_okq (⟨"TurningShop$Game", "playerBehind", "(I)I"⟩, 14) := ⟨⟨by decide +kernel, by decide +kernel⟩, List.mem_of_getElem? (i := 15) (by decide +kernel), List.mem_of_getElem? (i := 185) (by decide +kernel), List.mem_of_getElem? (i := 186) (by decide +kernel)⟩
theorem lw_p9 : lw_okq (⟨"TurningShop$Game", "takeFromPile", "(II)V"⟩, 14) := ⟨⟨by decide +kernel, by decide +kernel⟩, List.mem_of_getElem? (i := 15) (by decide +kernel), List.mem_of_getElem? (i := 189) (by decide +kernel), List.mem_of_getElem? (i := 190) (by decide +kernel)⟩
theorem lw_p10 : lw_okq (⟨"TurningShop$Game", "playTurnAlike", "()V"⟩, 14) := ⟨⟨by decide +kernel, by decide +kernel⟩, List.mem_of_getElem? (i := 15) (by decide +kernel), List.mem_of_getElem? (i := 243) (by decide +kernel), List.mem_of_getElem? (i := 244) (by decide +kernel)⟩
theorem lw_p11 : lw_okq (⟨"TurningShop$Game", "firstInHand", "(II)I"⟩, 14) := ⟨⟨by decide +kernel, by decide +kernel⟩, List.mem_of_getElem? (i := 15) (by decide +kernel), List.mem_of_getElem? (i := 247) (by decide +kernel), List.mem_of_getElem? (i := 248) (by decide +kernel)⟩
theorem lw_p12 : lw_okq (⟨"TurningShop$Game", "dearestToBuy", "()I"⟩, 14) := ⟨⟨by decide +kernel, by decide +kernel⟩, List.mem_of_getElem? (i := 15) (by decide +kernel), List.mem_of_getElem? (i := 252) (by decide +kernel), List.mem_of_getElem? (i := 253) (by decide +kernel)⟩
theorem lw_p13 : lw_okq (⟨"TurningShop", "pointsAfter", "(I)I"⟩, 9) := ⟨⟨by decide +kernel, by decide +kernel⟩, List.mem_of_getElem? (i := 7) (by decide +kernel), List.mem_of_getElem? (i := 327) (by decide +kernel), List.mem_of_getElem? (i := 328) (by decide +kernel)⟩
theorem lw_p14 : lw_okq (⟨"TurningShop", "tryText", "()I"⟩, 9) := ⟨⟨by decide +kernel, by decide +kernel⟩, List.mem_of_getElem? (i := 7) (by decide +kernel), List.mem_of_getElem? (i := 364) (by decide +kernel), List.mem_of_getElem? (i := 365) (by decide +kernel)⟩
theorem lw_p15 : lw_okq (⟨"TurningShop", "keepFault", "(III)I"⟩, 9) := ⟨⟨by decide +kernel, by decide +kernel⟩, List.mem_of_getElem? (i := 7) (by decide +kernel), List.mem_of_getElem? (i := 371) (by decide +kernel), List.mem_of_getElem? (i := 372) (by decide +kernel)⟩
def lw_privs_1 : List (MethodName × Nat) := [(⟨"TurningShop$Game", "dealDecks", "()V"⟩, 14), (⟨"TurningShop$Game", "drawCards", "(II)V"⟩, 14), (⟨"TurningShop$Game", "moveToEnd", "(III)V"⟩, 14), (⟨"TurningShop$Game", "beginTurn", "()V"⟩, 14), (⟨"TurningShop", "copyOfNow", "()LTurningShop$Game;"⟩, 9), (⟨"TurningShop", "settle", "(I)I"⟩, 9), (⟨"TurningShop", "dropOldestState", "()V"⟩, 9), (⟨"TurningShop$Game", "giveCurses", "()V"⟩, 14), (⟨"TurningShop$Game", "playerBehind", "(I)I"⟩, 14), (⟨"TurningShop$Game", "takeFromPile", "(II)V"⟩, 14), (⟨"TurningShop$Game", "playTurnAlike", "()V"⟩, 14), (⟨"TurningShop$Game", "firstInHand", "(II)I"⟩, 14), (⟨"TurningShop$Game", "dearestToBuy", "()I"⟩, 14), (⟨"TurningShop", "pointsAfter", "(I)I"⟩, 9), (⟨"TurningShop", "tryText", "()I"⟩, 9), (⟨"TurningShop", "keepFault", "(III)I"⟩, 9)]
theorem lw_r1 : ∀ q ∈ lw_privs_1, lw_okq q := List.forall_mem_cons.mpr ⟨lw_p0, List.forall_mem_cons.mpr ⟨lw_p1, List.forall_mem_cons.mpr ⟨lw_p2, List.forall_mem_cons.mpr ⟨lw_p3, List.forall_mem_cons.mpr ⟨lw_p4, List.forall_mem_cons.mpr ⟨lw_p5, List.forall_mem_cons.mpr ⟨lw_p6, List.forall_mem_cons.mpr ⟨lw_p7, List.forall_mem_cons.mpr ⟨lw_p8, List.forall_mem_cons.mpr ⟨lw_p9, List.forall_mem_cons.mpr ⟨lw_p10, List.forall_mem_cons.mpr ⟨lw_p11, List.forall_mem_cons.mpr ⟨lw_p12, List.forall_mem_cons.mpr ⟨lw_p13, List.forall_mem_cons.mpr ⟨lw_p14, List.forall_mem_cons.mpr ⟨lw_p15, fun _ h => absurd h List.not_mem_nil⟩⟩⟩⟩⟩⟩⟩⟩⟩⟩⟩⟩⟩⟩⟩⟩
theorem lw_p16 : lw_okq (⟨"TurningShop", "digitsFrom", "(I)I"⟩, 9) := ⟨⟨by decide +kernel, by decide +kernel⟩, List.mem_of_getElem? (i := 7) (by decide +kernel), List.mem_of_getElem? (i := 375) (by decide +kernel), List.mem_of_getElem? (i := 376) (by decide +kernel)⟩
theorem lw_p17 : lw_okq (⟨"TurningShop", "numberBetween", "(II)I"⟩, 9) := ⟨⟨by decide +kernel, by decide +kernel⟩, List.mem_of_getElem? (i := 7) (by decide +kernel), List.mem_of_getElem? (i := 379) (by decide +kernel), List.mem_of_getElem? (i := 380) (by decide +kernel)⟩
theorem lw_p18 : lw_okq (⟨"TurningShop", "doOrder", "(II)I"⟩, 9) := ⟨⟨by decide +kernel, by decide +kernel⟩, List.mem_of_getElem? (i := 7) (by decide +kernel), List.mem_of_getElem? (i := 383) (by decide +kernel), List.mem_of_getElem? (i := 384) (by decide +kernel)⟩
theorem lw_p19 : lw_okq (⟨"TurningShopModel", "begins", "(I)I"⟩, 13) := ⟨⟨by decide +kernel, by decide +kernel⟩, List.mem_of_getElem? (i := 391) (by decide +kernel), List.mem_of_getElem? (i := 397) (by decide +kernel), List.mem_of_getElem? (i := 398) (by decide +kernel)⟩
theorem lw_p20 : lw_okq (⟨"TurningShopModel", "put", "(III)V"⟩, 13) := ⟨⟨by decide +kernel, by decide +kernel⟩, List.mem_of_getElem? (i := 391) (by decide +kernel), List.mem_of_getElem? (i := 404) (by decide +kernel), List.mem_of_getElem? (i := 405) (by decide +kernel)⟩
theorem lw_p21 : lw_okq (⟨"TurningShopModel", "draw", "(II)V"⟩, 13) := ⟨⟨by decide +kernel, by decide +kernel⟩, List.mem_of_getElem? (i := 391) (by decide +kernel), List.mem_of_getElem? (i := 411) (by decide +kernel), List.mem_of_getElem? (i := 412) (by decide +kernel)⟩
theorem lw_p22 : lw_okq (⟨"TurningShopModel", "manyAt", "(II)I"⟩, 13) := ⟨⟨by decide +kernel, by decide +kernel⟩, List.mem_of_getElem? (i := 391) (by decide +kernel), List.mem_of_getElem? (i := 415) (by decide +kernel), List.mem_of_getElem? (i := 416) (by decide +kernel)⟩
theorem lw_p23 : lw_okq (⟨"TurningShopModel", "moveAll", "(III)V"⟩, 13) := ⟨⟨by decide +kernel, by decide +kernel⟩, List.mem_of_getElem? (i := 391) (by decide +kernel), List.mem_of_getElem? (i := 419) (by decide +kernel), List.mem_of_getElem? (i := 420) (by decide +kernel)⟩
theorem lw_p24 : lw_okq (⟨"TurningShopModel", "take", "(III)I"⟩, 13) := ⟨⟨by decide +kernel, by decide +kernel⟩, List.mem_of_getElem? (i := 391) (by decide +kernel), List.mem_of_getElem? (i := 423) (by decide +kernel), List.mem_of_getElem? (i := 424) (by decide +kernel)⟩
theorem lw_p25 : lw_okq (⟨"TurningShopModel", "know", "()V"⟩, 13) := ⟨⟨by decide +kernel, by decide +kernel⟩, List.mem_of_getElem? (i := 391) (by decide +kernel), List.mem_of_getElem? (i := 475) (by decide +kernel), List.mem_of_getElem? (i := 476) (by decide +kernel)⟩
theorem lw_p26 : lw_okq (⟨"TurningShopModel", "playFault", "(I)I"⟩, 13) := ⟨⟨by decide +kernel, by decide +kernel⟩, List.mem_of_getElem? (i := 391) (by decide +kernel), List.mem_of_getElem? (i := 483) (by decide +kernel), List.mem_of_getElem? (i := 484) (by decide +kernel)⟩
theorem lw_p27 : lw_okq (⟨"TurningShopModel", "isInHand", "(I)Z"⟩, 13) := ⟨⟨by decide +kernel, by decide +kernel⟩, List.mem_of_getElem? (i := 391) (by decide +kernel), List.mem_of_getElem? (i := 487) (by decide +kernel), List.mem_of_getElem? (i := 488) (by decide +kernel)⟩
theorem lw_p28 : lw_okq (⟨"TurningShopModel", "inHand", "(I)I"⟩, 13) := ⟨⟨by decide +kernel, by decide +kernel⟩, List.mem_of_getElem? (i := 391) (by decide +kernel), List.mem_of_getElem? (i := 491) (by decide +kernel), List.mem_of_getElem? (i := 492) (by decide +kernel)⟩
theorem lw_p29 : lw_okq (⟨"TurningShopModel", "plays", "(I)I"⟩, 13) := ⟨⟨by decide +kernel, by decide +kernel⟩, List.mem_of_getElem? (i := 391) (by decide +kernel), List.mem_of_getElem? (i := 496) (by decide +kernel), List.mem_of_getElem? (i := 497) (by decide +kernel)⟩
theorem lw_p30 : lw_okq (⟨"TurningShopModel", "buyFault", "(I)I"⟩, 13) := ⟨⟨by decide +kernel, by decide +kernel⟩, List.mem_of_getElem? (i := 391) (by decide +kernel), List.mem_of_getElem? (i := 510) (by decide +kernel), List.mem_of_getElem? (i := 511) (by decide +kernel)⟩
theorem lw_p31 : lw_okq (⟨"TurningShopModel", "whyNot", "(I)I"⟩, 13) := ⟨⟨by decide +kernel, by decide +kernel⟩, List.mem_of_getElem? (i := 391) (by decide +kernel), List.mem_of_getElem? (i := 514) (by decide +kernel), List.mem_of_getElem? (i := 515) (by decide +kernel)⟩
def lw_privs_2 : List (MethodName × Nat) := [(⟨"TurningShop", "digitsFrom", "(I)I"⟩, 9), (⟨"TurningShop", "numberBetween", "(II)I"⟩, 9), (⟨"TurningShop", "doOrder", "(II)I"⟩, 9), (⟨"TurningShopModel", "begins", "(I)I"⟩, 13), (⟨"TurningShopModel", "put", "(III)V"⟩, 13), (⟨"TurningShopModel", "draw", "(II)V"⟩, 13), (⟨"TurningShopModel", "manyAt", "(II)I"⟩, 13), (⟨"TurningShopModel", "moveAll", "(III)V"⟩, 13), (⟨"TurningShopModel", "take", "(III)I"⟩, 13), (⟨"TurningShopModel", "know", "()V"⟩, 13), (⟨"TurningShopModel", "playFault", "(I)I"⟩, 13), (⟨"TurningShopModel", "isInHand", "(I)Z"⟩, 13), (⟨"TurningShopModel", "inHand", "(I)I"⟩, 13), (⟨"TurningShopModel", "plays", "(I)I"⟩, 13), (⟨"TurningShopModel", "buyFault", "(I)I"⟩, 13), (⟨"TurningShopModel", "whyNot", "(I)I"⟩, 13)]
theorem lw_r2 : ∀ q ∈ lw_privs_2, lw_okq q := List.forall_mem_cons.mpr ⟨lw_p16, List.forall_mem_cons.mpr ⟨lw_p17, List.forall_mem_cons.mpr ⟨lw_p18, List.forall_mem_cons.mpr ⟨lw_p19, List.forall_mem_cons.mpr ⟨lw_p20, List.forall_mem_cons.mpr ⟨lw_p21, List.forall_mem_cons.mpr ⟨lw_p22, List.forall_mem_cons.mpr ⟨lw_p23, List.forall_mem_cons.mpr ⟨lw_p24, List.forall_mem_cons.mpr ⟨lw_p25, List.forall_mem_cons.mpr ⟨lw_p26, List.forall_mem_cons.mpr ⟨lw_p27, List.forall_mem_cons.mpr ⟨lw_p28, List.forall_mem_cons.mpr ⟨lw_p29, List.forall_mem_cons.mpr ⟨lw_p30, List.forall_mem_cons.mpr ⟨lw_p31, fun _ h => absurd h List.not_mem_nil⟩⟩⟩⟩⟩⟩⟩⟩⟩⟩⟩⟩⟩⟩⟩⟩
theorem lw_p32 : lw_okq (⟨"TurningShopModel", "isInRow", "(I)Z"⟩, 13) := ⟨⟨by decide +kernel, by decide +kernel⟩, List.mem_of_getElem? (i := 391) (by decide +kernel), List.mem_of_getElem? (i := 518) (by decide +kernel), List.mem_of_getElem? (i := 519) (by decide +kernel)⟩
theorem lw_p33 : lw_okq (⟨"TurningShopModel", "buys", "(I)I"⟩, 13) := ⟨⟨by decide +kernel, by decide +kernel⟩, List.mem_of_getElem? (i := 391) (by decide +kernel), List.mem_of_getElem? (i := 525) (by decide +kernel), List.mem_of_getElem? (i := 526) (by decide +kernel)⟩
theorem lw_p34 : lw_okq (⟨"TurningShopModel", "scrapFault", "(I)I"⟩, 13) := ⟨⟨by decide +kernel, by decide +kernel⟩, List.mem_of_getElem? (i := 391) (by decide +kernel), List.mem_of_getElem? (i := 533) (by decide +kernel), List.mem_of_getElem? (i := 534) (by decide +kernel)⟩
theorem lw_p35 : lw_okq (⟨"TurningShopModel", "scraps", "(I)I"⟩, 13) := ⟨⟨by decide +kernel, by decide +kernel⟩, List.mem_of_getElem? (i := 391) (by decide +kernel), List.mem_of_getElem? (i := 537) (by decide +kernel), List.mem_of_getElem? (i := 538) (by decide +kernel)⟩
theorem lw_p36 : lw_okq (⟨"TurningShopModel", "ends", "()I"⟩, 13) := ⟨⟨by decide +kernel, by decide +kernel⟩, List.mem_of_getElem? (i := 391) (by decide +kernel), List.mem_of_getElem? (i := 545) (by decide +kernel), List.mem_of_getElem? (i := 546) (by decide +kernel)⟩
theorem lw_p37 : lw_okq (⟨"TurningShopModel", "emptyPiles", "()I"⟩, 13) := ⟨⟨by decide +kernel, by decide +kernel⟩, List.mem_of_getElem? (i := 391) (by decide +kernel), List.mem_of_getElem? (i := 549) (by decide +kernel), List.mem_of_getElem? (i := 550) (by decide +kernel)⟩
theorem lw_p38 : lw_okq (⟨"TurningShopModel", "goesOn", "(I)I"⟩, 13) := ⟨⟨by decide +kernel, by decide +kernel⟩, List.mem_of_getElem? (i := 391) (by decide +kernel), List.mem_of_getElem? (i := 557) (by decide +kernel), List.mem_of_getElem? (i := 558) (by decide +kernel)⟩
theorem lw_p39 : lw_okq (⟨"TurningShopModel", "goOn", "()V"⟩, 13) := ⟨⟨by decide +kernel, by decide +kernel⟩, List.mem_of_getElem? (i := 391) (by decide +kernel), List.mem_of_getElem? (i := 561) (by decide +kernel), List.mem_of_getElem? (i := 562) (by decide +kernel)⟩
theorem lw_p40 : lw_okq (⟨"TurningShopModel", "firstOf", "(Z)I"⟩, 13) := ⟨⟨by decide +kernel, by decide +kernel⟩, List.mem_of_getElem? (i := 391) (by decide +kernel), List.mem_of_getElem? (i := 565) (by decide +kernel), List.mem_of_getElem? (i := 566) (by decide +kernel)⟩
theorem lw_p41 : lw_okq (⟨"TurningShopModel", "dearest", "()I"⟩, 13) := ⟨⟨by decide +kernel, by decide +kernel⟩, List.mem_of_getElem? (i := 391) (by decide +kernel), List.mem_of_getElem? (i := 569) (by decide +kernel), List.mem_of_getElem? (i := 570) (by decide +kernel)⟩
theorem lw_p42 : lw_okq (⟨"TurningShopModel", "isPlayer", "(I)Z"⟩, 13) := ⟨⟨by decide +kernel, by decide +kernel⟩, List.mem_of_getElem? (i := 391) (by decide +kernel), List.mem_of_getElem? (i := 581) (by decide +kernel), List.mem_of_getElem? (i := 582) (by decide +kernel)⟩
theorem lw_p43 : lw_okq (⟨"TurningShopModel", "cardsOf", "(IIII)I"⟩, 13) := ⟨⟨by decide +kernel, by decide +kernel⟩, List.mem_of_getElem? (i := 391) (by decide +kernel), List.mem_of_getElem? (i := 590) (by decide +kernel), List.mem_of_getElem? (i := 591) (by decide +kernel)⟩
theorem lw_p44 : lw_okq (⟨"TurningShopModel", "pointsBy", "(I)I"⟩, 13) := ⟨⟨by decide +kernel, by decide +kernel⟩, List.mem_of_getElem? (i := 391) (by decide +kernel), List.mem_of_getElem? (i := 598) (by decide +kernel), List.mem_of_getElem? (i := 599) (by decide +kernel)⟩
theorem lw_p45 : lw_okq (⟨"TurningShopModel", "canBuy", "()I"⟩, 13) := ⟨⟨by decide +kernel, by decide +kernel⟩, List.mem_of_getElem? (i := 391) (by decide +kernel), List.mem_of_getElem? (i := 613) (by decide +kernel), List.mem_of_getElem? (i := 614) (by decide +kernel)⟩
theorem lw_p46 : lw_okq (⟨"TurningShopModel", "putAside", "()V"⟩, 13) := ⟨⟨by decide +kernel, by decide +kernel⟩, List.mem_of_getElem? (i := 391) (by decide +kernel), List.mem_of_getElem? (i := 625) (by decide +kernel), List.mem_of_getElem? (i := 626) (by decide +kernel)⟩
theorem lw_p47 : lw_okq (⟨"TurningShopModel", "leader", "()I"⟩, 13) := ⟨⟨by decide +kernel, by decide +kernel⟩, List.mem_of_getElem? (i := 391) (by decide +kernel), List.mem_of_getElem? (i := 629) (by decide +kernel), List.mem_of_getElem? (i := 630) (by decide +kernel)⟩
def lw_privs_3 : List (MethodName × Nat) := [(⟨"TurningShopModel", "isInRow", "(I)Z"⟩, 13), (⟨"TurningShopModel", "buys", "(I)I"⟩, 13), (⟨"TurningShopModel", "scrapFault", "(I)I"⟩, 13), (⟨"TurningShopModel", "scraps", "(I)I"⟩, 13), (⟨"TurningShopModel", "ends", "()I"⟩, 13), (⟨"TurningShopModel", "emptyPiles", "()I"⟩, 13), (⟨"TurningShopModel", "goesOn", "(I)I"⟩, 13), (⟨"TurningShopModel", "goOn", "()V"⟩, 13), (⟨"TurningShopModel", "firstOf", "(Z)I"⟩, 13), (⟨"TurningShopModel", "dearest", "()I"⟩, 13), (⟨"TurningShopModel", "isPlayer", "(I)Z"⟩, 13), (⟨"TurningShopModel", "cardsOf", "(IIII)I"⟩, 13), (⟨"TurningShopModel", "pointsBy", "(I)I"⟩, 13), (⟨"TurningShopModel", "canBuy", "()I"⟩, 13), (⟨"TurningShopModel", "putAside", "()V"⟩, 13), (⟨"TurningShopModel", "leader", "()I"⟩, 13)]
theorem lw_r3 : ∀ q ∈ lw_privs_3, lw_okq q := List.forall_mem_cons.mpr ⟨lw_p32, List.forall_mem_cons.mpr ⟨lw_p33, List.forall_mem_cons.mpr ⟨lw_p34, List.forall_mem_cons.mpr ⟨lw_p35, List.forall_mem_cons.mpr ⟨lw_p36, List.forall_mem_cons.mpr ⟨lw_p37, List.forall_mem_cons.mpr ⟨lw_p38, List.forall_mem_cons.mpr ⟨lw_p39, List.forall_mem_cons.mpr ⟨lw_p40, List.forall_mem_cons.mpr ⟨lw_p41, List.forall_mem_cons.mpr ⟨lw_p42, List.forall_mem_cons.mpr ⟨lw_p43, List.forall_mem_cons.mpr ⟨lw_p44, List.forall_mem_cons.mpr ⟨lw_p45, List.forall_mem_cons.mpr ⟨lw_p46, List.forall_mem_cons.mpr ⟨lw_p47, fun _ h => absurd h List.not_mem_nil⟩⟩⟩⟩⟩⟩⟩⟩⟩⟩⟩⟩⟩⟩⟩⟩
theorem lw_p48 : lw_okq (⟨"TurningShopModel", "putBack", "()V"⟩, 13) := ⟨⟨by decide +kernel, by decide +kernel⟩, List.mem_of_getElem? (i := 391) (by decide +kernel), List.mem_of_getElem? (i := 633) (by decide +kernel), List.mem_of_getElem? (i := 634) (by decide +kernel)⟩
theorem lw_p49 : lw_okq (⟨"TurningShopModel", "wouldHave", "(I)I"⟩, 13) := ⟨⟨by decide +kernel, by decide +kernel⟩, List.mem_of_getElem? (i := 391) (by decide +kernel), List.mem_of_getElem? (i := 641) (by decide +kernel), List.mem_of_getElem? (i := 642) (by decide +kernel)⟩
theorem lw_p50 : lw_okq (⟨"TurningShopModel", "sum", "(I)I"⟩, 13) := ⟨⟨by decide +kernel, by decide +kernel⟩, List.mem_of_getElem? (i := 391) (by decide +kernel), List.mem_of_getElem? (i := 659) (by decide +kernel), List.mem_of_getElem? (i := 660) (by decide +kernel)⟩
theorem lw_p51 : lw_okq (⟨"TurningShopModel", "look", "()V"⟩, 13) := ⟨⟨by decide +kernel, by decide +kernel⟩, List.mem_of_getElem? (i := 391) (by decide +kernel), List.mem_of_getElem? (i := 680) (by decide +kernel), List.mem_of_getElem? (i := 681) (by decide +kernel)⟩
theorem lw_p52 : lw_okq (⟨"TurningShopModel", "go", "()I"⟩, 13) := ⟨⟨by decide +kernel, by decide +kernel⟩, List.mem_of_getElem? (i := 391) (by decide +kernel), List.mem_of_getElem? (i := 684) (by decide +kernel), List.mem_of_getElem? (i := 685) (by decide +kernel)⟩
theorem lw_p53 : lw_okq (⟨"TurningShopModel", "read", "()V"⟩, 13) := ⟨⟨by decide +kernel, by decide +kernel⟩, List.mem_of_getElem? (i := 391) (by decide +kernel), List.mem_of_getElem? (i := 688) (by decide +kernel), List.mem_of_getElem? (i := 689) (by decide +kernel)⟩
theorem lw_p54 : lw_okq (⟨"TurningShopModel", "sign", "(II)I"⟩, 13) := ⟨⟨by decide +kernel, by decide +kernel⟩, List.mem_of_getElem? (i := 391) (by decide +kernel), List.mem_of_getElem? (i := 692) (by decide +kernel), List.mem_of_getElem? (i := 693) (by decide +kernel)⟩
theorem lw_p55 : lw_okq (⟨"TurningShopModel", "does", "()I"⟩, 13) := ⟨⟨by decide +kernel, by decide +kernel⟩, List.mem_of_getElem? (i := 391) (by decide +kernel), List.mem_of_getElem? (i := 696) (by decide +kernel), List.mem_of_getElem? (i := 697) (by decide +kernel)⟩
def lw_privs_4 : List (MethodName × Nat) := [(⟨"TurningShopModel", "putBack", "()V"⟩, 13), (⟨"TurningShopModel", "wouldHave", "(I)I"⟩, 13), (⟨"TurningShopModel", "sum", "(I)I"⟩, 13), (⟨"TurningShopModel", "look", "()V"⟩, 13), (⟨"TurningShopModel", "go", "()I"⟩, 13), (⟨"TurningShopModel", "read", "()V"⟩, 13), (⟨"TurningShopModel", "sign", "(II)I"⟩, 13), (⟨"TurningShopModel", "does", "()I"⟩, 13)]
theorem lw_r4 : ∀ q ∈ lw_privs_4, lw_okq q := List.forall_mem_cons.mpr ⟨lw_p48, List.forall_mem_cons.mpr ⟨lw_p49, List.forall_mem_cons.mpr ⟨lw_p50, List.forall_mem_cons.mpr ⟨lw_p51, List.forall_mem_cons.mpr ⟨lw_p52, List.forall_mem_cons.mpr ⟨lw_p53, List.forall_mem_cons.mpr ⟨lw_p54, List.forall_mem_cons.mpr ⟨lw_p55, fun _ h => absurd h List.not_mem_nil⟩⟩⟩⟩⟩⟩⟩⟩
def lw_privs : List (MethodName × Nat) := lw_privs_1 ++ (lw_privs_2 ++ (lw_privs_3 ++ (lw_privs_4)))
def lw_tbl : List Cond := k2_sels lw_privs ++ tables_1
theorem lw_privs_ok : ∀ q ∈ lw_privs, lw_okq q := by
  show ∀ q ∈ lw_privs_1 ++ (lw_privs_2 ++ (lw_privs_3 ++ (lw_privs_4))), lw_okq q
  exact List.forall_mem_append.mpr ⟨lw_r1, List.forall_mem_append.mpr ⟨lw_r2, List.forall_mem_append.mpr ⟨lw_r3, lw_r4⟩⟩⟩
/-- the streams that the claim lets the run draw from -/
abbrev lw_cs : List Choice := [Jvm.Choice.named "NaN.bits"]
theorem lw_bits : nanBits ∈ lw_cs := by first | decide | exact List.mem_cons_self | simp [lw_cs, nanBits]

/-! ===== BEGIN words of one list among another's, by their places ===== -/
theorem goodIn_r {big : List Cond} (ws : List Cond) (ps : List Nat) (hp : ws = ps.filterMap (fun i => big[i]?)) (h : ws.all goodWord = true) : GoodIn big ws := by
  intro w hw
  have h1 := List.all_eq_true.mp h w hw
  rw [hp] at hw
  obtain ⟨i, -, hi⟩ := List.mem_filterMap.mp hw
  have hm : w ∈ big := by first | exact List.mem_of_getElem? hi | exact List.getElem?_mem hi
  exact ⟨hm, good_of_word h1⟩
theorem goodIn_app {big a b : List Cond} (ha : GoodIn big a) (hb : GoodIn big b) : GoodIn big (a ++ b) := fun w h => (List.mem_append.mp h).elim (ha w) (hb w)
theorem goodIn_ca {big a b : List Cond} {c : Cond} (ha : GoodIn big (c :: a)) (hb : GoodIn big b) : GoodIn big (c :: (a ++ b)) := fun w h => (List.mem_cons.mp h).elim (fun e => ha w (List.mem_cons.mpr (Or.inl e))) (fun h => (List.mem_append.mp h).elim (fun h => ha w (List.mem_cons.mpr (Or.inr h))) (hb w))
theorem goodIn_sub {big ws : List Cond} (hm : ∀ w ∈ ws, w ∈ big) (h : ws.all goodWord = true) : GoodIn big ws := fun w hw => ⟨hm w hw, good_of_word (List.all_eq_true.mp h w hw)⟩
/-! ===== END ===== -/

/-! ===== BEGIN printed: names, fields, word lists, decode rows ===== -/
def RX0 : String := "TurningShop$Game"
def TX0 : u_T := fun k => match k with
  | 0 => ("TurningShop$Game", "cards", "[I", true)
  | 1 => ("TurningShop$Game", "starts", "[I", true)
  | 2 => ("TurningShop$Game", "piles", "[I", true)
  | 3 => ("TurningShop$Game", "scrapped", "[I", true)
  | 4 => ("TurningShop$Game", "players", "I", false)
  | 5 => ("TurningShop$Game", "player", "I", false)
  | 6 => ("TurningShop$Game", "coins", "I", false)
  | 7 => ("TurningShop$Game", "buys", "I", false)
  | 8 => ("TurningShop$Game", "actions", "I", false)
  | 9 => ("TurningShop$Game", "scraps", "I", false)
  | 10 => ("TurningShop$Game", "rowFirst", "I", false)
  | 11 => ("TurningShop$Game", "setting", "I", false)
  | 12 => ("TurningShop$Game", "endedTurns", "I", false)
  | _ => ("TurningShop$Game", "over", "Z", false)
def tyX0 : Nat → FieldType := fun k => match k with
  | 0 => .array .int
  | 1 => .array .int
  | 2 => .array .int
  | 3 => .array .int
  | 4 => .int
  | 5 => .int
  | 6 => .int
  | 7 => .int
  | 8 => .int
  | 9 => .int
  | 10 => .int
  | 11 => .int
  | 12 => .int
  | _ => .boolean
abbrev wsX00 : List Cond := u_ws RX0 TX0 14
theorem nmX0 : ∀ a, a < 14 → ∀ b, b < 14 → a ≠ b → (TX0 a).2.1 ≠ (TX0 b).2.1 := by decide +kernel
theorem tyX0_ok : ∀ k, k < 14 → parseFieldDescriptor (TX0 k).2.2.1 = some (tyX0 k) := by decide +kernel
abbrev cX0_init : ByteArray := prog_2_method_1_code
def yX0_init : MethodName := ⟨RX0, "<init>", "()V"⟩
abbrev cX0_copyFrom : ByteArray := prog_2_method_2_code
def yX0_copyFrom : MethodName := ⟨RX0, "copyFrom", "(LTurningShop$Game;)V"⟩
abbrev cX0_startGame : ByteArray := prog_2_method_3_code
def yX0_startGame : MethodName := ⟨RX0, "startGame", "(I)I"⟩
abbrev cX0_dealDecks : ByteArray := prog_2_method_4_code
def yX0_dealDecks : MethodName := ⟨RX0, "dealDecks", "()V"⟩
abbrev cX0_beginTurn : ByteArray := prog_2_method_5_code
def yX0_beginTurn : MethodName := ⟨RX0, "beginTurn", "()V"⟩
abbrev cX0_playCard : ByteArray := prog_2_method_6_code
def yX0_playCard : MethodName := ⟨RX0, "playCard", "(I)I"⟩
abbrev cX0_giveCurses : ByteArray := prog_2_method_7_code
def yX0_giveCurses : MethodName := ⟨RX0, "giveCurses", "()V"⟩
abbrev cX0_buyCard : ByteArray := prog_2_method_8_code
def yX0_buyCard : MethodName := ⟨RX0, "buyCard", "(I)I"⟩
abbrev cX0_scrapCard : ByteArray := prog_2_method_9_code
def yX0_scrapCard : MethodName := ⟨RX0, "scrapCard", "(I)I"⟩
abbrev cX0_endTurn : ByteArray := prog_2_method_10_code
def yX0_endTurn : MethodName := ⟨RX0, "endTurn", "()I"⟩
abbrev cX0_goOnAlike : ByteArray := prog_2_method_11_code
def yX0_goOnAlike : MethodName := ⟨RX0, "goOnAlike", "(I)I"⟩
abbrev cX0_playTurnAlike : ByteArray := prog_2_method_12_code
def yX0_playTurnAlike : MethodName := ⟨RX0, "playTurnAlike", "()V"⟩
abbrev cX0_firstInHand : ByteArray := prog_2_method_13_code
def yX0_firstInHand : MethodName := ⟨RX0, "firstInHand", "(II)I"⟩
abbrev cX0_dearestToBuy : ByteArray := prog_2_method_14_code
def yX0_dearestToBuy : MethodName := ⟨RX0, "dearestToBuy", "()I"⟩
abbrev cX0_drawCards : ByteArray := prog_2_method_15_code
def yX0_drawCards : MethodName := ⟨RX0, "drawCards", "(II)V"⟩
abbrev cX0_moveToEnd : ByteArray := prog_2_method_16_code
def yX0_moveToEnd : MethodName := ⟨RX0, "moveToEnd", "(III)V"⟩
abbrev cX0_takeFromPile : ByteArray := prog_2_method_17_code
def yX0_takeFromPile : MethodName := ⟨RX0, "takeFromPile", "(II)V"⟩
abbrev cX0_hasPlayer : ByteArray := prog_2_method_18_code
def yX0_hasPlayer : MethodName := ⟨RX0, "hasPlayer", "(I)Z"⟩
abbrev cX0_playerBehind : ByteArray := prog_2_method_19_code
def yX0_playerBehind : MethodName := ⟨RX0, "playerBehind", "(I)I"⟩
abbrev cX0_cardOf : ByteArray := prog_2_method_20_code
def yX0_cardOf : MethodName := ⟨RX0, "cardOf", "(III)I"⟩
abbrev cX0_howMany : ByteArray := prog_2_method_21_code
def yX0_howMany : MethodName := ⟨RX0, "howMany", "(IIII)I"⟩
abbrev cX0_sumOf : ByteArray := prog_2_method_22_code
def yX0_sumOf : MethodName := ⟨RX0, "sumOf", "(III[I)I"⟩
abbrev cX0_leader : ByteArray := prog_2_method_23_code
def yX0_leader : MethodName := ⟨RX0, "leader", "()I"⟩
abbrev cX0_emptyPiles : ByteArray := prog_2_method_24_code
def yX0_emptyPiles : MethodName := ⟨RX0, "emptyPiles", "()I"⟩
abbrev cX0_isInRow : ByteArray := prog_2_method_25_code
def yX0_isInRow : MethodName := ⟨RX0, "isInRow", "(I)Z"⟩
abbrev cX0_whyNotBought : ByteArray := prog_2_method_26_code
def yX0_whyNotBought : MethodName := ⟨RX0, "whyNotBought", "(I)I"⟩
abbrev cX0_kindsToBuy : ByteArray := prog_2_method_27_code
def yX0_kindsToBuy : MethodName := ⟨RX0, "kindsToBuy", "()I"⟩
def RX1 : String := "TurningShop"
def TX1 : u_T := fun k => match k with
  | 0 => ("TurningShop", "now", "LTurningShop$Game;", false)
  | 1 => ("TurningShop", "spare", "LTurningShop$Game;", false)
  | 2 => ("TurningShop", "history", "[LTurningShop$Game;", true)
  | 3 => ("TurningShop", "states", "I", false)
  | 4 => ("TurningShop", "text", "[C", true)
  | 5 => ("TurningShop", "textLength", "I", false)
  | 6 => ("TurningShop", "faultPosition", "I", false)
  | 7 => ("TurningShop", "faultReason", "I", false)
  | _ => ("TurningShop", "faultCause", "I", false)
def tyX1 : Nat → FieldType := fun k => match k with
  | 0 => .object "TurningShop$Game"
  | 1 => .object "TurningShop$Game"
  | 2 => .array (.object "TurningShop$Game")
  | 3 => .int
  | 4 => .array .char
  | 5 => .int
  | 6 => .int
  | 7 => .int
  | _ => .int
abbrev wsX10 : List Cond := u_ws RX1 TX1 9
theorem nmX1 : ∀ a, a < 9 → ∀ b, b < 9 → a ≠ b → (TX1 a).2.1 ≠ (TX1 b).2.1 := by decide +kernel
theorem tyX1_ok : ∀ k, k < 9 → parseFieldDescriptor (TX1 k).2.2.1 = some (tyX1 k) := by decide +kernel
abbrev cX1_init : ByteArray := prog_1_method_1_code
def yX1_init : MethodName := ⟨RX1, "<init>", "()V"⟩
abbrev cX1_begin : ByteArray := prog_1_method_2_code
def yX1_begin : MethodName := ⟨RX1, "begin", "(I)I"⟩
abbrev cX1_play : ByteArray := prog_1_method_3_code
def yX1_play : MethodName := ⟨RX1, "play", "(I)I"⟩
abbrev cX1_buy : ByteArray := prog_1_method_4_code
def yX1_buy : MethodName := ⟨RX1, "buy", "(I)I"⟩
abbrev cX1_scrap : ByteArray := prog_1_method_5_code
def yX1_scrap : MethodName := ⟨RX1, "scrap", "(I)I"⟩
abbrev cX1_end : ByteArray := prog_1_method_6_code
def yX1_end : MethodName := ⟨RX1, "end", "()I"⟩
abbrev cX1_alike : ByteArray := prog_1_method_7_code
def yX1_alike : MethodName := ⟨RX1, "alike", "(I)I"⟩
abbrev cX1_set : ByteArray := prog_1_method_8_code
def yX1_set : MethodName := ⟨RX1, "set", "(II)I"⟩
abbrev cX1_card : ByteArray := prog_1_method_9_code
def yX1_card : MethodName := ⟨RX1, "card", "(III)I"⟩
abbrev cX1_many : ByteArray := prog_1_method_10_code
def yX1_many : MethodName := ⟨RX1, "many", "(III)I"⟩
abbrev cX1_points : ByteArray := prog_1_method_11_code
def yX1_points : MethodName := ⟨RX1, "points", "(I)I"⟩
abbrev cX1_kindOf : ByteArray := prog_1_method_12_code
def yX1_kindOf : MethodName := ⟨RX1, "kindOf", "(II)I"⟩
abbrev cX1_turn : ByteArray := prog_1_method_13_code
def yX1_turn : MethodName := ⟨RX1, "turn", "(I)I"⟩
abbrev cX1_purse : ByteArray := prog_1_method_14_code
def yX1_purse : MethodName := ⟨RX1, "purse", "()I"⟩
abbrev cX1_outcome : ByteArray := prog_1_method_15_code
def yX1_outcome : MethodName := ⟨RX1, "outcome", "(I)I"⟩
abbrev cX1_advice : ByteArray := prog_1_method_16_code
def yX1_advice : MethodName := ⟨RX1, "advice", "(I)I"⟩
abbrev cX1_wealth : ByteArray := prog_1_method_17_code
def yX1_wealth : MethodName := ⟨RX1, "wealth", "(I)I"⟩
abbrev cX1_count : ByteArray := prog_1_method_18_code
def yX1_count : MethodName := ⟨RX1, "count", "(I)I"⟩
abbrev cX1_undo : ByteArray := prog_1_method_19_code
def yX1_undo : MethodName := ⟨RX1, "undo", "()I"⟩
abbrev cX1_type : ByteArray := prog_1_method_20_code
def yX1_type : MethodName := ⟨RX1, "type", "(I)I"⟩
abbrev cX1_clearText : ByteArray := prog_1_method_21_code
def yX1_clearText : MethodName := ⟨RX1, "clearText", "()I"⟩
abbrev cX1_fault : ByteArray := prog_1_method_22_code
def yX1_fault : MethodName := ⟨RX1, "fault", "(I)I"⟩
abbrev cX1_perform : ByteArray := prog_1_method_23_code
def yX1_perform : MethodName := ⟨RX1, "perform", "()I"⟩
abbrev cX1_copyOfNow : ByteArray := prog_1_method_24_code
def yX1_copyOfNow : MethodName := ⟨RX1, "copyOfNow", "()LTurningShop$Game;"⟩
abbrev cX1_settle : ByteArray := prog_1_method_25_code
def yX1_settle : MethodName := ⟨RX1, "settle", "(I)I"⟩
abbrev cX1_dropOldestState : ByteArray := prog_1_method_26_code
def yX1_dropOldestState : MethodName := ⟨RX1, "dropOldestState", "()V"⟩
abbrev cX1_pointsAfter : ByteArray := prog_1_method_27_code
def yX1_pointsAfter : MethodName := ⟨RX1, "pointsAfter", "(I)I"⟩
abbrev cX1_tryText : ByteArray := prog_1_method_28_code
def yX1_tryText : MethodName := ⟨RX1, "tryText", "()I"⟩
abbrev cX1_isNumberedOrder : ByteArray := prog_1_method_29_code
def yX1_isNumberedOrder : MethodName := ⟨RX1, "isNumberedOrder", "(C)Z"⟩
abbrev cX1_digitsFrom : ByteArray := prog_1_method_30_code
def yX1_digitsFrom : MethodName := ⟨RX1, "digitsFrom", "(I)I"⟩
abbrev cX1_numberBetween : ByteArray := prog_1_method_31_code
def yX1_numberBetween : MethodName := ⟨RX1, "numberBetween", "(II)I"⟩
abbrev cX1_doOrder : ByteArray := prog_1_method_32_code
def yX1_doOrder : MethodName := ⟨RX1, "doOrder", "(II)I"⟩
abbrev cX1_keepFault : ByteArray := prog_1_method_33_code
def yX1_keepFault : MethodName := ⟨RX1, "keepFault", "(III)I"⟩
abbrev cX1_partAt : ByteArray := prog_1_method_34_code
def yX1_partAt : MethodName := ⟨RX1, "partAt", "(I)I"⟩
abbrev cX1_sum : ByteArray := prog_1_method_35_code
def yX1_sum : MethodName := ⟨RX1, "sum", "([I)I"⟩
abbrev cX1_bitsOf : ByteArray := prog_1_method_36_code
def yX1_bitsOf : MethodName := ⟨RX1, "bitsOf", "(F)I"⟩
def RX2 : String := "TurningShopModel"
def TX2 : u_T := fun k => match k with
  | 0 => ("TurningShopModel", "s", "[I", true)
  | 1 => ("TurningShopModel", "aside", "[I", true)
  | 2 => ("TurningShopModel", "before", "[I", true)
  | 3 => ("TurningShopModel", "known", "I", false)
  | 4 => ("TurningShopModel", "text", "[I", true)
  | 5 => ("TurningShopModel", "length", "I", false)
  | 6 => ("TurningShopModel", "at", "I", false)
  | 7 => ("TurningShopModel", "isWrong", "Z", false)
  | 8 => ("TurningShopModel", "letter", "I", false)
  | 9 => ("TurningShopModel", "number", "I", false)
  | 10 => ("TurningShopModel", "position", "I", false)
  | 11 => ("TurningShopModel", "reason", "I", false)
  | _ => ("TurningShopModel", "cause", "I", false)
def tyX2 : Nat → FieldType := fun k => match k with
  | 0 => .array .int
  | 1 => .array .int
  | 2 => .array .int
  | 3 => .int
  | 4 => .array .int
  | 5 => .int
  | 6 => .int
  | 7 => .boolean
  | 8 => .int
  | 9 => .int
  | 10 => .int
  | 11 => .int
  | _ => .int
abbrev wsX20 : List Cond := u_ws RX2 TX2 13
theorem nmX2 : ∀ a, a < 13 → ∀ b, b < 13 → a ≠ b → (TX2 a).2.1 ≠ (TX2 b).2.1 := by decide +kernel
theorem tyX2_ok : ∀ k, k < 13 → parseFieldDescriptor (TX2 k).2.2.1 = some (tyX2 k) := by decide +kernel
abbrev cX2_init : ByteArray := prog_4_method_1_code
def yX2_init : MethodName := ⟨RX2, "<init>", "()V"⟩
abbrev cX2_in : ByteArray := prog_4_method_3_code
def yX2_in : MethodName := ⟨RX2, "in", "(III)Z"⟩
abbrev cX2_price : ByteArray := prog_4_method_4_code
def yX2_price : MethodName := ⟨RX2, "price", "(I)I"⟩
abbrev cX2_coins : ByteArray := prog_4_method_5_code
def yX2_coins : MethodName := ⟨RX2, "coins", "(I)I"⟩
abbrev cX2_cards : ByteArray := prog_4_method_6_code
def yX2_cards : MethodName := ⟨RX2, "cards", "(I)I"⟩
abbrev cX2_pointsOf : ByteArray := prog_4_method_7_code
def yX2_pointsOf : MethodName := ⟨RX2, "pointsOf", "(I)I"⟩
abbrev cX2_inPile : ByteArray := prog_4_method_8_code
def yX2_inPile : MethodName := ⟨RX2, "inPile", "(I)I"⟩
abbrev cX2_placeOf : ByteArray := prog_4_method_9_code
def yX2_placeOf : MethodName := ⟨RX2, "placeOf", "(II)I"⟩
abbrev cX2_manyAt : ByteArray := prog_4_method_10_code
def yX2_manyAt : MethodName := ⟨RX2, "manyAt", "(II)I"⟩
abbrev cX2_put : ByteArray := prog_4_method_11_code
def yX2_put : MethodName := ⟨RX2, "put", "(III)V"⟩
abbrev cX2_take : ByteArray := prog_4_method_12_code
def yX2_take : MethodName := ⟨RX2, "take", "(III)I"⟩
abbrev cX2_moveAll : ByteArray := prog_4_method_13_code
def yX2_moveAll : MethodName := ⟨RX2, "moveAll", "(III)V"⟩
abbrev cX2_draw : ByteArray := prog_4_method_14_code
def yX2_draw : MethodName := ⟨RX2, "draw", "(II)V"⟩
abbrev cX2_know : ByteArray := prog_4_method_15_code
def yX2_know : MethodName := ⟨RX2, "know", "()V"⟩
abbrev cX2_putAside : ByteArray := prog_4_method_16_code
def yX2_putAside : MethodName := ⟨RX2, "putAside", "()V"⟩
abbrev cX2_putBack : ByteArray := prog_4_method_17_code
def yX2_putBack : MethodName := ⟨RX2, "putBack", "()V"⟩
abbrev cX2_isInHand : ByteArray := prog_4_method_18_code
def yX2_isInHand : MethodName := ⟨RX2, "isInHand", "(I)Z"⟩
abbrev cX2_inHand : ByteArray := prog_4_method_19_code
def yX2_inHand : MethodName := ⟨RX2, "inHand", "(I)I"⟩
abbrev cX2_begins : ByteArray := prog_4_method_20_code
def yX2_begins : MethodName := ⟨RX2, "begins", "(I)I"⟩
abbrev cX2_playFault : ByteArray := prog_4_method_21_code
def yX2_playFault : MethodName := ⟨RX2, "playFault", "(I)I"⟩
abbrev cX2_plays : ByteArray := prog_4_method_22_code
def yX2_plays : MethodName := ⟨RX2, "plays", "(I)I"⟩
abbrev cX2_isInRow : ByteArray := prog_4_method_23_code
def yX2_isInRow : MethodName := ⟨RX2, "isInRow", "(I)Z"⟩
abbrev cX2_whyNot : ByteArray := prog_4_method_24_code
def yX2_whyNot : MethodName := ⟨RX2, "whyNot", "(I)I"⟩
abbrev cX2_buyFault : ByteArray := prog_4_method_25_code
def yX2_buyFault : MethodName := ⟨RX2, "buyFault", "(I)I"⟩
abbrev cX2_buys : ByteArray := prog_4_method_26_code
def yX2_buys : MethodName := ⟨RX2, "buys", "(I)I"⟩
abbrev cX2_scrapFault : ByteArray := prog_4_method_27_code
def yX2_scrapFault : MethodName := ⟨RX2, "scrapFault", "(I)I"⟩
abbrev cX2_scraps : ByteArray := prog_4_method_28_code
def yX2_scraps : MethodName := ⟨RX2, "scraps", "(I)I"⟩
abbrev cX2_emptyPiles : ByteArray := prog_4_method_29_code
def yX2_emptyPiles : MethodName := ⟨RX2, "emptyPiles", "()I"⟩
abbrev cX2_ends : ByteArray := prog_4_method_30_code
def yX2_ends : MethodName := ⟨RX2, "ends", "()I"⟩
abbrev cX2_firstOf : ByteArray := prog_4_method_31_code
def yX2_firstOf : MethodName := ⟨RX2, "firstOf", "(Z)I"⟩
abbrev cX2_dearest : ByteArray := prog_4_method_32_code
def yX2_dearest : MethodName := ⟨RX2, "dearest", "()I"⟩
abbrev cX2_goOn : ByteArray := prog_4_method_33_code
def yX2_goOn : MethodName := ⟨RX2, "goOn", "()V"⟩
abbrev cX2_goesOn : ByteArray := prog_4_method_34_code
def yX2_goesOn : MethodName := ⟨RX2, "goesOn", "(I)I"⟩
abbrev cX2_begin : ByteArray := prog_4_method_35_code
def yX2_begin : MethodName := ⟨RX2, "begin", "(I)I"⟩
abbrev cX2_play : ByteArray := prog_4_method_36_code
def yX2_play : MethodName := ⟨RX2, "play", "(I)I"⟩
abbrev cX2_buy : ByteArray := prog_4_method_37_code
def yX2_buy : MethodName := ⟨RX2, "buy", "(I)I"⟩
abbrev cX2_scrap : ByteArray := prog_4_method_38_code
def yX2_scrap : MethodName := ⟨RX2, "scrap", "(I)I"⟩
abbrev cX2_end : ByteArray := prog_4_method_39_code
def yX2_end : MethodName := ⟨RX2, "end", "()I"⟩
abbrev cX2_alike : ByteArray := prog_4_method_40_code
def yX2_alike : MethodName := ⟨RX2, "alike", "(I)I"⟩
abbrev cX2_set : ByteArray := prog_4_method_41_code
def yX2_set : MethodName := ⟨RX2, "set", "(II)I"⟩
abbrev cX2_isPlayer : ByteArray := prog_4_method_42_code
def yX2_isPlayer : MethodName := ⟨RX2, "isPlayer", "(I)Z"⟩
abbrev cX2_card : ByteArray := prog_4_method_43_code
def yX2_card : MethodName := ⟨RX2, "card", "(III)I"⟩
abbrev cX2_cardsOf : ByteArray := prog_4_method_44_code
def yX2_cardsOf : MethodName := ⟨RX2, "cardsOf", "(IIII)I"⟩
abbrev cX2_many : ByteArray := prog_4_method_45_code
def yX2_many : MethodName := ⟨RX2, "many", "(III)I"⟩
abbrev cX2_pointsBy : ByteArray := prog_4_method_46_code
def yX2_pointsBy : MethodName := ⟨RX2, "pointsBy", "(I)I"⟩
abbrev cX2_points : ByteArray := prog_4_method_47_code
def yX2_points : MethodName := ⟨RX2, "points", "(I)I"⟩
abbrev cX2_kindOf : ByteArray := prog_4_method_48_code
def yX2_kindOf : MethodName := ⟨RX2, "kindOf", "(II)I"⟩
abbrev cX2_canBuy : ByteArray := prog_4_method_49_code
def yX2_canBuy : MethodName := ⟨RX2, "canBuy", "()I"⟩
abbrev cX2_turn : ByteArray := prog_4_method_50_code
def yX2_turn : MethodName := ⟨RX2, "turn", "(I)I"⟩
abbrev cX2_purse : ByteArray := prog_4_method_51_code
def yX2_purse : MethodName := ⟨RX2, "purse", "()I"⟩
abbrev cX2_leader : ByteArray := prog_4_method_52_code
def yX2_leader : MethodName := ⟨RX2, "leader", "()I"⟩
abbrev cX2_outcome : ByteArray := prog_4_method_53_code
def yX2_outcome : MethodName := ⟨RX2, "outcome", "(I)I"⟩
abbrev cX2_wouldHave : ByteArray := prog_4_method_54_code
def yX2_wouldHave : MethodName := ⟨RX2, "wouldHave", "(I)I"⟩
abbrev cX2_advice : ByteArray := prog_4_method_55_code
def yX2_advice : MethodName := ⟨RX2, "advice", "(I)I"⟩
abbrev cX2_bitsOf : ByteArray := prog_4_method_56_code
def yX2_bitsOf : MethodName := ⟨RX2, "bitsOf", "(F)I"⟩
abbrev cX2_wealth : ByteArray := prog_4_method_57_code
def yX2_wealth : MethodName := ⟨RX2, "wealth", "(I)I"⟩
abbrev cX2_sum : ByteArray := prog_4_method_58_code
def yX2_sum : MethodName := ⟨RX2, "sum", "(I)I"⟩
abbrev cX2_count : ByteArray := prog_4_method_59_code
def yX2_count : MethodName := ⟨RX2, "count", "(I)I"⟩
abbrev cX2_undo : ByteArray := prog_4_method_60_code
def yX2_undo : MethodName := ⟨RX2, "undo", "()I"⟩
abbrev cX2_type : ByteArray := prog_4_method_61_code
def yX2_type : MethodName := ⟨RX2, "type", "(I)I"⟩
abbrev cX2_clearText : ByteArray := prog_4_method_62_code
def yX2_clearText : MethodName := ⟨RX2, "clearText", "()I"⟩
abbrev cX2_sign : ByteArray := prog_4_method_63_code
def yX2_sign : MethodName := ⟨RX2, "sign", "(II)I"⟩
abbrev cX2_read : ByteArray := prog_4_method_64_code
def yX2_read : MethodName := ⟨RX2, "read", "()V"⟩
abbrev cX2_does : ByteArray := prog_4_method_65_code
def yX2_does : MethodName := ⟨RX2, "does", "()I"⟩
abbrev cX2_go : ByteArray := prog_4_method_66_code
def yX2_go : MethodName := ⟨RX2, "go", "()I"⟩
abbrev cX2_look : ByteArray := prog_4_method_67_code
def yX2_look : MethodName := ⟨RX2, "look", "()V"⟩
abbrev cX2_fault : ByteArray := prog_4_method_68_code
def yX2_fault : MethodName := ⟨RX2, "fault", "(I)I"⟩
abbrev cX2_perform : ByteArray := prog_4_method_69_code
def yX2_perform : MethodName := ⟨RX2, "perform", "()I"⟩
def RJ10 : String := "java/lang/System"
def TJ10 : u_T := fun k => match k with
  | _ => ("", "", "", false)
def tyJ10 : Nat → FieldType := fun k => match k with
  | _ => .int
abbrev wsJ100 : List Cond := u_ws RJ10 TJ10 0
theorem nmJ10 : ∀ a, a < 0 → ∀ b, b < 0 → a ≠ b → (TJ10 a).2.1 ≠ (TJ10 b).2.1 := by decide +kernel
theorem tyJ10_ok : ∀ k, k < 0 → parseFieldDescriptor (TJ10 k).2.2.1 = some (tyJ10 k) := by decide +kernel
def RJ7 : String := "java/util/Arrays"
def TJ7 : u_T := fun k => match k with
  | _ => ("", "", "", false)
def tyJ7 : Nat → FieldType := fun k => match k with
  | _ => .int
abbrev wsJ70 : List Cond := u_ws RJ7 TJ7 0
theorem nmJ7 : ∀ a, a < 0 → ∀ b, b < 0 → a ≠ b → (TJ7 a).2.1 ≠ (TJ7 b).2.1 := by decide +kernel
theorem tyJ7_ok : ∀ k, k < 0 → parseFieldDescriptor (TJ7 k).2.2.1 = some (tyJ7 k) := by decide +kernel
abbrev cJ7_fill_53178 : ByteArray := prog_6_method_103_code
def yJ7_fill_53178 : MethodName := ⟨RJ7, "fill", "([II)V"⟩
def RL : String := "TurningShopLaw"
abbrev cL_law : ByteArray := code
def yL_law : MethodName := ⟨RL, "law", "([I)Z"⟩
def wsL_law_r1 : List Cond := [Cond.classLink RL 7 RX1, Cond.instantiable RX1 9, Cond.initialized RX1, Cond.classLink RL 10 RX2, Cond.instantiable RX2 13, Cond.initialized RX2, Cond.methodLink RL 9 yX1_init, Cond.instanceMethod yX1_init, Cond.code yX1_init cX1_init 2 none, Cond.methodLink RX1 1 objectInit, Cond.instanceMethod objectInit, Cond.code objectInit ⟨#[0xb1]⟩ 1 none, Cond.classLink RX1 7 RX0, Cond.instantiable RX0 14, Cond.initialized RX0, Cond.fieldLink RX1 10 "TurningShop" "now" "LTurningShop$Game;", Cond.fieldLink RX1 16 "TurningShop" "spare" "LTurningShop$Game;", Cond.fieldLink RX1 19 "TurningShop" "history" "[LTurningShop$Game;", Cond.arrayClass .char, Cond.fieldLink RX1 23 "TurningShop" "text" "[C", Cond.fieldLink RX1 27 "TurningShop$Game" "setting" "I", Cond.methodLink RX1 9 yX0_init, Cond.instanceMethod yX0_init, Cond.code yX0_init cX0_init 1 none]
def wsL_law_r2 : List Cond := [Cond.methodLink RX0 3 objectInit, Cond.arrayClass .int, Cond.fieldLink RX0 9 "TurningShop$Game" "cards" "[I", Cond.fieldLink RX0 15 "TurningShop$Game" "starts" "[I", Cond.fieldLink RX0 18 "TurningShop$Game" "piles" "[I", Cond.fieldLink RX0 21 "TurningShop$Game" "scrapped" "[I", Cond.methodLink RX1 31 yX0_startGame, Cond.instanceMethod yX0_startGame, Cond.selects RX0 yX0_startGame yX0_startGame, Cond.code yX0_startGame cX0_startGame 3 (some .int), Cond.constant RX0 62 (-1000001), Cond.fieldLink RX0 30 "TurningShop$Game" "players" "I", Cond.fieldLink RX0 34 "TurningShop$Game" "player" "I", Cond.fieldLink RX0 49 "TurningShop$Game" "rowFirst" "I", Cond.fieldLink RX0 55 "TurningShop$Game" "endedTurns" "I", Cond.fieldLink RX0 58 "TurningShop$Game" "over" "Z", Cond.methodLink RX0 24 arraycopyName, Cond.native arraycopyName, Cond.static arraycopyName, Cond.initialized "java/lang/System", Cond.methodLink RX0 66 yJ7_fill_53178, Cond.static yJ7_fill_53178, Cond.initialized RJ7, Cond.code yJ7_fill_53178 cJ7_fill_53178 4 none]
def wsL_law_r3 : List Cond := [Cond.methodLink RX0 72 yX0_dealDecks, Cond.instanceMethod yX0_dealDecks, Cond.selects RX0 yX0_dealDecks yX0_dealDecks, Cond.code yX0_dealDecks cX0_dealDecks 4 none, Cond.methodLink RX0 75 yX0_drawCards, Cond.instanceMethod yX0_drawCards, Cond.selects RX0 yX0_drawCards yX0_drawCards, Cond.code yX0_drawCards cX0_drawCards 5 none, Cond.methodLink RX0 90 yX0_moveToEnd, Cond.instanceMethod yX0_moveToEnd, Cond.selects RX0 yX0_moveToEnd yX0_moveToEnd, Cond.code yX0_moveToEnd cX0_moveToEnd 8 none, Cond.methodLink RX0 79 yX0_beginTurn, Cond.instanceMethod yX0_beginTurn, Cond.selects RX0 yX0_beginTurn yX0_beginTurn, Cond.code yX0_beginTurn cX0_beginTurn 1 none, Cond.fieldLink RX0 37 "TurningShop$Game" "coins" "I", Cond.fieldLink RX0 40 "TurningShop$Game" "buys" "I", Cond.fieldLink RX0 43 "TurningShop$Game" "actions" "I", Cond.fieldLink RX0 46 "TurningShop$Game" "scraps" "I", Cond.methodLink RL 12 yX2_init, Cond.instanceMethod yX2_init, Cond.code yX2_init cX2_init 1 none, Cond.methodLink RX2 1 objectInit]
def wsL_law_r4 : List Cond := [Cond.fieldLink RX2 7 "TurningShopModel" "s" "[I", Cond.fieldLink RX2 13 "TurningShopModel" "aside" "[I", Cond.fieldLink RX2 16 "TurningShopModel" "before" "[I", Cond.fieldLink RX2 19 "TurningShopModel" "text" "[I", Cond.methodLink RX2 22 yX2_begins, Cond.instanceMethod yX2_begins, Cond.selects RX2 yX2_begins yX2_begins, Cond.code yX2_begins cX2_begins 6 (some .int), Cond.methodLink RX2 52 yX2_inPile, Cond.static yX2_inPile, Cond.code yX2_inPile cX2_inPile 1 (some .int), Cond.methodLink RX2 30 yX2_put, Cond.instanceMethod yX2_put, Cond.selects RX2 yX2_put yX2_put, Cond.code yX2_put cX2_put 5 none, Cond.methodLink RX2 26 yX2_placeOf, Cond.static yX2_placeOf, Cond.code yX2_placeOf cX2_placeOf 2 (some .int), Cond.methodLink RX2 55 yX2_draw, Cond.instanceMethod yX2_draw, Cond.selects RX2 yX2_draw yX2_draw, Cond.code yX2_draw cX2_draw 4 none, Cond.methodLink RX2 34 yX2_manyAt, Cond.instanceMethod yX2_manyAt]
def wsL_law_r5 : List Cond := [Cond.selects RX2 yX2_manyAt yX2_manyAt, Cond.code yX2_manyAt cX2_manyAt 3 (some .int), Cond.methodLink RX2 37 yX2_moveAll, Cond.instanceMethod yX2_moveAll, Cond.selects RX2 yX2_moveAll yX2_moveAll, Cond.code yX2_moveAll cX2_moveAll 6 none, Cond.methodLink RX2 40 yX2_take, Cond.instanceMethod yX2_take, Cond.selects RX2 yX2_take yX2_take, Cond.code yX2_take cX2_take 7 (some .int), Cond.methodLink RL 13 yX1_begin, Cond.instanceMethod yX1_begin, Cond.selects RX1 yX1_begin yX1_begin, Cond.code yX1_begin cX1_begin 2 (some .int), Cond.methodLink RX1 35 yX1_copyOfNow, Cond.instanceMethod yX1_copyOfNow, Cond.selects RX1 yX1_copyOfNow yX1_copyOfNow, Cond.code yX1_copyOfNow cX1_copyOfNow 1 (some (.object "TurningShop$Game")), Cond.methodLink RX1 169 yX0_copyFrom, Cond.instanceMethod yX0_copyFrom, Cond.selects RX0 yX0_copyFrom yX0_copyFrom, Cond.code yX0_copyFrom cX0_copyFrom 2 none, Cond.fieldLink RX0 52 "TurningShop$Game" "setting" "I", Cond.methodLink RX1 39 yX1_settle]
def wsL_law_r6 : List Cond := [Cond.instanceMethod yX1_settle, Cond.selects RX1 yX1_settle yX1_settle, Cond.code yX1_settle cX1_settle 3 (some .int), Cond.fieldLink RX1 150 "TurningShop" "states" "I", Cond.methodLink RX1 173 yX1_dropOldestState, Cond.instanceMethod yX1_dropOldestState, Cond.selects RX1 yX1_dropOldestState yX1_dropOldestState, Cond.code yX1_dropOldestState cX1_dropOldestState 3 none, Cond.methodLink RL 17 yX2_begin, Cond.instanceMethod yX2_begin, Cond.selects RX2 yX2_begin yX2_begin, Cond.code yX2_begin cX2_begin 2 (some .int), Cond.constant RX2 63 (-1000001), Cond.methodLink RX2 48 yX2_in, Cond.static yX2_in, Cond.code yX2_in cX2_in 3 (some .boolean), Cond.methodLink RX2 106 yX2_know, Cond.instanceMethod yX2_know, Cond.selects RX2 yX2_know yX2_know, Cond.code yX2_know cX2_know 2 none, Cond.fieldLink RX2 44 "TurningShopModel" "known" "I", Cond.methodLink RL 18 yX1_play, Cond.instanceMethod yX1_play, Cond.selects RX1 yX1_play yX1_play]
def wsL_law_r7 : List Cond := [Cond.code yX1_play cX1_play 2 (some .int), Cond.methodLink RX1 42 yX0_playCard, Cond.instanceMethod yX0_playCard, Cond.selects RX0 yX0_playCard yX0_playCard, Cond.code yX0_playCard cX0_playCard 5 (some .int), Cond.constant RX0 89 (-1000002), Cond.methodLink RX0 85 yX0_cardOf, Cond.instanceMethod yX0_cardOf, Cond.selects RX0 yX0_cardOf yX0_cardOf, Cond.code yX0_cardOf cX0_cardOf 6 (some .int), Cond.methodLink RX0 109 yX0_giveCurses, Cond.instanceMethod yX0_giveCurses, Cond.selects RX0 yX0_giveCurses yX0_giveCurses, Cond.code yX0_giveCurses cX0_giveCurses 3 none, Cond.methodLink RX0 115 yX0_playerBehind, Cond.instanceMethod yX0_playerBehind, Cond.selects RX0 yX0_playerBehind yX0_playerBehind, Cond.code yX0_playerBehind cX0_playerBehind 2 (some .int), Cond.methodLink RX0 119 yX0_takeFromPile, Cond.instanceMethod yX0_takeFromPile, Cond.selects RX0 yX0_takeFromPile yX0_takeFromPile, Cond.code yX0_takeFromPile cX0_takeFromPile 5 none, Cond.methodLink RL 21 yX2_play, Cond.instanceMethod yX2_play]
def wsL_law_r8 : List Cond := [Cond.selects RX2 yX2_play yX2_play, Cond.code yX2_play cX2_play 3 (some .int), Cond.methodLink RX2 109 yX2_playFault, Cond.instanceMethod yX2_playFault, Cond.selects RX2 yX2_playFault yX2_playFault, Cond.code yX2_playFault cX2_playFault 4 (some .int), Cond.constant RX2 67 (-1000002), Cond.methodLink RX2 59 yX2_isInHand, Cond.instanceMethod yX2_isInHand, Cond.selects RX2 yX2_isInHand yX2_isInHand, Cond.code yX2_isInHand cX2_isInHand 2 (some .boolean), Cond.methodLink RX2 64 yX2_inHand, Cond.instanceMethod yX2_inHand, Cond.selects RX2 yX2_inHand yX2_inHand, Cond.code yX2_inHand cX2_inHand 2 (some .int), Cond.methodLink RX2 91 yX2_plays, Cond.instanceMethod yX2_plays, Cond.selects RX2 yX2_plays yX2_plays, Cond.code yX2_plays cX2_plays 5 (some .int), Cond.methodLink RX2 68 yX2_coins, Cond.static yX2_coins, Cond.code yX2_coins cX2_coins 1 (some .int), Cond.methodLink RX2 71 yX2_cards, Cond.static yX2_cards]
def wsL_law_r9 : List Cond := [Cond.code yX2_cards cX2_cards 1 (some .int), Cond.methodLink RL 22 yX1_buy, Cond.instanceMethod yX1_buy, Cond.selects RX1 yX1_buy yX1_buy, Cond.code yX1_buy cX1_buy 2 (some .int), Cond.methodLink RX1 45 yX0_buyCard, Cond.instanceMethod yX0_buyCard, Cond.selects RX0 yX0_buyCard yX0_buyCard, Cond.code yX0_buyCard cX0_buyCard 2 (some .int), Cond.methodLink RX0 122 yX0_whyNotBought, Cond.instanceMethod yX0_whyNotBought, Cond.selects RX0 yX0_whyNotBought yX0_whyNotBought, Cond.code yX0_whyNotBought cX0_whyNotBought 2 (some .int), Cond.methodLink RX0 158 yX0_isInRow, Cond.instanceMethod yX0_isInRow, Cond.selects RX0 yX0_isInRow yX0_isInRow, Cond.code yX0_isInRow cX0_isInRow 2 (some .boolean), Cond.methodLink RL 25 yX2_buy, Cond.instanceMethod yX2_buy, Cond.selects RX2 yX2_buy yX2_buy, Cond.code yX2_buy cX2_buy 3 (some .int), Cond.methodLink RX2 112 yX2_buyFault, Cond.instanceMethod yX2_buyFault, Cond.selects RX2 yX2_buyFault yX2_buyFault]
def wsL_law_r10 : List Cond := [Cond.code yX2_buyFault cX2_buyFault 2 (some .int), Cond.methodLink RX2 80 yX2_whyNot, Cond.instanceMethod yX2_whyNot, Cond.selects RX2 yX2_whyNot yX2_whyNot, Cond.code yX2_whyNot cX2_whyNot 2 (some .int), Cond.methodLink RX2 74 yX2_isInRow, Cond.instanceMethod yX2_isInRow, Cond.selects RX2 yX2_isInRow yX2_isInRow, Cond.code yX2_isInRow cX2_isInRow 2 (some .boolean), Cond.methodLink RX2 77 yX2_price, Cond.static yX2_price, Cond.code yX2_price cX2_price 1 (some .int), Cond.methodLink RX2 97 yX2_buys, Cond.instanceMethod yX2_buys, Cond.selects RX2 yX2_buys yX2_buys, Cond.code yX2_buys cX2_buys 2 (some .int), Cond.methodLink RL 26 yX1_scrap, Cond.instanceMethod yX1_scrap, Cond.selects RX1 yX1_scrap yX1_scrap, Cond.code yX1_scrap cX1_scrap 2 (some .int), Cond.methodLink RX1 48 yX0_scrapCard, Cond.instanceMethod yX0_scrapCard, Cond.selects RX0 yX0_scrapCard yX0_scrapCard, Cond.code yX0_scrapCard cX0_scrapCard 5 (some .int)]
def wsL_law_r11 : List Cond := [Cond.methodLink RL 29 yX2_scrap, Cond.instanceMethod yX2_scrap, Cond.selects RX2 yX2_scrap yX2_scrap, Cond.code yX2_scrap cX2_scrap 3 (some .int), Cond.methodLink RX2 115 yX2_scrapFault, Cond.instanceMethod yX2_scrapFault, Cond.selects RX2 yX2_scrapFault yX2_scrapFault, Cond.code yX2_scrapFault cX2_scrapFault 2 (some .int), Cond.methodLink RX2 118 yX2_scraps, Cond.instanceMethod yX2_scraps, Cond.selects RX2 yX2_scraps yX2_scraps, Cond.code yX2_scraps cX2_scraps 3 (some .int), Cond.methodLink RL 30 yX1_end, Cond.instanceMethod yX1_end, Cond.selects RX1 yX1_end yX1_end, Cond.code yX1_end cX1_end 1 (some .int), Cond.methodLink RX1 51 yX0_endTurn, Cond.instanceMethod yX0_endTurn, Cond.selects RX0 yX0_endTurn yX0_endTurn, Cond.code yX0_endTurn cX0_endTurn 2 (some .int), Cond.methodLink RX0 128 yX0_emptyPiles, Cond.instanceMethod yX0_emptyPiles, Cond.selects RX0 yX0_emptyPiles yX0_emptyPiles, Cond.code yX0_emptyPiles cX0_emptyPiles 3 (some .int)]
def wsL_law_r12 : List Cond := [Cond.methodLink RL 34 yX2_end, Cond.instanceMethod yX2_end, Cond.selects RX2 yX2_end yX2_end, Cond.code yX2_end cX2_end 1 (some .int), Cond.methodLink RX2 100 yX2_ends, Cond.instanceMethod yX2_ends, Cond.selects RX2 yX2_ends yX2_ends, Cond.code yX2_ends cX2_ends 2 (some .int), Cond.methodLink RX2 83 yX2_emptyPiles, Cond.instanceMethod yX2_emptyPiles, Cond.selects RX2 yX2_emptyPiles yX2_emptyPiles, Cond.code yX2_emptyPiles cX2_emptyPiles 3 (some .int), Cond.methodLink RL 35 yX1_alike, Cond.instanceMethod yX1_alike, Cond.selects RX1 yX1_alike yX1_alike, Cond.code yX1_alike cX1_alike 2 (some .int), Cond.constant RX1 55 (-1000001), Cond.fieldLink RX1 56 "TurningShop$Game" "over" "Z", Cond.constant RX1 60 (-1000002), Cond.methodLink RX1 61 yX0_goOnAlike, Cond.instanceMethod yX0_goOnAlike, Cond.selects RX0 yX0_goOnAlike yX0_goOnAlike, Cond.code yX0_goOnAlike cX0_goOnAlike 3 (some .int), Cond.methodLink RX0 132 yX0_playTurnAlike]
def wsL_law_r13 : List Cond := [Cond.instanceMethod yX0_playTurnAlike, Cond.selects RX0 yX0_playTurnAlike yX0_playTurnAlike, Cond.code yX0_playTurnAlike cX0_playTurnAlike 3 none, Cond.methodLink RX0 135 yX0_firstInHand, Cond.instanceMethod yX0_firstInHand, Cond.selects RX0 yX0_firstInHand yX0_firstInHand, Cond.code yX0_firstInHand cX0_firstInHand 6 (some .int), Cond.methodLink RX0 139 yX0_playCard, Cond.methodLink RX0 142 yX0_dearestToBuy, Cond.instanceMethod yX0_dearestToBuy, Cond.selects RX0 yX0_dearestToBuy yX0_dearestToBuy, Cond.code yX0_dearestToBuy cX0_dearestToBuy 4 (some .int), Cond.methodLink RX0 145 yX0_buyCard, Cond.methodLink RX0 148 yX0_endTurn, Cond.methodLink RL 38 yX2_alike, Cond.instanceMethod yX2_alike, Cond.selects RX2 yX2_alike yX2_alike, Cond.code yX2_alike cX2_alike 2 (some .int), Cond.methodLink RX2 121 yX2_goesOn, Cond.instanceMethod yX2_goesOn, Cond.selects RX2 yX2_goesOn yX2_goesOn, Cond.code yX2_goesOn cX2_goesOn 3 (some .int), Cond.methodLink RX2 103 yX2_goOn, Cond.instanceMethod yX2_goOn]
def wsL_law_r14 : List Cond := [Cond.selects RX2 yX2_goOn yX2_goOn, Cond.code yX2_goOn cX2_goOn 2 none, Cond.methodLink RX2 87 yX2_firstOf, Cond.instanceMethod yX2_firstOf, Cond.selects RX2 yX2_firstOf yX2_firstOf, Cond.code yX2_firstOf cX2_firstOf 3 (some .int), Cond.methodLink RX2 94 yX2_dearest, Cond.instanceMethod yX2_dearest, Cond.selects RX2 yX2_dearest yX2_dearest, Cond.code yX2_dearest cX2_dearest 4 (some .int), Cond.methodLink RL 39 yX1_set, Cond.instanceMethod yX1_set, Cond.selects RX1 yX1_set yX1_set, Cond.code yX1_set cX1_set 4 (some .int), Cond.methodLink RL 43 yX2_set, Cond.instanceMethod yX2_set, Cond.selects RX2 yX2_set yX2_set, Cond.code yX2_set cX2_set 4 (some .int), Cond.methodLink RL 44 yX1_card, Cond.instanceMethod yX1_card, Cond.selects RX1 yX1_card yX1_card, Cond.code yX1_card cX1_card 5 (some .int), Cond.constant RX1 75 (-1000004), Cond.methodLink RX1 64 yX0_hasPlayer]
def wsL_law_r15 : List Cond := [Cond.instanceMethod yX0_hasPlayer, Cond.selects RX0 yX0_hasPlayer yX0_hasPlayer, Cond.code yX0_hasPlayer cX0_hasPlayer 2 (some .boolean), Cond.methodLink RX1 68 yX1_partAt, Cond.static yX1_partAt, Cond.code yX1_partAt cX1_partAt 1 (some .int), Cond.methodLink RX1 71 yX0_cardOf, Cond.methodLink RL 48 yX2_card, Cond.instanceMethod yX2_card, Cond.selects RX2 yX2_card yX2_card, Cond.code yX2_card cX2_card 4 (some .int), Cond.constant RX2 127 (-1000004), Cond.methodLink RX2 124 yX2_isPlayer, Cond.instanceMethod yX2_isPlayer, Cond.selects RX2 yX2_isPlayer yX2_isPlayer, Cond.code yX2_isPlayer cX2_isPlayer 2 (some .boolean), Cond.methodLink RL 49 yX1_many, Cond.instanceMethod yX1_many, Cond.selects RX1 yX1_many yX1_many, Cond.code yX1_many cX1_many 5 (some .int), Cond.methodLink RX1 76 yX0_howMany, Cond.instanceMethod yX0_howMany, Cond.selects RX0 yX0_howMany yX0_howMany, Cond.code yX0_howMany cX0_howMany 9 (some .int)]
def wsL_law_r16 : List Cond := [Cond.methodLink RL 52 yX2_many, Cond.instanceMethod yX2_many, Cond.selects RX2 yX2_many yX2_many, Cond.code yX2_many cX2_many 4 (some .int), Cond.methodLink RX2 128 yX2_cardsOf, Cond.instanceMethod yX2_cardsOf, Cond.selects RX2 yX2_cardsOf yX2_cardsOf, Cond.code yX2_cardsOf cX2_cardsOf 8 (some .int), Cond.methodLink RL 53 yX1_points, Cond.instanceMethod yX1_points, Cond.selects RX1 yX1_points yX1_points, Cond.code yX1_points cX1_points 2 (some .int), Cond.fieldLink RX1 80 "TurningShop" "POINTS" "[I", Cond.methodLink RX1 84 yX0_sumOf, Cond.instanceMethod yX0_sumOf, Cond.selects RX0 yX0_sumOf yX0_sumOf, Cond.code yX0_sumOf cX0_sumOf 8 (some .int), Cond.methodLink RL 56 yX2_points, Cond.instanceMethod yX2_points, Cond.selects RX2 yX2_points yX2_points, Cond.code yX2_points cX2_points 2 (some .int), Cond.methodLink RX2 135 yX2_pointsBy, Cond.instanceMethod yX2_pointsBy, Cond.selects RX2 yX2_pointsBy yX2_pointsBy]
def wsL_law_r17 : List Cond := [Cond.code yX2_pointsBy cX2_pointsBy 4 (some .int), Cond.methodLink RX2 132 yX2_pointsOf, Cond.static yX2_pointsOf, Cond.code yX2_pointsOf cX2_pointsOf 1 (some .int), Cond.methodLink RL 57 yX1_kindOf, Cond.instanceMethod yX1_kindOf, Cond.selects RX1 yX1_kindOf yX1_kindOf, Cond.code yX1_kindOf cX1_kindOf 3 (some .int), Cond.fieldLink RX1 88 "TurningShop" "PRICE" "[I", Cond.fieldLink RX1 91 "TurningShop$Game" "piles" "[I", Cond.fieldLink RX1 97 "TurningShop$Game" "scrapped" "[I", Cond.methodLink RX1 94 yX0_isInRow, Cond.methodLink RX1 100 yX0_whyNotBought, Cond.methodLink RL 60 yX2_kindOf, Cond.instanceMethod yX2_kindOf, Cond.selects RX2 yX2_kindOf yX2_kindOf, Cond.code yX2_kindOf cX2_kindOf 3 (some .int), Cond.methodLink RL 61 yX1_turn, Cond.instanceMethod yX1_turn, Cond.selects RX1 yX1_turn yX1_turn, Cond.code yX1_turn cX1_turn 2 (some .int), Cond.fieldLink RX1 103 "TurningShop$Game" "player" "I", Cond.fieldLink RX1 106 "TurningShop$Game" "coins" "I", Cond.fieldLink RX1 109 "TurningShop$Game" "buys" "I"]
def wsL_law_r18 : List Cond := [Cond.fieldLink RX1 112 "TurningShop$Game" "actions" "I", Cond.fieldLink RX1 115 "TurningShop$Game" "scraps" "I", Cond.fieldLink RX1 121 "TurningShop$Game" "rowFirst" "I", Cond.methodLink RX1 118 yX0_kindsToBuy, Cond.instanceMethod yX0_kindsToBuy, Cond.selects RX0 yX0_kindsToBuy yX0_kindsToBuy, Cond.code yX0_kindsToBuy cX0_kindsToBuy 3 (some .int), Cond.methodLink RL 64 yX2_turn, Cond.instanceMethod yX2_turn, Cond.selects RX2 yX2_turn yX2_turn, Cond.code yX2_turn cX2_turn 2 (some .int), Cond.methodLink RX2 138 yX2_canBuy, Cond.instanceMethod yX2_canBuy, Cond.selects RX2 yX2_canBuy yX2_canBuy, Cond.code yX2_canBuy cX2_canBuy 3 (some .int), Cond.methodLink RL 65 yX1_purse, Cond.instanceMethod yX1_purse, Cond.selects RX1 yX1_purse yX1_purse, Cond.code yX1_purse cX1_purse 3 (some .int), Cond.fieldLink RX1 124 "TurningShop" "GIVES_COINS" "[I", Cond.methodLink RL 68 yX2_purse, Cond.instanceMethod yX2_purse, Cond.selects RX2 yX2_purse yX2_purse, Cond.code yX2_purse cX2_purse 3 (some .int)]
def wsL_law_r19 : List Cond := [Cond.methodLink RL 69 yX1_outcome, Cond.instanceMethod yX1_outcome, Cond.selects RX1 yX1_outcome yX1_outcome, Cond.code yX1_outcome cX1_outcome 5 (some .int), Cond.methodLink RX1 127 yX0_leader, Cond.instanceMethod yX0_leader, Cond.selects RX0 yX0_leader yX0_leader, Cond.code yX0_leader cX0_leader 3 (some .int), Cond.methodLink RX0 154 yX0_sumOf, Cond.methodLink RL 72 yX2_outcome, Cond.instanceMethod yX2_outcome, Cond.selects RX2 yX2_outcome yX2_outcome, Cond.code yX2_outcome cX2_outcome 5 (some .int), Cond.methodLink RX2 141 yX2_putAside, Cond.instanceMethod yX2_putAside, Cond.selects RX2 yX2_putAside yX2_putAside, Cond.code yX2_putAside cX2_putAside 2 none, Cond.methodLink RX2 144 yX2_leader, Cond.instanceMethod yX2_leader, Cond.selects RX2 yX2_leader yX2_leader, Cond.code yX2_leader cX2_leader 3 (some .int), Cond.methodLink RX2 147 yX2_putBack, Cond.instanceMethod yX2_putBack, Cond.selects RX2 yX2_putBack yX2_putBack]
def wsL_law_r20 : List Cond := [Cond.code yX2_putBack cX2_putBack 2 none, Cond.methodLink RL 73 yX1_advice, Cond.instanceMethod yX1_advice, Cond.selects RX1 yX1_advice yX1_advice, Cond.code yX1_advice cX1_advice 6 (some .int), Cond.methodLink RX1 130 yX1_pointsAfter, Cond.instanceMethod yX1_pointsAfter, Cond.selects RX1 yX1_pointsAfter yX1_pointsAfter, Cond.code yX1_pointsAfter cX1_pointsAfter 3 (some .int), Cond.methodLink RL 76 yX2_advice, Cond.instanceMethod yX2_advice, Cond.selects RX2 yX2_advice yX2_advice, Cond.code yX2_advice cX2_advice 7 (some .int), Cond.methodLink RX2 150 yX2_wouldHave, Cond.instanceMethod yX2_wouldHave, Cond.selects RX2 yX2_wouldHave yX2_wouldHave, Cond.code yX2_wouldHave cX2_wouldHave 6 (some .int), Cond.methodLink RL 77 yX1_wealth, Cond.instanceMethod yX1_wealth, Cond.selects RX1 yX1_wealth yX1_wealth, Cond.code yX1_wealth cX1_wealth 4 (some .int), Cond.methodLink RX1 133 yX1_bitsOf, Cond.static yX1_bitsOf, Cond.code yX1_bitsOf cX1_bitsOf 4 (some .int)]
def wsL_law_r21 : List Cond := [Cond.constantFloat RX1 193 (1258291200), Cond.methodLink RL 80 yX2_wealth, Cond.instanceMethod yX2_wealth, Cond.selects RX2 yX2_wealth yX2_wealth, Cond.code yX2_wealth cX2_wealth 5 (some .int), Cond.methodLink RX2 156 yX2_bitsOf, Cond.static yX2_bitsOf, Cond.code yX2_bitsOf cX2_bitsOf 3 (some .int), Cond.constantFloat RX2 153 (1056964608), Cond.constant RX2 154 (8388608), Cond.constantFloat RX2 155 (1258291200), Cond.methodLink RL 81 yX1_count, Cond.instanceMethod yX1_count, Cond.selects RX1 yX1_count yX1_count, Cond.code yX1_count cX1_count 2 (some .int), Cond.fieldLink RX1 137 "TurningShop$Game" "players" "I", Cond.fieldLink RX1 140 "TurningShop$Game" "endedTurns" "I", Cond.fieldLink RX1 153 "TurningShop" "textLength" "I", Cond.methodLink RX1 143 yX0_emptyPiles, Cond.methodLink RX1 146 yX1_sum, Cond.static yX1_sum, Cond.code yX1_sum cX1_sum 3 (some .int), Cond.methodLink RL 84 yX2_count, Cond.instanceMethod yX2_count]
def wsL_law_r22 : List Cond := [Cond.selects RX2 yX2_count yX2_count, Cond.code yX2_count cX2_count 2 (some .int), Cond.fieldLink RX2 163 "TurningShopModel" "length" "I", Cond.methodLink RX2 160 yX2_sum, Cond.instanceMethod yX2_sum, Cond.selects RX2 yX2_sum yX2_sum, Cond.code yX2_sum cX2_sum 4 (some .int), Cond.methodLink RL 85 yX1_undo, Cond.instanceMethod yX1_undo, Cond.selects RX1 yX1_undo yX1_undo, Cond.code yX1_undo cX1_undo 2 (some .int), Cond.methodLink RL 88 yX2_undo, Cond.instanceMethod yX2_undo, Cond.selects RX2 yX2_undo yX2_undo, Cond.code yX2_undo cX2_undo 2 (some .int), Cond.methodLink RL 89 yX1_type, Cond.instanceMethod yX1_type, Cond.selects RX1 yX1_type yX1_type, Cond.code yX1_type cX1_type 2 (some .int), Cond.constant RX1 156 (-1000003), Cond.methodLink RL 92 yX2_type, Cond.instanceMethod yX2_type, Cond.selects RX2 yX2_type yX2_type, Cond.code yX2_type cX2_type 2 (some .int)]
def wsL_law_r23 : List Cond := [Cond.constant RX2 166 (-1000003), Cond.methodLink RL 93 yX1_clearText, Cond.instanceMethod yX1_clearText, Cond.selects RX1 yX1_clearText yX1_clearText, Cond.code yX1_clearText cX1_clearText 2 (some .int), Cond.methodLink RL 96 yX2_clearText, Cond.instanceMethod yX2_clearText, Cond.selects RX2 yX2_clearText yX2_clearText, Cond.code yX2_clearText cX2_clearText 2 (some .int), Cond.methodLink RL 97 yX1_fault, Cond.instanceMethod yX1_fault, Cond.selects RX1 yX1_fault yX1_fault, Cond.code yX1_fault cX1_fault 2 (some .int), Cond.fieldLink RX1 160 "TurningShop" "faultPosition" "I", Cond.fieldLink RX1 163 "TurningShop" "faultReason" "I", Cond.fieldLink RX1 166 "TurningShop" "faultCause" "I", Cond.methodLink RX1 157 yX1_tryText, Cond.instanceMethod yX1_tryText, Cond.selects RX1 yX1_tryText yX1_tryText, Cond.code yX1_tryText cX1_tryText 7 (some .int), Cond.methodLink RX1 176 yX1_isNumberedOrder, Cond.static yX1_isNumberedOrder, Cond.code yX1_isNumberedOrder cX1_isNumberedOrder 1 (some .boolean), Cond.methodLink RX1 180 yX1_keepFault]
def wsL_law_r24 : List Cond := [Cond.instanceMethod yX1_keepFault, Cond.selects RX1 yX1_keepFault yX1_keepFault, Cond.code yX1_keepFault cX1_keepFault 4 (some .int), Cond.methodLink RX1 183 yX1_digitsFrom, Cond.instanceMethod yX1_digitsFrom, Cond.selects RX1 yX1_digitsFrom yX1_digitsFrom, Cond.code yX1_digitsFrom cX1_digitsFrom 4 (some .int), Cond.methodLink RX1 186 yX1_numberBetween, Cond.instanceMethod yX1_numberBetween, Cond.selects RX1 yX1_numberBetween yX1_numberBetween, Cond.code yX1_numberBetween cX1_numberBetween 5 (some .int), Cond.methodLink RX1 190 yX1_doOrder, Cond.instanceMethod yX1_doOrder, Cond.selects RX1 yX1_doOrder yX1_doOrder, Cond.code yX1_doOrder cX1_doOrder 3 (some .int), Cond.methodLink RL 100 yX2_fault, Cond.instanceMethod yX2_fault, Cond.selects RX2 yX2_fault yX2_fault, Cond.code yX2_fault cX2_fault 2 (some .int), Cond.fieldLink RX2 183 "TurningShopModel" "reason" "I", Cond.fieldLink RX2 186 "TurningShopModel" "position" "I", Cond.fieldLink RX2 195 "TurningShopModel" "cause" "I", Cond.methodLink RX2 201 yX2_look, Cond.instanceMethod yX2_look]
def wsL_law_r25 : List Cond := [Cond.selects RX2 yX2_look yX2_look, Cond.code yX2_look cX2_look 2 none, Cond.methodLink RX2 198 yX2_go, Cond.instanceMethod yX2_go, Cond.selects RX2 yX2_go yX2_go, Cond.code yX2_go cX2_go 2 (some .int), Cond.fieldLink RX2 167 "TurningShopModel" "at" "I", Cond.fieldLink RX2 170 "TurningShopModel" "isWrong" "Z", Cond.methodLink RX2 189 yX2_read, Cond.instanceMethod yX2_read, Cond.selects RX2 yX2_read yX2_read, Cond.code yX2_read cX2_read 3 none, Cond.fieldLink RX2 174 "TurningShopModel" "letter" "I", Cond.fieldLink RX2 177 "TurningShopModel" "number" "I", Cond.methodLink RX2 180 yX2_sign, Cond.instanceMethod yX2_sign, Cond.selects RX2 yX2_sign yX2_sign, Cond.code yX2_sign cX2_sign 4 (some .int), Cond.methodLink RX2 192 yX2_does, Cond.instanceMethod yX2_does, Cond.selects RX2 yX2_does yX2_does, Cond.code yX2_does cX2_does 3 (some .int), Cond.methodLink RL 101 yX1_perform, Cond.instanceMethod yX1_perform]
def wsL_law_r26 : List Cond := [Cond.selects RX1 yX1_perform yX1_perform, Cond.code yX1_perform cX1_perform 2 (some .int), Cond.methodLink RL 104 yX2_perform, Cond.instanceMethod yX2_perform, Cond.selects RX2 yX2_perform yX2_perform, Cond.code yX2_perform cX2_perform 1 (some .int)]
def wsL_law : List Cond := (wsL_law_r1 ++ (wsL_law_r2 ++ (wsL_law_r3 ++ (wsL_law_r4 ++ (wsL_law_r5 ++ (wsL_law_r6 ++ (wsL_law_r7 ++ (wsL_law_r8 ++ (wsL_law_r9 ++ (wsL_law_r10 ++ (wsL_law_r11 ++ (wsL_law_r12 ++ (wsL_law_r13 ++ (wsL_law_r14 ++ (wsL_law_r15 ++ (wsL_law_r16 ++ (wsL_law_r17 ++ (wsL_law_r18 ++ (wsL_law_r19 ++ (wsL_law_r20 ++ (wsL_law_r21 ++ (wsL_law_r22 ++ (wsL_law_r23 ++ (wsL_law_r24 ++ (wsL_law_r25 ++ wsL_law_r26))))))))))))))))))))))))) ++ wsX10 ++ wsX20 ++ wsX00 ++ ([] : List Cond)
abbrev vwCl : List vw_C := [(RX0, TX0, 14), (RX1, TX1, 9), (RX2, TX2, 13)]
theorem inlX0 : ∀ w ∈ wsX00, w ∈ wsL_law := fun _ h => List.mem_append_left _ (List.mem_append_right _ h)
theorem inlX1 : ∀ w ∈ wsX10, w ∈ wsL_law := fun _ h => List.mem_append_left _ (List.mem_append_left _ (List.mem_append_left _ (List.mem_append_right _ h)))
theorem inlX2 : ∀ w ∈ wsX20, w ∈ wsL_law := fun _ h => List.mem_append_left _ (List.mem_append_left _ (List.mem_append_right _ h))
end
section
theorem wsL_law_r1_t : ∀ w ∈ wsL_law_r1, w ∈ lw_tbl := List.forall_mem_cons.mpr ⟨List.mem_append_right _ (List.mem_append_left _ (List.mem_of_getElem? (i := 6) rfl)), List.forall_mem_cons.mpr ⟨List.mem_append_right _ (List.mem_append_left _ (List.mem_of_getElem? (i := 7) rfl)), List.forall_mem_cons.mpr ⟨List.mem_append_right _ (List.mem_append_left _ (List.mem_of_getElem? (i := 1) rfl)), List.forall_mem_cons.mpr ⟨List.mem_append_right _ (List.mem_append_right _ (List.mem_append_left _ (List.mem_of_getElem? (i := 150) rfl))), List.forall_mem_cons.mpr ⟨List.mem_append_right _ (List.mem_append_right _ (List.mem_append_left _ (List.mem_of_getElem? (i := 151) rfl))), List.forall_mem_cons.mpr ⟨List.mem_append_right _ (List.mem_append_left _ (List.mem_of_getElem? (i := 5) rfl)), List.forall_mem_cons.mpr ⟨List.mem_append_right _ (List.mem_append_left _ (List.mem_of_getElem? (i := 8) rfl)), List.forall_mem_cons.mpr ⟨List.mem_append_right _ (List.mem_append_left _ (List.mem_of_getElem? (i := 9) rfl)), List.forall_mem_cons.mpr ⟨List.mem_append_right _ (List.mem_append_left _ (List.mem_of_getElem? (i := 10) rfl)), List.forall_mem_cons.mpr ⟨List.mem_append_right _ (List.mem_append_left _ (List.mem_of_getElem? (i := 11) rfl)), List.forall_mem_cons.mpr ⟨List.mem_append_right _ (List.mem_append_left _ (List.mem_of_getElem? (i := 12) rfl)), List.forall_mem_cons.mpr ⟨List.mem_append_right _ (List.mem_append_left _ (List.mem_of_getElem? (i := 13) rfl)), List.forall_mem_cons.mpr ⟨List.mem_append_right _ (List.mem_append_left _ (List.mem_of_getElem? (i := 14) rfl)), List.forall_mem_cons.mpr ⟨List.mem_append_right _ (List.mem_append_left _ (List.mem_of_getElem? (i := 15) rfl)), List.forall_mem_cons.mpr ⟨List.mem_append_right _ (List.mem_append_left _ (List.mem_of_getElem? (i := 2) rfl)), List.forall_mem_cons.mpr ⟨List.mem_append_right _ (List.mem_append_left _ (List.mem_of_getElem? (i := 108) rfl)), List.forall_mem_cons.mpr ⟨List.mem_append_right _ (List.mem_append_left _ (List.mem_of_getElem? (i := 109) rfl)), List.forall_mem_cons.mpr ⟨List.mem_append_right _ (List.mem_append_left _ (List.mem_of_getElem? (i := 110) rfl)), List.forall_mem_cons.mpr ⟨List.mem_append_right _ (List.mem_append_left _ (List.mem_of_getElem? (i := 136) rfl)), List.forall_mem_cons.mpr ⟨List.mem_append_right _ (List.mem_append_left _ (List.mem_of_getElem? (i := 112) rfl)), List.forall_mem_cons.mpr ⟨List.mem_append_right _ (List.mem_append_left _ (List.mem_of_getElem? (i := 40) rfl)), List.forall_mem_cons.mpr ⟨List.mem_append_right _ (List.mem_append_left _ (List.mem_of_getElem? (i := 16) rfl)), List.forall_mem_cons.mpr ⟨List.mem_append_right _ (List.mem_append_left _ (List.mem_of_getElem? (i := 17) rfl)), List.forall_mem_cons.mpr ⟨List.mem_append_right _ (List.mem_append_left _ (List.mem_of_getElem? (i := 18) rfl)), fun _ h => absurd h List.not_mem_nil⟩⟩⟩⟩⟩⟩⟩⟩⟩⟩⟩⟩⟩⟩⟩⟩⟩⟩⟩⟩⟩⟩⟩⟩
theorem wsL_law_r2_t : ∀ w ∈ wsL_law_r2, w ∈ lw_tbl := List.forall_mem_cons.mpr ⟨List.mem_append_right _ (List.mem_append_left _ (List.mem_of_getElem? (i := 19) rfl)), List.forall_mem_cons.mpr ⟨List.mem_append_right _ (List.mem_append_left _ (List.mem_of_getElem? (i := 75) rfl)), List.forall_mem_cons.mpr ⟨List.mem_append_right _ (List.mem_append_left _ (List.mem_of_getElem? (i := 20) rfl)), List.forall_mem_cons.mpr ⟨List.mem_append_right _ (List.mem_append_left _ (List.mem_of_getElem? (i := 21) rfl)), List.forall_mem_cons.mpr ⟨List.mem_append_right _ (List.mem_append_left _ (List.mem_of_getElem? (i := 22) rfl)), List.forall_mem_cons.mpr ⟨List.mem_append_right _ (List.mem_append_left _ (List.mem_of_getElem? (i := 24) rfl)), List.forall_mem_cons.mpr ⟨List.mem_append_right _ (List.mem_append_left _ (List.mem_of_getElem? (i := 77) rfl)), List.forall_mem_cons.mpr ⟨List.mem_append_right _ (List.mem_append_left _ (List.mem_of_getElem? (i := 78) rfl)), List.forall_mem_cons.mpr ⟨List.mem_append_right _ (List.mem_append_left _ (List.mem_of_getElem? (i := 79) rfl)), List.forall_mem_cons.mpr ⟨List.mem_append_right _ (List.mem_append_left _ (List.mem_of_getElem? (i := 80) rfl)), List.forall_mem_cons.mpr ⟨List.mem_append_right _ (List.mem_append_left _ (List.mem_of_getElem? (i := 81) rfl)), List.forall_mem_cons.mpr ⟨List.mem_append_right _ (List.mem_append_left _ (List.mem_of_getElem? (i := 26) rfl)), List.forall_mem_cons.mpr ⟨List.mem_append_right _ (List.mem_append_left _ (List.mem_of_getElem? (i := 28) rfl)), List.forall_mem_cons.mpr ⟨List.mem_append_right _ (List.mem_append_left _ (List.mem_of_getElem? (i := 38) rfl)), List.forall_mem_cons.mpr ⟨List.mem_append_right _ (List.mem_append_left _ (List.mem_of_getElem? (i := 42) rfl)), List.forall_mem_cons.mpr ⟨List.mem_append_right _ (List.mem_append_left _ (List.mem_of_getElem? (i := 44) rfl)), List.forall_mem_cons.mpr ⟨List.mem_append_right _ (List.mem_append_left _ (List.mem_of_getElem? (i := 84) rfl)), List.forall_mem_cons.mpr ⟨List.mem_append_right _ (List.mem_append_left _ (List.mem_of_getElem? (i := 86) rfl)), List.forall_mem_cons.mpr ⟨List.mem_append_right _ (List.mem_append_left _ (List.mem_of_getElem? (i := 85) rfl)), List.forall_mem_cons.mpr ⟨List.mem_append_right _ (List.mem_append_left _ (List.mem_of_getElem? (i := 3) rfl)), List.forall_mem_cons.mpr ⟨List.mem_append_right _ (List.mem_append_left _ (List.mem_of_getElem? (i := 87) rfl)), List.forall_mem_cons.mpr ⟨List.mem_append_right _ (List.mem_append_left _ (List.mem_of_getElem? (i := 88) rfl)), List.forall_mem_cons.mpr ⟨List.mem_append_right _ (List.mem_append_left _ (List.mem_of_getElem? (i := 4) rfl)), List.forall_mem_cons.mpr ⟨List.mem_append_right _ (List.mem_append_left _ (List.mem_of_getElem? (i := 89) rfl)), fun _ h => absurd h List.not_mem_nil⟩⟩⟩⟩⟩⟩⟩⟩⟩⟩⟩⟩⟩⟩⟩⟩⟩⟩⟩⟩⟩⟩⟩⟩
theorem wsL_law_r3_t : ∀ w ∈ wsL_law_r3, w ∈ lw_tbl := List.forall_mem_cons.mpr ⟨List.mem_append_right _ (List.mem_append_left _ (List.mem_of_getElem? (i := 90) rfl)), List.forall_mem_cons.mpr ⟨List.mem_append_right _ (List.mem_append_left _ (List.mem_of_getElem? (i := 92) rfl)), List.forall_mem_cons.mpr ⟨List.mem_append_left _ (List.mem_of_getElem? (i := 0) rfl), List.forall_mem_cons.mpr ⟨List.mem_append_right _ (List.mem_append_left _ (List.mem_of_getElem? (i := 93) rfl)), List.forall_mem_cons.mpr ⟨List.mem_append_right _ (List.mem_append_left _ (List.mem_of_getElem? (i := 96) rfl)), List.forall_mem_cons.mpr ⟨List.mem_append_right _ (List.mem_append_left _ (List.mem_of_getElem? (i := 98) rfl)), List.forall_mem_cons.mpr ⟨List.mem_append_left _ (List.mem_of_getElem? (i := 1) rfl), List.forall_mem_cons.mpr ⟨List.mem_append_right _ (List.mem_append_left _ (List.mem_of_getElem? (i := 99) rfl)), List.forall_mem_cons.mpr ⟨List.mem_append_right _ (List.mem_append_left _ (List.mem_of_getElem? (i := 100) rfl)), List.forall_mem_cons.mpr ⟨List.mem_append_right _ (List.mem_append_left _ (List.mem_of_getElem? (i := 102) rfl)), List.forall_mem_cons.mpr ⟨List.mem_append_left _ (List.mem_of_getElem? (i := 2) rfl), List.forall_mem_cons.mpr ⟨List.mem_append_right _ (List.mem_append_left _ (List.mem_of_getElem? (i := 103) rfl)), List.forall_mem_cons.mpr ⟨List.mem_append_right _ (List.mem_append_left _ (List.mem_of_getElem? (i := 104) rfl)), List.forall_mem_cons.mpr ⟨List.mem_append_right _ (List.mem_append_left _ (List.mem_of_getElem? (i := 106) rfl)), List.forall_mem_cons.mpr ⟨List.mem_append_left _ (List.mem_of_getElem? (i := 3) rfl), List.forall_mem_cons.mpr ⟨List.mem_append_right _ (List.mem_append_left _ (List.mem_of_getElem? (i := 107) rfl)), List.forall_mem_cons.mpr ⟨List.mem_append_right _ (List.mem_append_left _ (List.mem_of_getElem? (i := 30) rfl)), List.forall_mem_cons.mpr ⟨List.mem_append_right _ (List.mem_append_left _ (List.mem_of_getElem? (i := 32) rfl)), List.forall_mem_cons.mpr ⟨List.mem_append_right _ (List.mem_append_left _ (List.mem_of_getElem? (i := 34) rfl)), List.forall_mem_cons.mpr ⟨List.mem_append_right _ (List.mem_append_left _ (List.mem_of_getElem? (i := 36) rfl)), List.forall_mem_cons.mpr ⟨List.mem_append_right _ (List.mem_append_right _ (List.mem_append_left _ (List.mem_of_getElem? (i := 152) rfl))), List.forall_mem_cons.mpr ⟨List.mem_append_right _ (List.mem_append_right _ (List.mem_append_left _ (List.mem_of_getElem? (i := 153) rfl))), List.forall_mem_cons.mpr ⟨List.mem_append_right _ (List.mem_append_right _ (List.mem_append_left _ (List.mem_of_getElem? (i := 154) rfl))), List.forall_mem_cons.mpr ⟨List.mem_append_right _ (List.mem_append_right _ (List.mem_append_left _ (List.mem_of_getElem? (i := 155) rfl))), fun _ h => absurd h List.not_mem_nil⟩⟩⟩⟩⟩⟩⟩⟩⟩⟩⟩⟩⟩⟩⟩⟩⟩⟩⟩⟩⟩⟩⟩⟩
theorem wsL_law_r4_t : ∀ w ∈ wsL_law_r4, w ∈ lw_tbl := List.forall_mem_cons.mpr ⟨List.mem_append_right _ (List.mem_append_right _ (List.mem_append_left _ (List.mem_of_getElem? (i := 186) rfl))), List.forall_mem_cons.mpr ⟨List.mem_append_right _ (List.mem_append_right _ (List.mem_append_left _ (List.mem_of_getElem? (i := 187) rfl))), List.forall_mem_cons.mpr ⟨List.mem_append_right _ (List.mem_append_right _ (List.mem_append_left _ (List.mem_of_getElem? (i := 188) rfl))), List.forall_mem_cons.mpr ⟨List.mem_append_right _ (List.mem_append_right _ (List.mem_append_left _ (List.mem_of_getElem? (i := 190) rfl))), List.forall_mem_cons.mpr ⟨List.mem_append_right _ (List.mem_append_right _ (List.mem_append_left _ (List.mem_of_getElem? (i := 156) rfl))), List.forall_mem_cons.mpr ⟨List.mem_append_right _ (List.mem_append_right _ (List.mem_append_left _ (List.mem_of_getElem? (i := 158) rfl))), List.forall_mem_cons.mpr ⟨List.mem_append_left _ (List.mem_of_getElem? (i := 19) rfl), List.forall_mem_cons.mpr ⟨List.mem_append_right _ (List.mem_append_right _ (List.mem_append_left _ (List.mem_of_getElem? (i := 159) rfl))), List.forall_mem_cons.mpr ⟨List.mem_append_right _ (List.mem_append_right _ (List.mem_append_left _ (List.mem_of_getElem? (i := 160) rfl))), List.forall_mem_cons.mpr ⟨List.mem_append_right _ (List.mem_append_right _ (List.mem_append_left _ (List.mem_of_getElem? (i := 161) rfl))), List.forall_mem_cons.mpr ⟨List.mem_append_right _ (List.mem_append_right _ (List.mem_append_left _ (List.mem_of_getElem? (i := 162) rfl))), List.forall_mem_cons.mpr ⟨List.mem_append_right _ (List.mem_append_right _ (List.mem_append_left _ (List.mem_of_getElem? (i := 163) rfl))), List.forall_mem_cons.mpr ⟨List.mem_append_right _ (List.mem_append_right _ (List.mem_append_left _ (List.mem_of_getElem? (i := 165) rfl))), List.forall_mem_cons.mpr ⟨List.mem_append_left _ (List.mem_of_getElem? (i := 20) rfl), List.forall_mem_cons.mpr ⟨List.mem_append_right _ (List.mem_append_right _ (List.mem_append_left _ (List.mem_of_getElem? (i := 166) rfl))), List.forall_mem_cons.mpr ⟨List.mem_append_right _ (List.mem_append_right _ (List.mem_append_left _ (List.mem_of_getElem? (i := 167) rfl))), List.forall_mem_cons.mpr ⟨List.mem_append_right _ (List.mem_append_right _ (List.mem_append_left _ (List.mem_of_getElem? (i := 168) rfl))), List.forall_mem_cons.mpr ⟨List.mem_append_right _ (List.mem_append_right _ (List.mem_append_left _ (List.mem_of_getElem? (i := 169) rfl))), List.forall_mem_cons.mpr ⟨List.mem_append_right _ (List.mem_append_right _ (List.mem_append_left _ (List.mem_of_getElem? (i := 170) rfl))), List.forall_mem_cons.mpr ⟨List.mem_append_right _ (List.mem_append_right _ (List.mem_append_left _ (List.mem_of_getElem? (i := 172) rfl))), List.forall_mem_cons.mpr ⟨List.mem_append_left _ (List.mem_of_getElem? (i := 21) rfl), List.forall_mem_cons.mpr ⟨List.mem_append_right _ (List.mem_append_right _ (List.mem_append_left _ (List.mem_of_getElem? (i := 173) rfl))), List.forall_mem_cons.mpr ⟨List.mem_append_right _ (List.mem_append_right _ (List.mem_append_left _ (List.mem_of_getElem? (i := 174) rfl))), List.forall_mem_cons.mpr ⟨List.mem_append_right _ (List.mem_append_right _ (List.mem_append_left _ (List.mem_of_getElem? (i := 176) rfl))), fun _ h => absurd h List.not_mem_nil⟩⟩⟩⟩⟩⟩⟩⟩⟩⟩⟩⟩⟩⟩⟩⟩⟩⟩⟩⟩⟩⟩⟩⟩
theorem wsL_law_r5_t : ∀ w ∈ wsL_law_r5, w ∈ lw_tbl := List.forall_mem_cons.mpr ⟨List.mem_append_left _ (List.mem_of_getElem? (i := 22) rfl), List.forall_mem_cons.mpr ⟨List.mem_append_right _ (List.mem_append_right _ (List.mem_append_left _ (List.mem_of_getElem? (i := 177) rfl))), List.forall_mem_cons.mpr ⟨List.mem_append_right _ (List.mem_append_right _ (List.mem_append_left _ (List.mem_of_getElem? (i := 178) rfl))), List.forall_mem_cons.mpr ⟨List.mem_append_right _ (List.mem_append_right _ (List.mem_append_left _ (List.mem_of_getElem? (i := 180) rfl))), List.forall_mem_cons.mpr ⟨List.mem_append_left _ (List.mem_of_getElem? (i := 23) rfl), List.forall_mem_cons.mpr ⟨List.mem_append_right _ (List.mem_append_right _ (List.mem_append_left _ (List.mem_of_getElem? (i := 181) rfl))), List.forall_mem_cons.mpr ⟨List.mem_append_right _ (List.mem_append_right _ (List.mem_append_left _ (List.mem_of_getElem? (i := 182) rfl))), List.forall_mem_cons.mpr ⟨List.mem_append_right _ (List.mem_append_right _ (List.mem_append_left _ (List.mem_of_getElem? (i := 184) rfl))), List.forall_mem_cons.mpr ⟨List.mem_append_left _ (List.mem_of_getElem? (i := 24) rfl), List.forall_mem_cons.mpr ⟨List.mem_append_right _ (List.mem_append_right _ (List.mem_append_left _ (List.mem_of_getElem? (i := 185) rfl))), List.forall_mem_cons.mpr ⟨List.mem_append_right _ (List.mem_append_left _ (List.mem_of_getElem? (i := 137) rfl)), List.forall_mem_cons.mpr ⟨List.mem_append_right _ (List.mem_append_left _ (List.mem_of_getElem? (i := 138) rfl)), List.forall_mem_cons.mpr ⟨List.mem_append_right _ (List.mem_append_left _ (List.mem_of_getElem? (i := 139) rfl)), List.forall_mem_cons.mpr ⟨List.mem_append_right _ (List.mem_append_left _ (List.mem_of_getElem? (i := 140) rfl)), List.forall_mem_cons.mpr ⟨List.mem_append_right _ (List.mem_append_left _ (List.mem_of_getElem? (i := 141) rfl)), List.forall_mem_cons.mpr ⟨List.mem_append_right _ (List.mem_append_left _ (List.mem_of_getElem? (i := 143) rfl)), List.forall_mem_cons.mpr ⟨List.mem_append_left _ (List.mem_of_getElem? (i := 4) rfl), List.forall_mem_cons.mpr ⟨List.mem_append_right _ (List.mem_append_left _ (List.mem_of_getElem? (i := 144) rfl)), List.forall_mem_cons.mpr ⟨List.mem_append_right _ (List.mem_append_left _ (List.mem_of_getElem? (i := 145) rfl)), List.forall_mem_cons.mpr ⟨List.mem_append_right _ (List.mem_append_left _ (List.mem_of_getElem? (i := 146) rfl)), List.forall_mem_cons.mpr ⟨List.mem_append_right _ (List.mem_append_left _ (List.mem_of_getElem? (i := 147) rfl)), List.forall_mem_cons.mpr ⟨List.mem_append_right _ (List.mem_append_left _ (List.mem_of_getElem? (i := 148) rfl)), List.forall_mem_cons.mpr ⟨List.mem_append_right _ (List.mem_append_left _ (List.mem_of_getElem? (i := 41) rfl)), List.forall_mem_cons.mpr ⟨List.mem_append_right _ (List.mem_append_left _ (List.mem_of_getElem? (i := 149) rfl)), fun _ h => absurd h List.not_mem_nil⟩⟩⟩⟩⟩⟩⟩⟩⟩⟩⟩⟩⟩⟩⟩⟩⟩⟩⟩⟩⟩⟩⟩⟩
theorem wsL_law_r6_t : ∀ w ∈ wsL_law_r6, w ∈ lw_tbl := List.forall_mem_cons.mpr ⟨List.mem_append_right _ (List.mem_append_left _ (List.mem_of_getElem? (i := 151) rfl)), List.forall_mem_cons.mpr ⟨List.mem_append_left _ (List.mem_of_getElem? (i := 5) rfl), List.forall_mem_cons.mpr ⟨List.mem_append_right _ (List.mem_append_left _ (List.mem_of_getElem? (i := 152) rfl)), List.forall_mem_cons.mpr ⟨List.mem_append_right _ (List.mem_append_left _ (List.mem_of_getElem? (i := 111) rfl)), List.forall_mem_cons.mpr ⟨List.mem_append_right _ (List.mem_append_left _ (List.mem_of_getElem? (i := 153) rfl)), List.forall_mem_cons.mpr ⟨List.mem_append_right _ (List.mem_append_left _ (List.mem_of_getElem? (i := 155) rfl)), List.forall_mem_cons.mpr ⟨List.mem_append_left _ (List.mem_of_getElem? (i := 6) rfl), List.forall_mem_cons.mpr ⟨List.mem_append_right _ (List.mem_append_left _ (List.mem_of_getElem? (i := 156) rfl)), List.forall_mem_cons.mpr ⟨List.mem_append_right _ (List.mem_append_right _ (List.mem_append_left _ (List.mem_of_getElem? (i := 226) rfl))), List.forall_mem_cons.mpr ⟨List.mem_append_right _ (List.mem_append_right _ (List.mem_append_left _ (List.mem_of_getElem? (i := 227) rfl))), List.forall_mem_cons.mpr ⟨List.mem_append_right _ (List.mem_append_right _ (List.mem_append_left _ (List.mem_of_getElem? (i := 228) rfl))), List.forall_mem_cons.mpr ⟨List.mem_append_right _ (List.mem_append_right _ (List.mem_append_left _ (List.mem_of_getElem? (i := 229) rfl))), List.forall_mem_cons.mpr ⟨List.mem_append_right _ (List.mem_append_right _ (List.mem_append_left _ (List.mem_of_getElem? (i := 233) rfl))), List.forall_mem_cons.mpr ⟨List.mem_append_right _ (List.mem_append_right _ (List.mem_append_left _ (List.mem_of_getElem? (i := 230) rfl))), List.forall_mem_cons.mpr ⟨List.mem_append_right _ (List.mem_append_right _ (List.mem_append_left _ (List.mem_of_getElem? (i := 231) rfl))), List.forall_mem_cons.mpr ⟨List.mem_append_right _ (List.mem_append_right _ (List.mem_append_left _ (List.mem_of_getElem? (i := 232) rfl))), List.forall_mem_cons.mpr ⟨List.mem_append_right _ (List.mem_append_right _ (List.mem_append_left _ (List.mem_of_getElem? (i := 234) rfl))), List.forall_mem_cons.mpr ⟨List.mem_append_right _ (List.mem_append_right _ (List.mem_append_left _ (List.mem_of_getElem? (i := 236) rfl))), List.forall_mem_cons.mpr ⟨List.mem_append_left _ (List.mem_of_getElem? (i := 25) rfl), List.forall_mem_cons.mpr ⟨List.mem_append_right _ (List.mem_append_right _ (List.mem_append_left _ (List.mem_of_getElem? (i := 237) rfl))), List.forall_mem_cons.mpr ⟨List.mem_append_right _ (List.mem_append_right _ (List.mem_append_left _ (List.mem_of_getElem? (i := 189) rfl))), List.forall_mem_cons.mpr ⟨List.mem_append_right _ (List.mem_append_left _ (List.mem_of_getElem? (i := 157) rfl)), List.forall_mem_cons.mpr ⟨List.mem_append_right _ (List.mem_append_left _ (List.mem_of_getElem? (i := 158) rfl)), List.forall_mem_cons.mpr ⟨List.mem_append_right _ (List.mem_append_left _ (List.mem_of_getElem? (i := 159) rfl)), fun _ h => absurd h List.not_mem_nil⟩⟩⟩⟩⟩⟩⟩⟩⟩⟩⟩⟩⟩⟩⟩⟩⟩⟩⟩⟩⟩⟩⟩⟩
theorem wsL_law_r7_t : ∀ w ∈ wsL_law_r7, w ∈ lw_tbl := List.forall_mem_cons.mpr ⟨List.mem_append_right _ (List.mem_append_left _ (List.mem_of_getElem? (i := 160) rfl)), List.forall_mem_cons.mpr ⟨List.mem_append_right _ (List.mem_append_left _ (List.mem_of_getElem? (i := 161) rfl)), List.forall_mem_cons.mpr ⟨List.mem_append_right _ (List.mem_append_left _ (List.mem_of_getElem? (i := 162) rfl)), List.forall_mem_cons.mpr ⟨List.mem_append_right _ (List.mem_append_left _ (List.mem_of_getElem? (i := 163) rfl)), List.forall_mem_cons.mpr ⟨List.mem_append_right _ (List.mem_append_left _ (List.mem_of_getElem? (i := 164) rfl)), List.forall_mem_cons.mpr ⟨List.mem_append_right _ (List.mem_append_left _ (List.mem_of_getElem? (i := 169) rfl)), List.forall_mem_cons.mpr ⟨List.mem_append_right _ (List.mem_append_left _ (List.mem_of_getElem? (i := 165) rfl)), List.forall_mem_cons.mpr ⟨List.mem_append_right _ (List.mem_append_left _ (List.mem_of_getElem? (i := 166) rfl)), List.forall_mem_cons.mpr ⟨List.mem_append_right _ (List.mem_append_left _ (List.mem_of_getElem? (i := 167) rfl)), List.forall_mem_cons.mpr ⟨List.mem_append_right _ (List.mem_append_left _ (List.mem_of_getElem? (i := 168) rfl)), List.forall_mem_cons.mpr ⟨List.mem_append_right _ (List.mem_append_left _ (List.mem_of_getElem? (i := 180) rfl)), List.forall_mem_cons.mpr ⟨List.mem_append_right _ (List.mem_append_left _ (List.mem_of_getElem? (i := 182) rfl)), List.forall_mem_cons.mpr ⟨List.mem_append_left _ (List.mem_of_getElem? (i := 7) rfl), List.forall_mem_cons.mpr ⟨List.mem_append_right _ (List.mem_append_left _ (List.mem_of_getElem? (i := 183) rfl)), List.forall_mem_cons.mpr ⟨List.mem_append_right _ (List.mem_append_left _ (List.mem_of_getElem? (i := 184) rfl)), List.forall_mem_cons.mpr ⟨List.mem_append_right _ (List.mem_append_left _ (List.mem_of_getElem? (i := 186) rfl)), List.forall_mem_cons.mpr ⟨List.mem_append_left _ (List.mem_of_getElem? (i := 8) rfl), List.forall_mem_cons.mpr ⟨List.mem_append_right _ (List.mem_append_left _ (List.mem_of_getElem? (i := 187) rfl)), List.forall_mem_cons.mpr ⟨List.mem_append_right _ (List.mem_append_left _ (List.mem_of_getElem? (i := 188) rfl)), List.forall_mem_cons.mpr ⟨List.mem_append_right _ (List.mem_append_left _ (List.mem_of_getElem? (i := 190) rfl)), List.forall_mem_cons.mpr ⟨List.mem_append_left _ (List.mem_of_getElem? (i := 9) rfl), List.forall_mem_cons.mpr ⟨List.mem_append_right _ (List.mem_append_left _ (List.mem_of_getElem? (i := 191) rfl)), List.forall_mem_cons.mpr ⟨List.mem_append_right _ (List.mem_append_right _ (List.mem_append_left _ (List.mem_of_getElem? (i := 238) rfl))), List.forall_mem_cons.mpr ⟨List.mem_append_right _ (List.mem_append_right _ (List.mem_append_left _ (List.mem_of_getElem? (i := 239) rfl))), fun _ h => absurd h List.not_mem_nil⟩⟩⟩⟩⟩⟩⟩⟩⟩⟩⟩⟩⟩⟩⟩⟩⟩⟩⟩⟩⟩⟩⟩⟩
theorem wsL_law_r8_t : ∀ w ∈ wsL_law_r8, w ∈ lw_tbl := List.forall_mem_cons.mpr ⟨List.mem_append_right _ (List.mem_append_right _ (List.mem_append_right _ (List.mem_of_getElem? (i := 0) rfl))), List.forall_mem_cons.mpr ⟨List.mem_append_right _ (List.mem_append_right _ (List.mem_append_right _ (List.mem_of_getElem? (i := 1) rfl))), List.forall_mem_cons.mpr ⟨List.mem_append_right _ (List.mem_append_right _ (List.mem_append_right _ (List.mem_of_getElem? (i := 2) rfl))), List.forall_mem_cons.mpr ⟨List.mem_append_right _ (List.mem_append_right _ (List.mem_append_right _ (List.mem_of_getElem? (i := 4) rfl))), List.forall_mem_cons.mpr ⟨List.mem_append_left _ (List.mem_of_getElem? (i := 26) rfl), List.forall_mem_cons.mpr ⟨List.mem_append_right _ (List.mem_append_right _ (List.mem_append_right _ (List.mem_of_getElem? (i := 5) rfl))), List.forall_mem_cons.mpr ⟨List.mem_append_right _ (List.mem_append_right _ (List.mem_append_right _ (List.mem_of_getElem? (i := 14) rfl))), List.forall_mem_cons.mpr ⟨List.mem_append_right _ (List.mem_append_right _ (List.mem_append_right _ (List.mem_of_getElem? (i := 6) rfl))), List.forall_mem_cons.mpr ⟨List.mem_append_right _ (List.mem_append_right _ (List.mem_append_right _ (List.mem_of_getElem? (i := 8) rfl))), List.forall_mem_cons.mpr ⟨List.mem_append_left _ (List.mem_of_getElem? (i := 27) rfl), List.forall_mem_cons.mpr ⟨List.mem_append_right _ (List.mem_append_right _ (List.mem_append_right _ (List.mem_of_getElem? (i := 9) rfl))), List.forall_mem_cons.mpr ⟨List.mem_append_right _ (List.mem_append_right _ (List.mem_append_right _ (List.mem_of_getElem? (i := 10) rfl))), List.forall_mem_cons.mpr ⟨List.mem_append_right _ (List.mem_append_right _ (List.mem_append_right _ (List.mem_of_getElem? (i := 12) rfl))), List.forall_mem_cons.mpr ⟨List.mem_append_left _ (List.mem_of_getElem? (i := 28) rfl), List.forall_mem_cons.mpr ⟨List.mem_append_right _ (List.mem_append_right _ (List.mem_append_right _ (List.mem_of_getElem? (i := 13) rfl))), List.forall_mem_cons.mpr ⟨List.mem_append_right _ (List.mem_append_right _ (List.mem_append_right _ (List.mem_of_getElem? (i := 15) rfl))), List.forall_mem_cons.mpr ⟨List.mem_append_right _ (List.mem_append_right _ (List.mem_append_right _ (List.mem_of_getElem? (i := 17) rfl))), List.forall_mem_cons.mpr ⟨List.mem_append_left _ (List.mem_of_getElem? (i := 29) rfl), List.forall_mem_cons.mpr ⟨List.mem_append_right _ (List.mem_append_right _ (List.mem_append_right _ (List.mem_of_getElem? (i := 18) rfl))), List.forall_mem_cons.mpr ⟨List.mem_append_right _ (List.mem_append_right _ (List.mem_append_right _ (List.mem_of_getElem? (i := 19) rfl))), List.forall_mem_cons.mpr ⟨List.mem_append_right _ (List.mem_append_right _ (List.mem_append_right _ (List.mem_of_getElem? (i := 20) rfl))), List.forall_mem_cons.mpr ⟨List.mem_append_right _ (List.mem_append_right _ (List.mem_append_right _ (List.mem_of_getElem? (i := 21) rfl))), List.forall_mem_cons.mpr ⟨List.mem_append_right _ (List.mem_append_right _ (List.mem_append_right _ (List.mem_of_getElem? (i := 22) rfl))), List.forall_mem_cons.mpr ⟨List.mem_append_right _ (List.mem_append_right _ (List.mem_append_right _ (List.mem_of_getElem? (i := 23) rfl))), fun _ h => absurd h List.not_mem_nil⟩⟩⟩⟩⟩⟩⟩⟩⟩⟩⟩⟩⟩⟩⟩⟩⟩⟩⟩⟩⟩⟩⟩⟩
theorem wsL_law_r9_t : ∀ w ∈ wsL_law_r9, w ∈ lw_tbl := List.forall_mem_cons.mpr ⟨List.mem_append_right _ (List.mem_append_right _ (List.mem_append_right _ (List.mem_of_getElem? (i := 24) rfl))), List.forall_mem_cons.mpr ⟨List.mem_append_right _ (List.mem_append_left _ (List.mem_of_getElem? (i := 194) rfl)), List.forall_mem_cons.mpr ⟨List.mem_append_right _ (List.mem_append_left _ (List.mem_of_getElem? (i := 195) rfl)), List.forall_mem_cons.mpr ⟨List.mem_append_right _ (List.mem_append_left _ (List.mem_of_getElem? (i := 196) rfl)), List.forall_mem_cons.mpr ⟨List.mem_append_right _ (List.mem_append_left _ (List.mem_of_getElem? (i := 197) rfl)), List.forall_mem_cons.mpr ⟨List.mem_append_right _ (List.mem_append_left _ (List.mem_of_getElem? (i := 198) rfl)), List.forall_mem_cons.mpr ⟨List.mem_append_right _ (List.mem_append_left _ (List.mem_of_getElem? (i := 199) rfl)), List.forall_mem_cons.mpr ⟨List.mem_append_right _ (List.mem_append_left _ (List.mem_of_getElem? (i := 200) rfl)), List.forall_mem_cons.mpr ⟨List.mem_append_right _ (List.mem_append_left _ (List.mem_of_getElem? (i := 201) rfl)), List.forall_mem_cons.mpr ⟨List.mem_append_right _ (List.mem_append_left _ (List.mem_of_getElem? (i := 202) rfl)), List.forall_mem_cons.mpr ⟨List.mem_append_right _ (List.mem_append_left _ (List.mem_of_getElem? (i := 203) rfl)), List.forall_mem_cons.mpr ⟨List.mem_append_right _ (List.mem_append_left _ (List.mem_of_getElem? (i := 204) rfl)), List.forall_mem_cons.mpr ⟨List.mem_append_right _ (List.mem_append_left _ (List.mem_of_getElem? (i := 205) rfl)), List.forall_mem_cons.mpr ⟨List.mem_append_right _ (List.mem_append_left _ (List.mem_of_getElem? (i := 206) rfl)), List.forall_mem_cons.mpr ⟨List.mem_append_right _ (List.mem_append_left _ (List.mem_of_getElem? (i := 207) rfl)), List.forall_mem_cons.mpr ⟨List.mem_append_right _ (List.mem_append_left _ (List.mem_of_getElem? (i := 208) rfl)), List.forall_mem_cons.mpr ⟨List.mem_append_right _ (List.mem_append_left _ (List.mem_of_getElem? (i := 209) rfl)), List.forall_mem_cons.mpr ⟨List.mem_append_right _ (List.mem_append_right _ (List.mem_append_right _ (List.mem_of_getElem? (i := 25) rfl))), List.forall_mem_cons.mpr ⟨List.mem_append_right _ (List.mem_append_right _ (List.mem_append_right _ (List.mem_of_getElem? (i := 26) rfl))), List.forall_mem_cons.mpr ⟨List.mem_append_right _ (List.mem_append_right _ (List.mem_append_right _ (List.mem_of_getElem? (i := 27) rfl))), List.forall_mem_cons.mpr ⟨List.mem_append_right _ (List.mem_append_right _ (List.mem_append_right _ (List.mem_of_getElem? (i := 28) rfl))), List.forall_mem_cons.mpr ⟨List.mem_append_right _ (List.mem_append_right _ (List.mem_append_right _ (List.mem_of_getElem? (i := 29) rfl))), List.forall_mem_cons.mpr ⟨List.mem_append_right _ (List.mem_append_right _ (List.mem_append_right _ (List.mem_of_getElem? (i := 31) rfl))), List.forall_mem_cons.mpr ⟨List.mem_append_left _ (List.mem_of_getElem? (i := 30) rfl), fun _ h => absurd h List.not_mem_nil⟩⟩⟩⟩⟩⟩⟩⟩⟩⟩⟩⟩⟩⟩⟩⟩⟩⟩⟩⟩⟩⟩⟩⟩
theorem wsL_law_r10_t : ∀ w ∈ wsL_law_r10, w ∈ lw_tbl := List.forall_mem_cons.mpr ⟨List.mem_append_right _ (List.mem_append_right _ (List.mem_append_right _ (List.mem_of_getElem? (i := 32) rfl))), List.forall_mem_cons.mpr ⟨List.mem_append_right _ (List.mem_append_right _ (List.mem_append_right _ (List.mem_of_getElem? (i := 33) rfl))), List.forall_mem_cons.mpr ⟨List.mem_append_right _ (List.mem_append_right _ (List.mem_append_right _ (List.mem_of_getElem? (i := 35) rfl))), List.forall_mem_cons.mpr ⟨List.mem_append_left _ (List.mem_of_getElem? (i := 31) rfl), List.forall_mem_cons.mpr ⟨List.mem_append_right _ (List.mem_append_right _ (List.mem_append_right _ (List.mem_of_getElem? (i := 36) rfl))), List.forall_mem_cons.mpr ⟨List.mem_append_right _ (List.mem_append_right _ (List.mem_append_right _ (List.mem_of_getElem? (i := 37) rfl))), List.forall_mem_cons.mpr ⟨List.mem_append_right _ (List.mem_append_right _ (List.mem_append_right _ (List.mem_of_getElem? (i := 39) rfl))), List.forall_mem_cons.mpr ⟨List.mem_append_left _ (List.mem_of_getElem? (i := 32) rfl), List.forall_mem_cons.mpr ⟨List.mem_append_right _ (List.mem_append_right _ (List.mem_append_right _ (List.mem_of_getElem? (i := 40) rfl))), List.forall_mem_cons.mpr ⟨List.mem_append_right _ (List.mem_append_right _ (List.mem_append_right _ (List.mem_of_getElem? (i := 41) rfl))), List.forall_mem_cons.mpr ⟨List.mem_append_right _ (List.mem_append_right _ (List.mem_append_right _ (List.mem_of_getElem? (i := 42) rfl))), List.forall_mem_cons.mpr ⟨List.mem_append_right _ (List.mem_append_right _ (List.mem_append_right _ (List.mem_of_getElem? (i := 43) rfl))), List.forall_mem_cons.mpr ⟨List.mem_append_right _ (List.mem_append_right _ (List.mem_append_right _ (List.mem_of_getElem? (i := 44) rfl))), List.forall_mem_cons.mpr ⟨List.mem_append_right _ (List.mem_append_right _ (List.mem_append_right _ (List.mem_of_getElem? (i := 46) rfl))), List.forall_mem_cons.mpr ⟨List.mem_append_left _ (List.mem_of_getElem? (i := 33) rfl), List.forall_mem_cons.mpr ⟨List.mem_append_right _ (List.mem_append_right _ (List.mem_append_right _ (List.mem_of_getElem? (i := 47) rfl))), List.forall_mem_cons.mpr ⟨List.mem_append_right _ (List.mem_append_left _ (List.mem_of_getElem? (i := 212) rfl)), List.forall_mem_cons.mpr ⟨List.mem_append_right _ (List.mem_append_left _ (List.mem_of_getElem? (i := 213) rfl)), List.forall_mem_cons.mpr ⟨List.mem_append_right _ (List.mem_append_left _ (List.mem_of_getElem? (i := 214) rfl)), List.forall_mem_cons.mpr ⟨List.mem_append_right _ (List.mem_append_left _ (List.mem_of_getElem? (i := 215) rfl)), List.forall_mem_cons.mpr ⟨List.mem_append_right _ (List.mem_append_left _ (List.mem_of_getElem? (i := 216) rfl)), List.forall_mem_cons.mpr ⟨List.mem_append_right _ (List.mem_append_left _ (List.mem_of_getElem? (i := 217) rfl)), List.forall_mem_cons.mpr ⟨List.mem_append_right _ (List.mem_append_left _ (List.mem_of_getElem? (i := 218) rfl)), List.forall_mem_cons.mpr ⟨List.mem_append_right _ (List.mem_append_left _ (List.mem_of_getElem? (i := 219) rfl)), fun _ h => absurd h List.not_mem_nil⟩⟩⟩⟩⟩⟩⟩⟩⟩⟩⟩⟩⟩⟩⟩⟩⟩⟩⟩⟩⟩⟩⟩⟩
theorem wsL_law_r11_t : ∀ w ∈ wsL_law_r11, w ∈ lw_tbl := List.forall_mem_cons.mpr ⟨List.mem_append_right _ (List.mem_append_right _ (List.mem_append_right _ (List.mem_of_getElem? (i := 48) rfl))), List.forall_mem_cons.mpr ⟨List.mem_append_right _ (List.mem_append_right _ (List.mem_append_right _ (List.mem_of_getElem? (i := 49) rfl))), List.forall_mem_cons.mpr ⟨List.mem_append_right _ (List.mem_append_right _ (List.mem_append_right _ (List.mem_of_getElem? (i := 50) rfl))), List.forall_mem_cons.mpr ⟨List.mem_append_right _ (List.mem_append_right _ (List.mem_append_right _ (List.mem_of_getElem? (i := 51) rfl))), List.forall_mem_cons.mpr ⟨List.mem_append_right _ (List.mem_append_right _ (List.mem_append_right _ (List.mem_of_getElem? (i := 52) rfl))), List.forall_mem_cons.mpr ⟨List.mem_append_right _ (List.mem_append_right _ (List.mem_append_right _ (List.mem_of_getElem? (i := 54) rfl))), List.forall_mem_cons.mpr ⟨List.mem_append_left _ (List.mem_of_getElem? (i := 34) rfl), List.forall_mem_cons.mpr ⟨List.mem_append_right _ (List.mem_append_right _ (List.mem_append_right _ (List.mem_of_getElem? (i := 55) rfl))), List.forall_mem_cons.mpr ⟨List.mem_append_right _ (List.mem_append_right _ (List.mem_append_right _ (List.mem_of_getElem? (i := 56) rfl))), List.forall_mem_cons.mpr ⟨List.mem_append_right _ (List.mem_append_right _ (List.mem_append_right _ (List.mem_of_getElem? (i := 58) rfl))), List.forall_mem_cons.mpr ⟨List.mem_append_left _ (List.mem_of_getElem? (i := 35) rfl), List.forall_mem_cons.mpr ⟨List.mem_append_right _ (List.mem_append_right _ (List.mem_append_right _ (List.mem_of_getElem? (i := 59) rfl))), List.forall_mem_cons.mpr ⟨List.mem_append_right _ (List.mem_append_left _ (List.mem_of_getElem? (i := 220) rfl)), List.forall_mem_cons.mpr ⟨List.mem_append_right _ (List.mem_append_left _ (List.mem_of_getElem? (i := 221) rfl)), List.forall_mem_cons.mpr ⟨List.mem_append_right _ (List.mem_append_left _ (List.mem_of_getElem? (i := 222) rfl)), List.forall_mem_cons.mpr ⟨List.mem_append_right _ (List.mem_append_left _ (List.mem_of_getElem? (i := 223) rfl)), List.forall_mem_cons.mpr ⟨List.mem_append_right _ (List.mem_append_left _ (List.mem_of_getElem? (i := 224) rfl)), List.forall_mem_cons.mpr ⟨List.mem_append_right _ (List.mem_append_left _ (List.mem_of_getElem? (i := 225) rfl)), List.forall_mem_cons.mpr ⟨List.mem_append_right _ (List.mem_append_left _ (List.mem_of_getElem? (i := 226) rfl)), List.forall_mem_cons.mpr ⟨List.mem_append_right _ (List.mem_append_left _ (List.mem_of_getElem? (i := 227) rfl)), List.forall_mem_cons.mpr ⟨List.mem_append_right _ (List.mem_append_left _ (List.mem_of_getElem? (i := 228) rfl)), List.forall_mem_cons.mpr ⟨List.mem_append_right _ (List.mem_append_left _ (List.mem_of_getElem? (i := 229) rfl)), List.forall_mem_cons.mpr ⟨List.mem_append_right _ (List.mem_append_left _ (List.mem_of_getElem? (i := 230) rfl)), List.forall_mem_cons.mpr ⟨List.mem_append_right _ (List.mem_append_left _ (List.mem_of_getElem? (i := 231) rfl)), fun _ h => absurd h List.not_mem_nil⟩⟩⟩⟩⟩⟩⟩⟩⟩⟩⟩⟩⟩⟩⟩⟩⟩⟩⟩⟩⟩⟩⟩⟩
theorem wsL_law_r12_t : ∀ w ∈ wsL_law_r12, w ∈ lw_tbl := List.forall_mem_cons.mpr ⟨List.mem_append_right _ (List.mem_append_right _ (List.mem_append_right _ (List.mem_of_getElem? (i := 60) rfl))), List.forall_mem_cons.mpr ⟨List.mem_append_right _ (List.mem_append_right _ (List.mem_append_right _ (List.mem_of_getElem? (i := 61) rfl))), List.forall_mem_cons.mpr ⟨List.mem_append_right _ (List.mem_append_right _ (List.mem_append_right _ (List.mem_of_getElem? (i := 62) rfl))), List.forall_mem_cons.mpr ⟨List.mem_append_right _ (List.mem_append_right _ (List.mem_append_right _ (List.mem_of_getElem? (i := 63) rfl))), List.forall_mem_cons.mpr ⟨List.mem_append_right _ (List.mem_append_right _ (List.mem_append_right _ (List.mem_of_getElem? (i := 64) rfl))), List.forall_mem_cons.mpr ⟨List.mem_append_right _ (List.mem_append_right _ (List.mem_append_right _ (List.mem_of_getElem? (i := 66) rfl))), List.forall_mem_cons.mpr ⟨List.mem_append_left _ (List.mem_of_getElem? (i := 36) rfl), List.forall_mem_cons.mpr ⟨List.mem_append_right _ (List.mem_append_right _ (List.mem_append_right _ (List.mem_of_getElem? (i := 67) rfl))), List.forall_mem_cons.mpr ⟨List.mem_append_right _ (List.mem_append_right _ (List.mem_append_right _ (List.mem_of_getElem? (i := 68) rfl))), List.forall_mem_cons.mpr ⟨List.mem_append_right _ (List.mem_append_right _ (List.mem_append_right _ (List.mem_of_getElem? (i := 70) rfl))), List.forall_mem_cons.mpr ⟨List.mem_append_left _ (List.mem_of_getElem? (i := 37) rfl), List.forall_mem_cons.mpr ⟨List.mem_append_right _ (List.mem_append_right _ (List.mem_append_right _ (List.mem_of_getElem? (i := 71) rfl))), List.forall_mem_cons.mpr ⟨List.mem_append_right _ (List.mem_append_left _ (List.mem_of_getElem? (i := 232) rfl)), List.forall_mem_cons.mpr ⟨List.mem_append_right _ (List.mem_append_left _ (List.mem_of_getElem? (i := 233) rfl)), List.forall_mem_cons.mpr ⟨List.mem_append_right _ (List.mem_append_left _ (List.mem_of_getElem? (i := 234) rfl)), List.forall_mem_cons.mpr ⟨List.mem_append_right _ (List.mem_append_left _ (List.mem_of_getElem? (i := 235) rfl)), List.forall_mem_cons.mpr ⟨List.mem_append_right _ (List.mem_append_left _ (List.mem_of_getElem? (i := 236) rfl)), List.forall_mem_cons.mpr ⟨List.mem_append_right _ (List.mem_append_left _ (List.mem_of_getElem? (i := 45) rfl)), List.forall_mem_cons.mpr ⟨List.mem_append_right _ (List.mem_append_left _ (List.mem_of_getElem? (i := 237) rfl)), List.forall_mem_cons.mpr ⟨List.mem_append_right _ (List.mem_append_left _ (List.mem_of_getElem? (i := 238) rfl)), List.forall_mem_cons.mpr ⟨List.mem_append_right _ (List.mem_append_left _ (List.mem_of_getElem? (i := 239) rfl)), List.forall_mem_cons.mpr ⟨List.mem_append_right _ (List.mem_append_right _ (List.mem_append_left _ (List.mem_of_getElem? (i := 0) rfl))), List.forall_mem_cons.mpr ⟨List.mem_append_right _ (List.mem_append_right _ (List.mem_append_left _ (List.mem_of_getElem? (i := 1) rfl))), List.forall_mem_cons.mpr ⟨List.mem_append_right _ (List.mem_append_right _ (List.mem_append_left _ (List.mem_of_getElem? (i := 2) rfl))), fun _ h => absurd h List.not_mem_nil⟩⟩⟩⟩⟩⟩⟩⟩⟩⟩⟩⟩⟩⟩⟩⟩⟩⟩⟩⟩⟩⟩⟩⟩
theorem wsL_law_r13_t : ∀ w ∈ wsL_law_r13, w ∈ lw_tbl := List.forall_mem_cons.mpr ⟨List.mem_append_right _ (List.mem_append_right _ (List.mem_append_left _ (List.mem_of_getElem? (i := 4) rfl))), List.forall_mem_cons.mpr ⟨List.mem_append_left _ (List.mem_of_getElem? (i := 10) rfl), List.forall_mem_cons.mpr ⟨List.mem_append_right _ (List.mem_append_right _ (List.mem_append_left _ (List.mem_of_getElem? (i := 5) rfl))), List.forall_mem_cons.mpr ⟨List.mem_append_right _ (List.mem_append_right _ (List.mem_append_left _ (List.mem_of_getElem? (i := 6) rfl))), List.forall_mem_cons.mpr ⟨List.mem_append_right _ (List.mem_append_right _ (List.mem_append_left _ (List.mem_of_getElem? (i := 8) rfl))), List.forall_mem_cons.mpr ⟨List.mem_append_left _ (List.mem_of_getElem? (i := 11) rfl), List.forall_mem_cons.mpr ⟨List.mem_append_right _ (List.mem_append_right _ (List.mem_append_left _ (List.mem_of_getElem? (i := 9) rfl))), List.forall_mem_cons.mpr ⟨List.mem_append_right _ (List.mem_append_right _ (List.mem_append_left _ (List.mem_of_getElem? (i := 10) rfl))), List.forall_mem_cons.mpr ⟨List.mem_append_right _ (List.mem_append_right _ (List.mem_append_left _ (List.mem_of_getElem? (i := 11) rfl))), List.forall_mem_cons.mpr ⟨List.mem_append_right _ (List.mem_append_right _ (List.mem_append_left _ (List.mem_of_getElem? (i := 13) rfl))), List.forall_mem_cons.mpr ⟨List.mem_append_left _ (List.mem_of_getElem? (i := 12) rfl), List.forall_mem_cons.mpr ⟨List.mem_append_right _ (List.mem_append_right _ (List.mem_append_left _ (List.mem_of_getElem? (i := 14) rfl))), List.forall_mem_cons.mpr ⟨List.mem_append_right _ (List.mem_append_right _ (List.mem_append_left _ (List.mem_of_getElem? (i := 15) rfl))), List.forall_mem_cons.mpr ⟨List.mem_append_right _ (List.mem_append_right _ (List.mem_append_left _ (List.mem_of_getElem? (i := 16) rfl))), List.forall_mem_cons.mpr ⟨List.mem_append_right _ (List.mem_append_right _ (List.mem_append_right _ (List.mem_of_getElem? (i := 72) rfl))), List.forall_mem_cons.mpr ⟨List.mem_append_right _ (List.mem_append_right _ (List.mem_append_right _ (List.mem_of_getElem? (i := 73) rfl))), List.forall_mem_cons.mpr ⟨List.mem_append_right _ (List.mem_append_right _ (List.mem_append_right _ (List.mem_of_getElem? (i := 74) rfl))), List.forall_mem_cons.mpr ⟨List.mem_append_right _ (List.mem_append_right _ (List.mem_append_right _ (List.mem_of_getElem? (i := 75) rfl))), List.forall_mem_cons.mpr ⟨List.mem_append_right _ (List.mem_append_right _ (List.mem_append_right _ (List.mem_of_getElem? (i := 76) rfl))), List.forall_mem_cons.mpr ⟨List.mem_append_right _ (List.mem_append_right _ (List.mem_append_right _ (List.mem_of_getElem? (i := 78) rfl))), List.forall_mem_cons.mpr ⟨List.mem_append_left _ (List.mem_of_getElem? (i := 38) rfl), List.forall_mem_cons.mpr ⟨List.mem_append_right _ (List.mem_append_right _ (List.mem_append_right _ (List.mem_of_getElem? (i := 79) rfl))), List.forall_mem_cons.mpr ⟨List.mem_append_right _ (List.mem_append_right _ (List.mem_append_right _ (List.mem_of_getElem? (i := 80) rfl))), List.forall_mem_cons.mpr ⟨List.mem_append_right _ (List.mem_append_right _ (List.mem_append_right _ (List.mem_of_getElem? (i := 82) rfl))), fun _ h => absurd h List.not_mem_nil⟩⟩⟩⟩⟩⟩⟩⟩⟩⟩⟩⟩⟩⟩⟩⟩⟩⟩⟩⟩⟩⟩⟩⟩
theorem wsL_law_r14_t : ∀ w ∈ wsL_law_r14, w ∈ lw_tbl := List.forall_mem_cons.mpr ⟨List.mem_append_left _ (List.mem_of_getElem? (i := 39) rfl), List.forall_mem_cons.mpr ⟨List.mem_append_right _ (List.mem_append_right _ (List.mem_append_right _ (List.mem_of_getElem? (i := 83) rfl))), List.forall_mem_cons.mpr ⟨List.mem_append_right _ (List.mem_append_right _ (List.mem_append_right _ (List.mem_of_getElem? (i := 84) rfl))), List.forall_mem_cons.mpr ⟨List.mem_append_right _ (List.mem_append_right _ (List.mem_append_right _ (List.mem_of_getElem? (i := 86) rfl))), List.forall_mem_cons.mpr ⟨List.mem_append_left _ (List.mem_of_getElem? (i := 40) rfl), List.forall_mem_cons.mpr ⟨List.mem_append_right _ (List.mem_append_right _ (List.mem_append_right _ (List.mem_of_getElem? (i := 87) rfl))), List.forall_mem_cons.mpr ⟨List.mem_append_right _ (List.mem_append_right _ (List.mem_append_right _ (List.mem_of_getElem? (i := 88) rfl))), List.forall_mem_cons.mpr ⟨List.mem_append_right _ (List.mem_append_right _ (List.mem_append_right _ (List.mem_of_getElem? (i := 90) rfl))), List.forall_mem_cons.mpr ⟨List.mem_append_left _ (List.mem_of_getElem? (i := 41) rfl), List.forall_mem_cons.mpr ⟨List.mem_append_right _ (List.mem_append_right _ (List.mem_append_right _ (List.mem_of_getElem? (i := 91) rfl))), List.forall_mem_cons.mpr ⟨List.mem_append_right _ (List.mem_append_right _ (List.mem_append_left _ (List.mem_of_getElem? (i := 17) rfl))), List.forall_mem_cons.mpr ⟨List.mem_append_right _ (List.mem_append_right _ (List.mem_append_left _ (List.mem_of_getElem? (i := 18) rfl))), List.forall_mem_cons.mpr ⟨List.mem_append_right _ (List.mem_append_right _ (List.mem_append_left _ (List.mem_of_getElem? (i := 19) rfl))), List.forall_mem_cons.mpr ⟨List.mem_append_right _ (List.mem_append_right _ (List.mem_append_left _ (List.mem_of_getElem? (i := 20) rfl))), List.forall_mem_cons.mpr ⟨List.mem_append_right _ (List.mem_append_right _ (List.mem_append_right _ (List.mem_of_getElem? (i := 92) rfl))), List.forall_mem_cons.mpr ⟨List.mem_append_right _ (List.mem_append_right _ (List.mem_append_right _ (List.mem_of_getElem? (i := 93) rfl))), List.forall_mem_cons.mpr ⟨List.mem_append_right _ (List.mem_append_right _ (List.mem_append_right _ (List.mem_of_getElem? (i := 94) rfl))), List.forall_mem_cons.mpr ⟨List.mem_append_right _ (List.mem_append_right _ (List.mem_append_right _ (List.mem_of_getElem? (i := 95) rfl))), List.forall_mem_cons.mpr ⟨List.mem_append_right _ (List.mem_append_right _ (List.mem_append_left _ (List.mem_of_getElem? (i := 21) rfl))), List.forall_mem_cons.mpr ⟨List.mem_append_right _ (List.mem_append_right _ (List.mem_append_left _ (List.mem_of_getElem? (i := 22) rfl))), List.forall_mem_cons.mpr ⟨List.mem_append_right _ (List.mem_append_right _ (List.mem_append_left _ (List.mem_of_getElem? (i := 23) rfl))), List.forall_mem_cons.mpr ⟨List.mem_append_right _ (List.mem_append_right _ (List.mem_append_left _ (List.mem_of_getElem? (i := 24) rfl))), List.forall_mem_cons.mpr ⟨List.mem_append_right _ (List.mem_append_right _ (List.mem_append_left _ (List.mem_of_getElem? (i := 33) rfl))), List.forall_mem_cons.mpr ⟨List.mem_append_right _ (List.mem_append_right _ (List.mem_append_left _ (List.mem_of_getElem? (i := 25) rfl))), fun _ h => absurd h List.not_mem_nil⟩⟩⟩⟩⟩⟩⟩⟩⟩⟩⟩⟩⟩⟩⟩⟩⟩⟩⟩⟩⟩⟩⟩⟩
theorem wsL_law_r15_t : ∀ w ∈ wsL_law_r15, w ∈ lw_tbl := List.forall_mem_cons.mpr ⟨List.mem_append_right _ (List.mem_append_right _ (List.mem_append_left _ (List.mem_of_getElem? (i := 26) rfl))), List.forall_mem_cons.mpr ⟨List.mem_append_right _ (List.mem_append_right _ (List.mem_append_left _ (List.mem_of_getElem? (i := 27) rfl))), List.forall_mem_cons.mpr ⟨List.mem_append_right _ (List.mem_append_right _ (List.mem_append_left _ (List.mem_of_getElem? (i := 28) rfl))), List.forall_mem_cons.mpr ⟨List.mem_append_right _ (List.mem_append_right _ (List.mem_append_left _ (List.mem_of_getElem? (i := 29) rfl))), List.forall_mem_cons.mpr ⟨List.mem_append_right _ (List.mem_append_right _ (List.mem_append_left _ (List.mem_of_getElem? (i := 30) rfl))), List.forall_mem_cons.mpr ⟨List.mem_append_right _ (List.mem_append_right _ (List.mem_append_left _ (List.mem_of_getElem? (i := 31) rfl))), List.forall_mem_cons.mpr ⟨List.mem_append_right _ (List.mem_append_right _ (List.mem_append_left _ (List.mem_of_getElem? (i := 32) rfl))), List.forall_mem_cons.mpr ⟨List.mem_append_right _ (List.mem_append_right _ (List.mem_append_right _ (List.mem_of_getElem? (i := 96) rfl))), List.forall_mem_cons.mpr ⟨List.mem_append_right _ (List.mem_append_right _ (List.mem_append_right _ (List.mem_of_getElem? (i := 97) rfl))), List.forall_mem_cons.mpr ⟨List.mem_append_right _ (List.mem_append_right _ (List.mem_append_right _ (List.mem_of_getElem? (i := 98) rfl))), List.forall_mem_cons.mpr ⟨List.mem_append_right _ (List.mem_append_right _ (List.mem_append_right _ (List.mem_of_getElem? (i := 99) rfl))), List.forall_mem_cons.mpr ⟨List.mem_append_right _ (List.mem_append_right _ (List.mem_append_right _ (List.mem_of_getElem? (i := 104) rfl))), List.forall_mem_cons.mpr ⟨List.mem_append_right _ (List.mem_append_right _ (List.mem_append_right _ (List.mem_of_getElem? (i := 100) rfl))), List.forall_mem_cons.mpr ⟨List.mem_append_right _ (List.mem_append_right _ (List.mem_append_right _ (List.mem_of_getElem? (i := 102) rfl))), List.forall_mem_cons.mpr ⟨List.mem_append_left _ (List.mem_of_getElem? (i := 42) rfl), List.forall_mem_cons.mpr ⟨List.mem_append_right _ (List.mem_append_right _ (List.mem_append_right _ (List.mem_of_getElem? (i := 103) rfl))), List.forall_mem_cons.mpr ⟨List.mem_append_right _ (List.mem_append_right _ (List.mem_append_left _ (List.mem_of_getElem? (i := 34) rfl))), List.forall_mem_cons.mpr ⟨List.mem_append_right _ (List.mem_append_right _ (List.mem_append_left _ (List.mem_of_getElem? (i := 35) rfl))), List.forall_mem_cons.mpr ⟨List.mem_append_right _ (List.mem_append_right _ (List.mem_append_left _ (List.mem_of_getElem? (i := 36) rfl))), List.forall_mem_cons.mpr ⟨List.mem_append_right _ (List.mem_append_right _ (List.mem_append_left _ (List.mem_of_getElem? (i := 37) rfl))), List.forall_mem_cons.mpr ⟨List.mem_append_right _ (List.mem_append_right _ (List.mem_append_left _ (List.mem_of_getElem? (i := 38) rfl))), List.forall_mem_cons.mpr ⟨List.mem_append_right _ (List.mem_append_right _ (List.mem_append_left _ (List.mem_of_getElem? (i := 39) rfl))), List.forall_mem_cons.mpr ⟨List.mem_append_right _ (List.mem_append_right _ (List.mem_append_left _ (List.mem_of_getElem? (i := 40) rfl))), List.forall_mem_cons.mpr ⟨List.mem_append_right _ (List.mem_append_right _ (List.mem_append_left _ (List.mem_of_getElem? (i := 41) rfl))), fun _ h => absurd h List.not_mem_nil⟩⟩⟩⟩⟩⟩⟩⟩⟩⟩⟩⟩⟩⟩⟩⟩⟩⟩⟩⟩⟩⟩⟩⟩
theorem wsL_law_r16_t : ∀ w ∈ wsL_law_r16, w ∈ lw_tbl := List.forall_mem_cons.mpr ⟨List.mem_append_right _ (List.mem_append_right _ (List.mem_append_right _ (List.mem_of_getElem? (i := 105) rfl))), List.forall_mem_cons.mpr ⟨List.mem_append_right _ (List.mem_append_right _ (List.mem_append_right _ (List.mem_of_getElem? (i := 106) rfl))), List.forall_mem_cons.mpr ⟨List.mem_append_right _ (List.mem_append_right _ (List.mem_append_right _ (List.mem_of_getElem? (i := 107) rfl))), List.forall_mem_cons.mpr ⟨List.mem_append_right _ (List.mem_append_right _ (List.mem_append_right _ (List.mem_of_getElem? (i := 108) rfl))), List.forall_mem_cons.mpr ⟨List.mem_append_right _ (List.mem_append_right _ (List.mem_append_right _ (List.mem_of_getElem? (i := 109) rfl))), List.forall_mem_cons.mpr ⟨List.mem_append_right _ (List.mem_append_right _ (List.mem_append_right _ (List.mem_of_getElem? (i := 111) rfl))), List.forall_mem_cons.mpr ⟨List.mem_append_left _ (List.mem_of_getElem? (i := 43) rfl), List.forall_mem_cons.mpr ⟨List.mem_append_right _ (List.mem_append_right _ (List.mem_append_right _ (List.mem_of_getElem? (i := 112) rfl))), List.forall_mem_cons.mpr ⟨List.mem_append_right _ (List.mem_append_right _ (List.mem_append_left _ (List.mem_of_getElem? (i := 42) rfl))), List.forall_mem_cons.mpr ⟨List.mem_append_right _ (List.mem_append_right _ (List.mem_append_left _ (List.mem_of_getElem? (i := 43) rfl))), List.forall_mem_cons.mpr ⟨List.mem_append_right _ (List.mem_append_right _ (List.mem_append_left _ (List.mem_of_getElem? (i := 44) rfl))), List.forall_mem_cons.mpr ⟨List.mem_append_right _ (List.mem_append_right _ (List.mem_append_left _ (List.mem_of_getElem? (i := 45) rfl))), List.forall_mem_cons.mpr ⟨List.mem_append_right _ (List.mem_append_right _ (List.mem_append_left _ (List.mem_of_getElem? (i := 46) rfl))), List.forall_mem_cons.mpr ⟨List.mem_append_right _ (List.mem_append_right _ (List.mem_append_left _ (List.mem_of_getElem? (i := 48) rfl))), List.forall_mem_cons.mpr ⟨List.mem_append_right _ (List.mem_append_right _ (List.mem_append_left _ (List.mem_of_getElem? (i := 49) rfl))), List.forall_mem_cons.mpr ⟨List.mem_append_right _ (List.mem_append_right _ (List.mem_append_left _ (List.mem_of_getElem? (i := 50) rfl))), List.forall_mem_cons.mpr ⟨List.mem_append_right _ (List.mem_append_right _ (List.mem_append_left _ (List.mem_of_getElem? (i := 51) rfl))), List.forall_mem_cons.mpr ⟨List.mem_append_right _ (List.mem_append_right _ (List.mem_append_right _ (List.mem_of_getElem? (i := 113) rfl))), List.forall_mem_cons.mpr ⟨List.mem_append_right _ (List.mem_append_right _ (List.mem_append_right _ (List.mem_of_getElem? (i := 114) rfl))), List.forall_mem_cons.mpr ⟨List.mem_append_right _ (List.mem_append_right _ (List.mem_append_right _ (List.mem_of_getElem? (i := 115) rfl))), List.forall_mem_cons.mpr ⟨List.mem_append_right _ (List.mem_append_right _ (List.mem_append_right _ (List.mem_of_getElem? (i := 116) rfl))), List.forall_mem_cons.mpr ⟨List.mem_append_right _ (List.mem_append_right _ (List.mem_append_right _ (List.mem_of_getElem? (i := 117) rfl))), List.forall_mem_cons.mpr ⟨List.mem_append_right _ (List.mem_append_right _ (List.mem_append_right _ (List.mem_of_getElem? (i := 119) rfl))), List.forall_mem_cons.mpr ⟨List.mem_append_left _ (List.mem_of_getElem? (i := 44) rfl), fun _ h => absurd h List.not_mem_nil⟩⟩⟩⟩⟩⟩⟩⟩⟩⟩⟩⟩⟩⟩⟩⟩⟩⟩⟩⟩⟩⟩⟩⟩
theorem wsL_law_r17_t : ∀ w ∈ wsL_law_r17, w ∈ lw_tbl := List.forall_mem_cons.mpr ⟨List.mem_append_right _ (List.mem_append_right _ (List.mem_append_right _ (List.mem_of_getElem? (i := 120) rfl))), List.forall_mem_cons.mpr ⟨List.mem_append_right _ (List.mem_append_right _ (List.mem_append_right _ (List.mem_of_getElem? (i := 121) rfl))), List.forall_mem_cons.mpr ⟨List.mem_append_right _ (List.mem_append_right _ (List.mem_append_right _ (List.mem_of_getElem? (i := 122) rfl))), List.forall_mem_cons.mpr ⟨List.mem_append_right _ (List.mem_append_right _ (List.mem_append_right _ (List.mem_of_getElem? (i := 123) rfl))), List.forall_mem_cons.mpr ⟨List.mem_append_right _ (List.mem_append_right _ (List.mem_append_left _ (List.mem_of_getElem? (i := 52) rfl))), List.forall_mem_cons.mpr ⟨List.mem_append_right _ (List.mem_append_right _ (List.mem_append_left _ (List.mem_of_getElem? (i := 53) rfl))), List.forall_mem_cons.mpr ⟨List.mem_append_right _ (List.mem_append_right _ (List.mem_append_left _ (List.mem_of_getElem? (i := 54) rfl))), List.forall_mem_cons.mpr ⟨List.mem_append_right _ (List.mem_append_right _ (List.mem_append_left _ (List.mem_of_getElem? (i := 55) rfl))), List.forall_mem_cons.mpr ⟨List.mem_append_right _ (List.mem_append_right _ (List.mem_append_left _ (List.mem_of_getElem? (i := 56) rfl))), List.forall_mem_cons.mpr ⟨List.mem_append_right _ (List.mem_append_left _ (List.mem_of_getElem? (i := 23) rfl)), List.forall_mem_cons.mpr ⟨List.mem_append_right _ (List.mem_append_left _ (List.mem_of_getElem? (i := 25) rfl)), List.forall_mem_cons.mpr ⟨List.mem_append_right _ (List.mem_append_right _ (List.mem_append_left _ (List.mem_of_getElem? (i := 57) rfl))), List.forall_mem_cons.mpr ⟨List.mem_append_right _ (List.mem_append_right _ (List.mem_append_left _ (List.mem_of_getElem? (i := 58) rfl))), List.forall_mem_cons.mpr ⟨List.mem_append_right _ (List.mem_append_right _ (List.mem_append_right _ (List.mem_of_getElem? (i := 124) rfl))), List.forall_mem_cons.mpr ⟨List.mem_append_right _ (List.mem_append_right _ (List.mem_append_right _ (List.mem_of_getElem? (i := 125) rfl))), List.forall_mem_cons.mpr ⟨List.mem_append_right _ (List.mem_append_right _ (List.mem_append_right _ (List.mem_of_getElem? (i := 126) rfl))), List.forall_mem_cons.mpr ⟨List.mem_append_right _ (List.mem_append_right _ (List.mem_append_right _ (List.mem_of_getElem? (i := 127) rfl))), List.forall_mem_cons.mpr ⟨List.mem_append_right _ (List.mem_append_right _ (List.mem_append_left _ (List.mem_of_getElem? (i := 59) rfl))), List.forall_mem_cons.mpr ⟨List.mem_append_right _ (List.mem_append_right _ (List.mem_append_left _ (List.mem_of_getElem? (i := 60) rfl))), List.forall_mem_cons.mpr ⟨List.mem_append_right _ (List.mem_append_right _ (List.mem_append_left _ (List.mem_of_getElem? (i := 61) rfl))), List.forall_mem_cons.mpr ⟨List.mem_append_right _ (List.mem_append_right _ (List.mem_append_left _ (List.mem_of_getElem? (i := 62) rfl))), List.forall_mem_cons.mpr ⟨List.mem_append_right _ (List.mem_append_left _ (List.mem_of_getElem? (i := 29) rfl)), List.forall_mem_cons.mpr ⟨List.mem_append_right _ (List.mem_append_left _ (List.mem_of_getElem? (i := 31) rfl)), List.forall_mem_cons.mpr ⟨List.mem_append_right _ (List.mem_append_left _ (List.mem_of_getElem? (i := 33) rfl)), fun _ h => absurd h List.not_mem_nil⟩⟩⟩⟩⟩⟩⟩⟩⟩⟩⟩⟩⟩⟩⟩⟩⟩⟩⟩⟩⟩⟩⟩⟩
theorem wsL_law_r18_t : ∀ w ∈ wsL_law_r18, w ∈ lw_tbl := List.forall_mem_cons.mpr ⟨List.mem_append_right _ (List.mem_append_left _ (List.mem_of_getElem? (i := 35) rfl)), List.forall_mem_cons.mpr ⟨List.mem_append_right _ (List.mem_append_left _ (List.mem_of_getElem? (i := 37) rfl)), List.forall_mem_cons.mpr ⟨List.mem_append_right _ (List.mem_append_left _ (List.mem_of_getElem? (i := 39) rfl)), List.forall_mem_cons.mpr ⟨List.mem_append_right _ (List.mem_append_right _ (List.mem_append_left _ (List.mem_of_getElem? (i := 63) rfl))), List.forall_mem_cons.mpr ⟨List.mem_append_right _ (List.mem_append_right _ (List.mem_append_left _ (List.mem_of_getElem? (i := 64) rfl))), List.forall_mem_cons.mpr ⟨List.mem_append_right _ (List.mem_append_right _ (List.mem_append_left _ (List.mem_of_getElem? (i := 65) rfl))), List.forall_mem_cons.mpr ⟨List.mem_append_right _ (List.mem_append_right _ (List.mem_append_left _ (List.mem_of_getElem? (i := 66) rfl))), List.forall_mem_cons.mpr ⟨List.mem_append_right _ (List.mem_append_right _ (List.mem_append_right _ (List.mem_of_getElem? (i := 128) rfl))), List.forall_mem_cons.mpr ⟨List.mem_append_right _ (List.mem_append_right _ (List.mem_append_right _ (List.mem_of_getElem? (i := 129) rfl))), List.forall_mem_cons.mpr ⟨List.mem_append_right _ (List.mem_append_right _ (List.mem_append_right _ (List.mem_of_getElem? (i := 130) rfl))), List.forall_mem_cons.mpr ⟨List.mem_append_right _ (List.mem_append_right _ (List.mem_append_right _ (List.mem_of_getElem? (i := 131) rfl))), List.forall_mem_cons.mpr ⟨List.mem_append_right _ (List.mem_append_right _ (List.mem_append_right _ (List.mem_of_getElem? (i := 132) rfl))), List.forall_mem_cons.mpr ⟨List.mem_append_right _ (List.mem_append_right _ (List.mem_append_right _ (List.mem_of_getElem? (i := 134) rfl))), List.forall_mem_cons.mpr ⟨List.mem_append_left _ (List.mem_of_getElem? (i := 45) rfl), List.forall_mem_cons.mpr ⟨List.mem_append_right _ (List.mem_append_right _ (List.mem_append_right _ (List.mem_of_getElem? (i := 135) rfl))), List.forall_mem_cons.mpr ⟨List.mem_append_right _ (List.mem_append_right _ (List.mem_append_left _ (List.mem_of_getElem? (i := 67) rfl))), List.forall_mem_cons.mpr ⟨List.mem_append_right _ (List.mem_append_right _ (List.mem_append_left _ (List.mem_of_getElem? (i := 68) rfl))), List.forall_mem_cons.mpr ⟨List.mem_append_right _ (List.mem_append_right _ (List.mem_append_left _ (List.mem_of_getElem? (i := 69) rfl))), List.forall_mem_cons.mpr ⟨List.mem_append_right _ (List.mem_append_right _ (List.mem_append_left _ (List.mem_of_getElem? (i := 70) rfl))), List.forall_mem_cons.mpr ⟨List.mem_append_right _ (List.mem_append_right _ (List.mem_append_left _ (List.mem_of_getElem? (i := 71) rfl))), List.forall_mem_cons.mpr ⟨List.mem_append_right _ (List.mem_append_right _ (List.mem_append_right _ (List.mem_of_getElem? (i := 136) rfl))), List.forall_mem_cons.mpr ⟨List.mem_append_right _ (List.mem_append_right _ (List.mem_append_right _ (List.mem_of_getElem? (i := 137) rfl))), List.forall_mem_cons.mpr ⟨List.mem_append_right _ (List.mem_append_right _ (List.mem_append_right _ (List.mem_of_getElem? (i := 138) rfl))), List.forall_mem_cons.mpr ⟨List.mem_append_right _ (List.mem_append_right _ (List.mem_append_right _ (List.mem_of_getElem? (i := 139) rfl))), fun _ h => absurd h List.not_mem_nil⟩⟩⟩⟩⟩⟩⟩⟩⟩⟩⟩⟩⟩⟩⟩⟩⟩⟩⟩⟩⟩⟩⟩⟩
theorem wsL_law_r19_t : ∀ w ∈ wsL_law_r19, w ∈ lw_tbl := List.forall_mem_cons.mpr ⟨List.mem_append_right _ (List.mem_append_right _ (List.mem_append_left _ (List.mem_of_getElem? (i := 72) rfl))), List.forall_mem_cons.mpr ⟨List.mem_append_right _ (List.mem_append_right _ (List.mem_append_left _ (List.mem_of_getElem? (i := 73) rfl))), List.forall_mem_cons.mpr ⟨List.mem_append_right _ (List.mem_append_right _ (List.mem_append_left _ (List.mem_of_getElem? (i := 74) rfl))), List.forall_mem_cons.mpr ⟨List.mem_append_right _ (List.mem_append_right _ (List.mem_append_left _ (List.mem_of_getElem? (i := 75) rfl))), List.forall_mem_cons.mpr ⟨List.mem_append_right _ (List.mem_append_right _ (List.mem_append_left _ (List.mem_of_getElem? (i := 76) rfl))), List.forall_mem_cons.mpr ⟨List.mem_append_right _ (List.mem_append_right _ (List.mem_append_left _ (List.mem_of_getElem? (i := 77) rfl))), List.forall_mem_cons.mpr ⟨List.mem_append_right _ (List.mem_append_right _ (List.mem_append_left _ (List.mem_of_getElem? (i := 78) rfl))), List.forall_mem_cons.mpr ⟨List.mem_append_right _ (List.mem_append_right _ (List.mem_append_left _ (List.mem_of_getElem? (i := 79) rfl))), List.forall_mem_cons.mpr ⟨List.mem_append_right _ (List.mem_append_right _ (List.mem_append_left _ (List.mem_of_getElem? (i := 81) rfl))), List.forall_mem_cons.mpr ⟨List.mem_append_right _ (List.mem_append_right _ (List.mem_append_right _ (List.mem_of_getElem? (i := 140) rfl))), List.forall_mem_cons.mpr ⟨List.mem_append_right _ (List.mem_append_right _ (List.mem_append_right _ (List.mem_of_getElem? (i := 141) rfl))), List.forall_mem_cons.mpr ⟨List.mem_append_right _ (List.mem_append_right _ (List.mem_append_right _ (List.mem_of_getElem? (i := 142) rfl))), List.forall_mem_cons.mpr ⟨List.mem_append_right _ (List.mem_append_right _ (List.mem_append_right _ (List.mem_of_getElem? (i := 143) rfl))), List.forall_mem_cons.mpr ⟨List.mem_append_right _ (List.mem_append_right _ (List.mem_append_right _ (List.mem_of_getElem? (i := 144) rfl))), List.forall_mem_cons.mpr ⟨List.mem_append_right _ (List.mem_append_right _ (List.mem_append_right _ (List.mem_of_getElem? (i := 146) rfl))), List.forall_mem_cons.mpr ⟨List.mem_append_left _ (List.mem_of_getElem? (i := 46) rfl), List.forall_mem_cons.mpr ⟨List.mem_append_right _ (List.mem_append_right _ (List.mem_append_right _ (List.mem_of_getElem? (i := 147) rfl))), List.forall_mem_cons.mpr ⟨List.mem_append_right _ (List.mem_append_right _ (List.mem_append_right _ (List.mem_of_getElem? (i := 148) rfl))), List.forall_mem_cons.mpr ⟨List.mem_append_right _ (List.mem_append_right _ (List.mem_append_right _ (List.mem_of_getElem? (i := 150) rfl))), List.forall_mem_cons.mpr ⟨List.mem_append_left _ (List.mem_of_getElem? (i := 47) rfl), List.forall_mem_cons.mpr ⟨List.mem_append_right _ (List.mem_append_right _ (List.mem_append_right _ (List.mem_of_getElem? (i := 151) rfl))), List.forall_mem_cons.mpr ⟨List.mem_append_right _ (List.mem_append_right _ (List.mem_append_right _ (List.mem_of_getElem? (i := 152) rfl))), List.forall_mem_cons.mpr ⟨List.mem_append_right _ (List.mem_append_right _ (List.mem_append_right _ (List.mem_of_getElem? (i := 154) rfl))), List.forall_mem_cons.mpr ⟨List.mem_append_left _ (List.mem_of_getElem? (i := 48) rfl), fun _ h => absurd h List.not_mem_nil⟩⟩⟩⟩⟩⟩⟩⟩⟩⟩⟩⟩⟩⟩⟩⟩⟩⟩⟩⟩⟩⟩⟩⟩
theorem wsL_law_r20_t : ∀ w ∈ wsL_law_r20, w ∈ lw_tbl := List.forall_mem_cons.mpr ⟨List.mem_append_right _ (List.mem_append_right _ (List.mem_append_right _ (List.mem_of_getElem? (i := 155) rfl))), List.forall_mem_cons.mpr ⟨List.mem_append_right _ (List.mem_append_right _ (List.mem_append_left _ (List.mem_of_getElem? (i := 82) rfl))), List.forall_mem_cons.mpr ⟨List.mem_append_right _ (List.mem_append_right _ (List.mem_append_left _ (List.mem_of_getElem? (i := 83) rfl))), List.forall_mem_cons.mpr ⟨List.mem_append_right _ (List.mem_append_right _ (List.mem_append_left _ (List.mem_of_getElem? (i := 84) rfl))), List.forall_mem_cons.mpr ⟨List.mem_append_right _ (List.mem_append_right _ (List.mem_append_left _ (List.mem_of_getElem? (i := 85) rfl))), List.forall_mem_cons.mpr ⟨List.mem_append_right _ (List.mem_append_right _ (List.mem_append_left _ (List.mem_of_getElem? (i := 86) rfl))), List.forall_mem_cons.mpr ⟨List.mem_append_right _ (List.mem_append_right _ (List.mem_append_left _ (List.mem_of_getElem? (i := 88) rfl))), List.forall_mem_cons.mpr ⟨List.mem_append_left _ (List.mem_of_getElem? (i := 13) rfl), List.forall_mem_cons.mpr ⟨List.mem_append_right _ (List.mem_append_right _ (List.mem_append_left _ (List.mem_of_getElem? (i := 89) rfl))), List.forall_mem_cons.mpr ⟨List.mem_append_right _ (List.mem_append_right _ (List.mem_append_right _ (List.mem_of_getElem? (i := 156) rfl))), List.forall_mem_cons.mpr ⟨List.mem_append_right _ (List.mem_append_right _ (List.mem_append_right _ (List.mem_of_getElem? (i := 157) rfl))), List.forall_mem_cons.mpr ⟨List.mem_append_right _ (List.mem_append_right _ (List.mem_append_right _ (List.mem_of_getElem? (i := 158) rfl))), List.forall_mem_cons.mpr ⟨List.mem_append_right _ (List.mem_append_right _ (List.mem_append_right _ (List.mem_of_getElem? (i := 159) rfl))), List.forall_mem_cons.mpr ⟨List.mem_append_right _ (List.mem_append_right _ (List.mem_append_right _ (List.mem_of_getElem? (i := 160) rfl))), List.forall_mem_cons.mpr ⟨List.mem_append_right _ (List.mem_append_right _ (List.mem_append_right _ (List.mem_of_getElem? (i := 162) rfl))), List.forall_mem_cons.mpr ⟨List.mem_append_left _ (List.mem_of_getElem? (i := 49) rfl), List.forall_mem_cons.mpr ⟨List.mem_append_right _ (List.mem_append_right _ (List.mem_append_right _ (List.mem_of_getElem? (i := 163) rfl))), List.forall_mem_cons.mpr ⟨List.mem_append_right _ (List.mem_append_right _ (List.mem_append_left _ (List.mem_of_getElem? (i := 90) rfl))), List.forall_mem_cons.mpr ⟨List.mem_append_right _ (List.mem_append_right _ (List.mem_append_left _ (List.mem_of_getElem? (i := 91) rfl))), List.forall_mem_cons.mpr ⟨List.mem_append_right _ (List.mem_append_right _ (List.mem_append_left _ (List.mem_of_getElem? (i := 92) rfl))), List.forall_mem_cons.mpr ⟨List.mem_append_right _ (List.mem_append_right _ (List.mem_append_left _ (List.mem_of_getElem? (i := 93) rfl))), List.forall_mem_cons.mpr ⟨List.mem_append_right _ (List.mem_append_right _ (List.mem_append_left _ (List.mem_of_getElem? (i := 94) rfl))), List.forall_mem_cons.mpr ⟨List.mem_append_right _ (List.mem_append_right _ (List.mem_append_left _ (List.mem_of_getElem? (i := 95) rfl))), List.forall_mem_cons.mpr ⟨List.mem_append_right _ (List.mem_append_right _ (List.mem_append_left _ (List.mem_of_getElem? (i := 96) rfl))), fun _ h => absurd h List.not_mem_nil⟩⟩⟩⟩⟩⟩⟩⟩⟩⟩⟩⟩⟩⟩⟩⟩⟩⟩⟩⟩⟩⟩⟩⟩
theorem wsL_law_r21_t : ∀ w ∈ wsL_law_r21, w ∈ lw_tbl := List.forall_mem_cons.mpr ⟨List.mem_append_right _ (List.mem_append_right _ (List.mem_append_left _ (List.mem_of_getElem? (i := 97) rfl))), List.forall_mem_cons.mpr ⟨List.mem_append_right _ (List.mem_append_right _ (List.mem_append_right _ (List.mem_of_getElem? (i := 164) rfl))), List.forall_mem_cons.mpr ⟨List.mem_append_right _ (List.mem_append_right _ (List.mem_append_right _ (List.mem_of_getElem? (i := 165) rfl))), List.forall_mem_cons.mpr ⟨List.mem_append_right _ (List.mem_append_right _ (List.mem_append_right _ (List.mem_of_getElem? (i := 166) rfl))), List.forall_mem_cons.mpr ⟨List.mem_append_right _ (List.mem_append_right _ (List.mem_append_right _ (List.mem_of_getElem? (i := 167) rfl))), List.forall_mem_cons.mpr ⟨List.mem_append_right _ (List.mem_append_right _ (List.mem_append_right _ (List.mem_of_getElem? (i := 168) rfl))), List.forall_mem_cons.mpr ⟨List.mem_append_right _ (List.mem_append_right _ (List.mem_append_right _ (List.mem_of_getElem? (i := 169) rfl))), List.forall_mem_cons.mpr ⟨List.mem_append_right _ (List.mem_append_right _ (List.mem_append_right _ (List.mem_of_getElem? (i := 170) rfl))), List.forall_mem_cons.mpr ⟨List.mem_append_right _ (List.mem_append_right _ (List.mem_append_right _ (List.mem_of_getElem? (i := 171) rfl))), List.forall_mem_cons.mpr ⟨List.mem_append_right _ (List.mem_append_right _ (List.mem_append_right _ (List.mem_of_getElem? (i := 172) rfl))), List.forall_mem_cons.mpr ⟨List.mem_append_right _ (List.mem_append_right _ (List.mem_append_right _ (List.mem_of_getElem? (i := 173) rfl))), List.forall_mem_cons.mpr ⟨List.mem_append_right _ (List.mem_append_right _ (List.mem_append_left _ (List.mem_of_getElem? (i := 98) rfl))), List.forall_mem_cons.mpr ⟨List.mem_append_right _ (List.mem_append_right _ (List.mem_append_left _ (List.mem_of_getElem? (i := 99) rfl))), List.forall_mem_cons.mpr ⟨List.mem_append_right _ (List.mem_append_right _ (List.mem_append_left _ (List.mem_of_getElem? (i := 100) rfl))), List.forall_mem_cons.mpr ⟨List.mem_append_right _ (List.mem_append_right _ (List.mem_append_left _ (List.mem_of_getElem? (i := 101) rfl))), List.forall_mem_cons.mpr ⟨List.mem_append_right _ (List.mem_append_left _ (List.mem_of_getElem? (i := 27) rfl)), List.forall_mem_cons.mpr ⟨List.mem_append_right _ (List.mem_append_left _ (List.mem_of_getElem? (i := 43) rfl)), List.forall_mem_cons.mpr ⟨List.mem_append_right _ (List.mem_append_left _ (List.mem_of_getElem? (i := 113) rfl)), List.forall_mem_cons.mpr ⟨List.mem_append_right _ (List.mem_append_right _ (List.mem_append_left _ (List.mem_of_getElem? (i := 102) rfl))), List.forall_mem_cons.mpr ⟨List.mem_append_right _ (List.mem_append_right _ (List.mem_append_left _ (List.mem_of_getElem? (i := 103) rfl))), List.forall_mem_cons.mpr ⟨List.mem_append_right _ (List.mem_append_right _ (List.mem_append_left _ (List.mem_of_getElem? (i := 104) rfl))), List.forall_mem_cons.mpr ⟨List.mem_append_right _ (List.mem_append_right _ (List.mem_append_left _ (List.mem_of_getElem? (i := 105) rfl))), List.forall_mem_cons.mpr ⟨List.mem_append_right _ (List.mem_append_right _ (List.mem_append_right _ (List.mem_of_getElem? (i := 174) rfl))), List.forall_mem_cons.mpr ⟨List.mem_append_right _ (List.mem_append_right _ (List.mem_append_right _ (List.mem_of_getElem? (i := 175) rfl))), fun _ h => absurd h List.not_mem_nil⟩⟩⟩⟩⟩⟩⟩⟩⟩⟩⟩⟩⟩⟩⟩⟩⟩⟩⟩⟩⟩⟩⟩⟩
theorem wsL_law_r22_t : ∀ w ∈ wsL_law_r22, w ∈ lw_tbl := List.forall_mem_cons.mpr ⟨List.mem_append_right _ (List.mem_append_right _ (List.mem_append_right _ (List.mem_of_getElem? (i := 176) rfl))), List.forall_mem_cons.mpr ⟨List.mem_append_right _ (List.mem_append_right _ (List.mem_append_right _ (List.mem_of_getElem? (i := 177) rfl))), List.forall_mem_cons.mpr ⟨List.mem_append_right _ (List.mem_append_right _ (List.mem_append_left _ (List.mem_of_getElem? (i := 191) rfl))), List.forall_mem_cons.mpr ⟨List.mem_append_right _ (List.mem_append_right _ (List.mem_append_right _ (List.mem_of_getElem? (i := 178) rfl))), List.forall_mem_cons.mpr ⟨List.mem_append_right _ (List.mem_append_right _ (List.mem_append_right _ (List.mem_of_getElem? (i := 180) rfl))), List.forall_mem_cons.mpr ⟨List.mem_append_left _ (List.mem_of_getElem? (i := 50) rfl), List.forall_mem_cons.mpr ⟨List.mem_append_right _ (List.mem_append_right _ (List.mem_append_right _ (List.mem_of_getElem? (i := 181) rfl))), List.forall_mem_cons.mpr ⟨List.mem_append_right _ (List.mem_append_right _ (List.mem_append_left _ (List.mem_of_getElem? (i := 106) rfl))), List.forall_mem_cons.mpr ⟨List.mem_append_right _ (List.mem_append_right _ (List.mem_append_left _ (List.mem_of_getElem? (i := 107) rfl))), List.forall_mem_cons.mpr ⟨List.mem_append_right _ (List.mem_append_right _ (List.mem_append_left _ (List.mem_of_getElem? (i := 108) rfl))), List.forall_mem_cons.mpr ⟨List.mem_append_right _ (List.mem_append_right _ (List.mem_append_left _ (List.mem_of_getElem? (i := 109) rfl))), List.forall_mem_cons.mpr ⟨List.mem_append_right _ (List.mem_append_right _ (List.mem_append_right _ (List.mem_of_getElem? (i := 182) rfl))), List.forall_mem_cons.mpr ⟨List.mem_append_right _ (List.mem_append_right _ (List.mem_append_right _ (List.mem_of_getElem? (i := 183) rfl))), List.forall_mem_cons.mpr ⟨List.mem_append_right _ (List.mem_append_right _ (List.mem_append_right _ (List.mem_of_getElem? (i := 184) rfl))), List.forall_mem_cons.mpr ⟨List.mem_append_right _ (List.mem_append_right _ (List.mem_append_right _ (List.mem_of_getElem? (i := 185) rfl))), List.forall_mem_cons.mpr ⟨List.mem_append_right _ (List.mem_append_right _ (List.mem_append_left _ (List.mem_of_getElem? (i := 110) rfl))), List.forall_mem_cons.mpr ⟨List.mem_append_right _ (List.mem_append_right _ (List.mem_append_left _ (List.mem_of_getElem? (i := 111) rfl))), List.forall_mem_cons.mpr ⟨List.mem_append_right _ (List.mem_append_right _ (List.mem_append_left _ (List.mem_of_getElem? (i := 112) rfl))), List.forall_mem_cons.mpr ⟨List.mem_append_right _ (List.mem_append_right _ (List.mem_append_left _ (List.mem_of_getElem? (i := 113) rfl))), List.forall_mem_cons.mpr ⟨List.mem_append_right _ (List.mem_append_right _ (List.mem_append_left _ (List.mem_of_getElem? (i := 114) rfl))), List.forall_mem_cons.mpr ⟨List.mem_append_right _ (List.mem_append_right _ (List.mem_append_right _ (List.mem_of_getElem? (i := 186) rfl))), List.forall_mem_cons.mpr ⟨List.mem_append_right _ (List.mem_append_right _ (List.mem_append_right _ (List.mem_of_getElem? (i := 187) rfl))), List.forall_mem_cons.mpr ⟨List.mem_append_right _ (List.mem_append_right _ (List.mem_append_right _ (List.mem_of_getElem? (i := 188) rfl))), List.forall_mem_cons.mpr ⟨List.mem_append_right _ (List.mem_append_right _ (List.mem_append_right _ (List.mem_of_getElem? (i := 189) rfl))), fun _ h => absurd h List.not_mem_nil⟩⟩⟩⟩⟩⟩⟩⟩⟩⟩⟩⟩⟩⟩⟩⟩⟩⟩⟩⟩⟩⟩⟩⟩
theorem wsL_law_r23_t : ∀ w ∈ wsL_law_r23, w ∈ lw_tbl := List.forall_mem_cons.mpr ⟨List.mem_append_right _ (List.mem_append_right _ (List.mem_append_right _ (List.mem_of_getElem? (i := 190) rfl))), List.forall_mem_cons.mpr ⟨List.mem_append_right _ (List.mem_append_right _ (List.mem_append_left _ (List.mem_of_getElem? (i := 115) rfl))), List.forall_mem_cons.mpr ⟨List.mem_append_right _ (List.mem_append_right _ (List.mem_append_left _ (List.mem_of_getElem? (i := 116) rfl))), List.forall_mem_cons.mpr ⟨List.mem_append_right _ (List.mem_append_right _ (List.mem_append_left _ (List.mem_of_getElem? (i := 117) rfl))), List.forall_mem_cons.mpr ⟨List.mem_append_right _ (List.mem_append_right _ (List.mem_append_left _ (List.mem_of_getElem? (i := 118) rfl))), List.forall_mem_cons.mpr ⟨List.mem_append_right _ (List.mem_append_right _ (List.mem_append_right _ (List.mem_of_getElem? (i := 191) rfl))), List.forall_mem_cons.mpr ⟨List.mem_append_right _ (List.mem_append_right _ (List.mem_append_right _ (List.mem_of_getElem? (i := 192) rfl))), List.forall_mem_cons.mpr ⟨List.mem_append_right _ (List.mem_append_right _ (List.mem_append_right _ (List.mem_of_getElem? (i := 193) rfl))), List.forall_mem_cons.mpr ⟨List.mem_append_right _ (List.mem_append_right _ (List.mem_append_right _ (List.mem_of_getElem? (i := 194) rfl))), List.forall_mem_cons.mpr ⟨List.mem_append_right _ (List.mem_append_right _ (List.mem_append_left _ (List.mem_of_getElem? (i := 119) rfl))), List.forall_mem_cons.mpr ⟨List.mem_append_right _ (List.mem_append_right _ (List.mem_append_left _ (List.mem_of_getElem? (i := 120) rfl))), List.forall_mem_cons.mpr ⟨List.mem_append_right _ (List.mem_append_right _ (List.mem_append_left _ (List.mem_of_getElem? (i := 121) rfl))), List.forall_mem_cons.mpr ⟨List.mem_append_right _ (List.mem_append_right _ (List.mem_append_left _ (List.mem_of_getElem? (i := 122) rfl))), List.forall_mem_cons.mpr ⟨List.mem_append_right _ (List.mem_append_left _ (List.mem_of_getElem? (i := 114) rfl)), List.forall_mem_cons.mpr ⟨List.mem_append_right _ (List.mem_append_left _ (List.mem_of_getElem? (i := 115) rfl)), List.forall_mem_cons.mpr ⟨List.mem_append_right _ (List.mem_append_left _ (List.mem_of_getElem? (i := 116) rfl)), List.forall_mem_cons.mpr ⟨List.mem_append_right _ (List.mem_append_right _ (List.mem_append_left _ (List.mem_of_getElem? (i := 123) rfl))), List.forall_mem_cons.mpr ⟨List.mem_append_right _ (List.mem_append_right _ (List.mem_append_left _ (List.mem_of_getElem? (i := 125) rfl))), List.forall_mem_cons.mpr ⟨List.mem_append_left _ (List.mem_of_getElem? (i := 14) rfl), List.forall_mem_cons.mpr ⟨List.mem_append_right _ (List.mem_append_right _ (List.mem_append_left _ (List.mem_of_getElem? (i := 126) rfl))), List.forall_mem_cons.mpr ⟨List.mem_append_right _ (List.mem_append_right _ (List.mem_append_left _ (List.mem_of_getElem? (i := 127) rfl))), List.forall_mem_cons.mpr ⟨List.mem_append_right _ (List.mem_append_right _ (List.mem_append_left _ (List.mem_of_getElem? (i := 128) rfl))), List.forall_mem_cons.mpr ⟨List.mem_append_right _ (List.mem_append_right _ (List.mem_append_left _ (List.mem_of_getElem? (i := 129) rfl))), List.forall_mem_cons.mpr ⟨List.mem_append_right _ (List.mem_append_right _ (List.mem_append_left _ (List.mem_of_getElem? (i := 130) rfl))), fun _ h => absurd h List.not_mem_nil⟩⟩⟩⟩⟩⟩⟩⟩⟩⟩⟩⟩⟩⟩⟩⟩⟩⟩⟩⟩⟩⟩⟩⟩
theorem wsL_law_r24_t : ∀ w ∈ wsL_law_r24, w ∈ lw_tbl := List.forall_mem_cons.mpr ⟨List.mem_append_right _ (List.mem_append_right _ (List.mem_append_left _ (List.mem_of_getElem? (i := 132) rfl))), List.forall_mem_cons.mpr ⟨List.mem_append_left _ (List.mem_of_getElem? (i := 15) rfl), List.forall_mem_cons.mpr ⟨List.mem_append_right _ (List.mem_append_right _ (List.mem_append_left _ (List.mem_of_getElem? (i := 133) rfl))), List.forall_mem_cons.mpr ⟨List.mem_append_right _ (List.mem_append_right _ (List.mem_append_left _ (List.mem_of_getElem? (i := 134) rfl))), List.forall_mem_cons.mpr ⟨List.mem_append_right _ (List.mem_append_right _ (List.mem_append_left _ (List.mem_of_getElem? (i := 136) rfl))), List.forall_mem_cons.mpr ⟨List.mem_append_left _ (List.mem_of_getElem? (i := 16) rfl), List.forall_mem_cons.mpr ⟨List.mem_append_right _ (List.mem_append_right _ (List.mem_append_left _ (List.mem_of_getElem? (i := 137) rfl))), List.forall_mem_cons.mpr ⟨List.mem_append_right _ (List.mem_append_right _ (List.mem_append_left _ (List.mem_of_getElem? (i := 138) rfl))), List.forall_mem_cons.mpr ⟨List.mem_append_right _ (List.mem_append_right _ (List.mem_append_left _ (List.mem_of_getElem? (i := 140) rfl))), List.forall_mem_cons.mpr ⟨List.mem_append_left _ (List.mem_of_getElem? (i := 17) rfl), List.forall_mem_cons.mpr ⟨List.mem_append_right _ (List.mem_append_right _ (List.mem_append_left _ (List.mem_of_getElem? (i := 141) rfl))), List.forall_mem_cons.mpr ⟨List.mem_append_right _ (List.mem_append_right _ (List.mem_append_left _ (List.mem_of_getElem? (i := 142) rfl))), List.forall_mem_cons.mpr ⟨List.mem_append_right _ (List.mem_append_right _ (List.mem_append_left _ (List.mem_of_getElem? (i := 144) rfl))), List.forall_mem_cons.mpr ⟨List.mem_append_left _ (List.mem_of_getElem? (i := 18) rfl), List.forall_mem_cons.mpr ⟨List.mem_append_right _ (List.mem_append_right _ (List.mem_append_left _ (List.mem_of_getElem? (i := 145) rfl))), List.forall_mem_cons.mpr ⟨List.mem_append_right _ (List.mem_append_right _ (List.mem_append_right _ (List.mem_of_getElem? (i := 195) rfl))), List.forall_mem_cons.mpr ⟨List.mem_append_right _ (List.mem_append_right _ (List.mem_append_right _ (List.mem_of_getElem? (i := 196) rfl))), List.forall_mem_cons.mpr ⟨List.mem_append_right _ (List.mem_append_right _ (List.mem_append_right _ (List.mem_of_getElem? (i := 197) rfl))), List.forall_mem_cons.mpr ⟨List.mem_append_right _ (List.mem_append_right _ (List.mem_append_right _ (List.mem_of_getElem? (i := 198) rfl))), List.forall_mem_cons.mpr ⟨List.mem_append_right _ (List.mem_append_right _ (List.mem_append_left _ (List.mem_of_getElem? (i := 197) rfl))), List.forall_mem_cons.mpr ⟨List.mem_append_right _ (List.mem_append_right _ (List.mem_append_left _ (List.mem_of_getElem? (i := 196) rfl))), List.forall_mem_cons.mpr ⟨List.mem_append_right _ (List.mem_append_right _ (List.mem_append_left _ (List.mem_of_getElem? (i := 198) rfl))), List.forall_mem_cons.mpr ⟨List.mem_append_right _ (List.mem_append_right _ (List.mem_append_right _ (List.mem_of_getElem? (i := 199) rfl))), List.forall_mem_cons.mpr ⟨List.mem_append_right _ (List.mem_append_right _ (List.mem_append_right _ (List.mem_of_getElem? (i := 201) rfl))), fun _ h => absurd h List.not_mem_nil⟩⟩⟩⟩⟩⟩⟩⟩⟩⟩⟩⟩⟩⟩⟩⟩⟩⟩⟩⟩⟩⟩⟩⟩
theorem wsL_law_r25_t : ∀ w ∈ wsL_law_r25, w ∈ lw_tbl := List.forall_mem_cons.mpr ⟨List.mem_append_left _ (List.mem_of_getElem? (i := 51) rfl), List.forall_mem_cons.mpr ⟨List.mem_append_right _ (List.mem_append_right _ (List.mem_append_right _ (List.mem_of_getElem? (i := 202) rfl))), List.forall_mem_cons.mpr ⟨List.mem_append_right _ (List.mem_append_right _ (List.mem_append_right _ (List.mem_of_getElem? (i := 203) rfl))), List.forall_mem_cons.mpr ⟨List.mem_append_right _ (List.mem_append_right _ (List.mem_append_right _ (List.mem_of_getElem? (i := 205) rfl))), List.forall_mem_cons.mpr ⟨List.mem_append_left _ (List.mem_of_getElem? (i := 52) rfl), List.forall_mem_cons.mpr ⟨List.mem_append_right _ (List.mem_append_right _ (List.mem_append_right _ (List.mem_of_getElem? (i := 206) rfl))), List.forall_mem_cons.mpr ⟨List.mem_append_right _ (List.mem_append_right _ (List.mem_append_left _ (List.mem_of_getElem? (i := 192) rfl))), List.forall_mem_cons.mpr ⟨List.mem_append_right _ (List.mem_append_right _ (List.mem_append_left _ (List.mem_of_getElem? (i := 193) rfl))), List.forall_mem_cons.mpr ⟨List.mem_append_right _ (List.mem_append_right _ (List.mem_append_right _ (List.mem_of_getElem? (i := 207) rfl))), List.forall_mem_cons.mpr ⟨List.mem_append_right _ (List.mem_append_right _ (List.mem_append_right _ (List.mem_of_getElem? (i := 209) rfl))), List.forall_mem_cons.mpr ⟨List.mem_append_left _ (List.mem_of_getElem? (i := 53) rfl), List.forall_mem_cons.mpr ⟨List.mem_append_right _ (List.mem_append_right _ (List.mem_append_right _ (List.mem_of_getElem? (i := 210) rfl))), List.forall_mem_cons.mpr ⟨List.mem_append_right _ (List.mem_append_right _ (List.mem_append_left _ (List.mem_of_getElem? (i := 194) rfl))), List.forall_mem_cons.mpr ⟨List.mem_append_right _ (List.mem_append_right _ (List.mem_append_left _ (List.mem_of_getElem? (i := 195) rfl))), List.forall_mem_cons.mpr ⟨List.mem_append_right _ (List.mem_append_right _ (List.mem_append_right _ (List.mem_of_getElem? (i := 211) rfl))), List.forall_mem_cons.mpr ⟨List.mem_append_right _ (List.mem_append_right _ (List.mem_append_right _ (List.mem_of_getElem? (i := 213) rfl))), List.forall_mem_cons.mpr ⟨List.mem_append_left _ (List.mem_of_getElem? (i := 54) rfl), List.forall_mem_cons.mpr ⟨List.mem_append_right _ (List.mem_append_right _ (List.mem_append_right _ (List.mem_of_getElem? (i := 214) rfl))), List.forall_mem_cons.mpr ⟨List.mem_append_right _ (List.mem_append_right _ (List.mem_append_right _ (List.mem_of_getElem? (i := 215) rfl))), List.forall_mem_cons.mpr ⟨List.mem_append_right _ (List.mem_append_right _ (List.mem_append_right _ (List.mem_of_getElem? (i := 217) rfl))), List.forall_mem_cons.mpr ⟨List.mem_append_left _ (List.mem_of_getElem? (i := 55) rfl), List.forall_mem_cons.mpr ⟨List.mem_append_right _ (List.mem_append_right _ (List.mem_append_right _ (List.mem_of_getElem? (i := 218) rfl))), List.forall_mem_cons.mpr ⟨List.mem_append_right _ (List.mem_append_right _ (List.mem_append_left _ (List.mem_of_getElem? (i := 146) rfl))), List.forall_mem_cons.mpr ⟨List.mem_append_right _ (List.mem_append_right _ (List.mem_append_left _ (List.mem_of_getElem? (i := 147) rfl))), fun _ h => absurd h List.not_mem_nil⟩⟩⟩⟩⟩⟩⟩⟩⟩⟩⟩⟩⟩⟩⟩⟩⟩⟩⟩⟩⟩⟩⟩⟩
theorem wsL_law_r26_t : ∀ w ∈ wsL_law_r26, w ∈ lw_tbl := List.forall_mem_cons.mpr ⟨List.mem_append_right _ (List.mem_append_right _ (List.mem_append_left _ (List.mem_of_getElem? (i := 148) rfl))), List.forall_mem_cons.mpr ⟨List.mem_append_right _ (List.mem_append_right _ (List.mem_append_left _ (List.mem_of_getElem? (i := 149) rfl))), List.forall_mem_cons.mpr ⟨List.mem_append_right _ (List.mem_append_right _ (List.mem_append_right _ (List.mem_of_getElem? (i := 219) rfl))), List.forall_mem_cons.mpr ⟨List.mem_append_right _ (List.mem_append_right _ (List.mem_append_right _ (List.mem_of_getElem? (i := 220) rfl))), List.forall_mem_cons.mpr ⟨List.mem_append_right _ (List.mem_append_right _ (List.mem_append_right _ (List.mem_of_getElem? (i := 221) rfl))), List.forall_mem_cons.mpr ⟨List.mem_append_right _ (List.mem_append_right _ (List.mem_append_right _ (List.mem_of_getElem? (i := 222) rfl))), fun _ h => absurd h List.not_mem_nil⟩⟩⟩⟩⟩⟩
theorem inX0 : ∀ w ∈ wsX00, w ∈ lw_tbl := by
  show ∀ w ∈ [u_lay RX0 TX0 0, u_lay RX0 TX0 1, u_lay RX0 TX0 2, u_lay RX0 TX0 3, u_lay RX0 TX0 4, u_lay RX0 TX0 5, u_lay RX0 TX0 6, u_lay RX0 TX0 7, u_lay RX0 TX0 8, u_lay RX0 TX0 9, u_lay RX0 TX0 10, u_lay RX0 TX0 11, u_lay RX0 TX0 12, u_lay RX0 TX0 13], w ∈ lw_tbl
  exact List.forall_mem_cons.mpr ⟨List.mem_append_right _ (List.mem_append_left _ (List.mem_of_getElem? (i := 46) rfl)), List.forall_mem_cons.mpr ⟨List.mem_append_right _ (List.mem_append_left _ (List.mem_of_getElem? (i := 48) rfl)), List.forall_mem_cons.mpr ⟨List.mem_append_right _ (List.mem_append_left _ (List.mem_of_getElem? (i := 50) rfl)), List.forall_mem_cons.mpr ⟨List.mem_append_right _ (List.mem_append_left _ (List.mem_of_getElem? (i := 52) rfl)), List.forall_mem_cons.mpr ⟨List.mem_append_right _ (List.mem_append_left _ (List.mem_of_getElem? (i := 54) rfl)), List.forall_mem_cons.mpr ⟨List.mem_append_right _ (List.mem_append_left _ (List.mem_of_getElem? (i := 56) rfl)), List.forall_mem_cons.mpr ⟨List.mem_append_right _ (List.mem_append_left _ (List.mem_of_getElem? (i := 58) rfl)), List.forall_mem_cons.mpr ⟨List.mem_append_right _ (List.mem_append_left _ (List.mem_of_getElem? (i := 60) rfl)), List.forall_mem_cons.mpr ⟨List.mem_append_right _ (List.mem_append_left _ (List.mem_of_getElem? (i := 62) rfl)), List.forall_mem_cons.mpr ⟨List.mem_append_right _ (List.mem_append_left _ (List.mem_of_getElem? (i := 64) rfl)), List.forall_mem_cons.mpr ⟨List.mem_append_right _ (List.mem_append_left _ (List.mem_of_getElem? (i := 66) rfl)), List.forall_mem_cons.mpr ⟨List.mem_append_right _ (List.mem_append_left _ (List.mem_of_getElem? (i := 68) rfl)), List.forall_mem_cons.mpr ⟨List.mem_append_right _ (List.mem_append_left _ (List.mem_of_getElem? (i := 70) rfl)), List.forall_mem_cons.mpr ⟨List.mem_append_right _ (List.mem_append_left _ (List.mem_of_getElem? (i := 72) rfl)), fun _ h => absurd h List.not_mem_nil⟩⟩⟩⟩⟩⟩⟩⟩⟩⟩⟩⟩⟩⟩
theorem inX1 : ∀ w ∈ wsX10, w ∈ lw_tbl := by
  show ∀ w ∈ [u_lay RX1 TX1 0, u_lay RX1 TX1 1, u_lay RX1 TX1 2, u_lay RX1 TX1 3, u_lay RX1 TX1 4, u_lay RX1 TX1 5, u_lay RX1 TX1 6, u_lay RX1 TX1 7, u_lay RX1 TX1 8], w ∈ lw_tbl
  exact List.forall_mem_cons.mpr ⟨List.mem_append_right _ (List.mem_append_left _ (List.mem_of_getElem? (i := 117) rfl)), List.forall_mem_cons.mpr ⟨List.mem_append_right _ (List.mem_append_left _ (List.mem_of_getElem? (i := 119) rfl)), List.forall_mem_cons.mpr ⟨List.mem_append_right _ (List.mem_append_left _ (List.mem_of_getElem? (i := 121) rfl)), List.forall_mem_cons.mpr ⟨List.mem_append_right _ (List.mem_append_left _ (List.mem_of_getElem? (i := 123) rfl)), List.forall_mem_cons.mpr ⟨List.mem_append_right _ (List.mem_append_left _ (List.mem_of_getElem? (i := 125) rfl)), List.forall_mem_cons.mpr ⟨List.mem_append_right _ (List.mem_append_left _ (List.mem_of_getElem? (i := 127) rfl)), List.forall_mem_cons.mpr ⟨List.mem_append_right _ (List.mem_append_left _ (List.mem_of_getElem? (i := 129) rfl)), List.forall_mem_cons.mpr ⟨List.mem_append_right _ (List.mem_append_left _ (List.mem_of_getElem? (i := 131) rfl)), List.forall_mem_cons.mpr ⟨List.mem_append_right _ (List.mem_append_left _ (List.mem_of_getElem? (i := 133) rfl)), fun _ h => absurd h List.not_mem_nil⟩⟩⟩⟩⟩⟩⟩⟩⟩
theorem inX2 : ∀ w ∈ wsX20, w ∈ lw_tbl := by
  show ∀ w ∈ [u_lay RX2 TX2 0, u_lay RX2 TX2 1, u_lay RX2 TX2 2, u_lay RX2 TX2 3, u_lay RX2 TX2 4, u_lay RX2 TX2 5, u_lay RX2 TX2 6, u_lay RX2 TX2 7, u_lay RX2 TX2 8, u_lay RX2 TX2 9, u_lay RX2 TX2 10, u_lay RX2 TX2 11, u_lay RX2 TX2 12], w ∈ lw_tbl
  exact List.forall_mem_cons.mpr ⟨List.mem_append_right _ (List.mem_append_right _ (List.mem_append_left _ (List.mem_of_getElem? (i := 199) rfl))), List.forall_mem_cons.mpr ⟨List.mem_append_right _ (List.mem_append_right _ (List.mem_append_left _ (List.mem_of_getElem? (i := 201) rfl))), List.forall_mem_cons.mpr ⟨List.mem_append_right _ (List.mem_append_right _ (List.mem_append_left _ (List.mem_of_getElem? (i := 203) rfl))), List.forall_mem_cons.mpr ⟨List.mem_append_right _ (List.mem_append_right _ (List.mem_append_left _ (List.mem_of_getElem? (i := 205) rfl))), List.forall_mem_cons.mpr ⟨List.mem_append_right _ (List.mem_append_right _ (List.mem_append_left _ (List.mem_of_getElem? (i := 207) rfl))), List.forall_mem_cons.mpr ⟨List.mem_append_right _ (List.mem_append_right _ (List.mem_append_left _ (List.mem_of_getElem? (i := 209) rfl))), List.forall_mem_cons.mpr ⟨List.mem_append_right _ (List.mem_append_right _ (List.mem_append_left _ (List.mem_of_getElem? (i := 211) rfl))), List.forall_mem_cons.mpr ⟨List.mem_append_right _ (List.mem_append_right _ (List.mem_append_left _ (List.mem_of_getElem? (i := 213) rfl))), List.forall_mem_cons.mpr ⟨List.mem_append_right _ (List.mem_append_right _ (List.mem_append_left _ (List.mem_of_getElem? (i := 215) rfl))), List.forall_mem_cons.mpr ⟨List.mem_append_right _ (List.mem_append_right _ (List.mem_append_left _ (List.mem_of_getElem? (i := 217) rfl))), List.forall_mem_cons.mpr ⟨List.mem_append_right _ (List.mem_append_right _ (List.mem_append_left _ (List.mem_of_getElem? (i := 219) rfl))), List.forall_mem_cons.mpr ⟨List.mem_append_right _ (List.mem_append_right _ (List.mem_append_left _ (List.mem_of_getElem? (i := 221) rfl))), List.forall_mem_cons.mpr ⟨List.mem_append_right _ (List.mem_append_right _ (List.mem_append_left _ (List.mem_of_getElem? (i := 223) rfl))), fun _ h => absurd h List.not_mem_nil⟩⟩⟩⟩⟩⟩⟩⟩⟩⟩⟩⟩⟩
theorem wsL_law_in : ∀ w ∈ wsL_law, w ∈ lw_tbl := by
  have h0 := List.forall_mem_append.mpr ⟨wsL_law_r1_t, List.forall_mem_append.mpr ⟨wsL_law_r2_t, List.forall_mem_append.mpr ⟨wsL_law_r3_t, List.forall_mem_append.mpr ⟨wsL_law_r4_t, List.forall_mem_append.mpr ⟨wsL_law_r5_t, List.forall_mem_append.mpr ⟨wsL_law_r6_t, List.forall_mem_append.mpr ⟨wsL_law_r7_t, List.forall_mem_append.mpr ⟨wsL_law_r8_t, List.forall_mem_append.mpr ⟨wsL_law_r9_t, List.forall_mem_append.mpr ⟨wsL_law_r10_t, List.forall_mem_append.mpr ⟨wsL_law_r11_t, List.forall_mem_append.mpr ⟨wsL_law_r12_t, List.forall_mem_append.mpr ⟨wsL_law_r13_t, List.forall_mem_append.mpr ⟨wsL_law_r14_t, List.forall_mem_append.mpr ⟨wsL_law_r15_t, List.forall_mem_append.mpr ⟨wsL_law_r16_t, List.forall_mem_append.mpr ⟨wsL_law_r17_t, List.forall_mem_append.mpr ⟨wsL_law_r18_t, List.forall_mem_append.mpr ⟨wsL_law_r19_t, List.forall_mem_append.mpr ⟨wsL_law_r20_t, List.forall_mem_append.mpr ⟨wsL_law_r21_t, List.forall_mem_append.mpr ⟨wsL_law_r22_t, List.forall_mem_append.mpr ⟨wsL_law_r23_t, List.forall_mem_append.mpr ⟨wsL_law_r24_t, List.forall_mem_append.mpr ⟨wsL_law_r25_t, wsL_law_r26_t⟩⟩⟩⟩⟩⟩⟩⟩⟩⟩⟩⟩⟩⟩⟩⟩⟩⟩⟩⟩⟩⟩⟩⟩⟩
  exact List.forall_mem_append.mpr ⟨List.forall_mem_append.mpr ⟨List.forall_mem_append.mpr ⟨List.forall_mem_append.mpr ⟨h0, inX1⟩, inX2⟩, inX0⟩, fun _ h => absurd h List.not_mem_nil⟩
end
section
theorem dX0_init_0 : decode cX0_init 0 = .ok (.aload_n 0, 1) := by decide +kernel
theorem dX0_init_1 : decode cX0_init 1 = .ok (.invokespecial 3, 3) := by decide +kernel
theorem dX0_init_4 : decode cX0_init 4 = .ok (.aload_n 0, 1) := by decide +kernel
theorem dX0_init_5 : decode cX0_init 5 = .ok (.sipush 164, 3) := by decide +kernel
theorem dX0_init_8 : decode cX0_init 8 = .ok (.newarray .int, 2) := by decide +kernel
theorem dX0_init_10 : decode cX0_init 10 = .ok (.putfield 9, 3) := by decide +kernel
theorem dX0_init_13 : decode cX0_init 13 = .ok (.aload_n 0, 1) := by decide +kernel
theorem dX0_init_14 : decode cX0_init 14 = .ok (.bipush 17, 2) := by decide +kernel
theorem dX0_init_16 : decode cX0_init 16 = .ok (.newarray .int, 2) := by decide +kernel
theorem dX0_init_18 : decode cX0_init 18 = .ok (.putfield 15, 3) := by decide +kernel
theorem dX0_init_21 : decode cX0_init 21 = .ok (.aload_n 0, 1) := by decide +kernel
theorem dX0_init_22 : decode cX0_init 22 = .ok (.bipush 10, 2) := by decide +kernel
theorem dX0_init_24 : decode cX0_init 24 = .ok (.newarray .int, 2) := by decide +kernel
theorem dX0_init_26 : decode cX0_init 26 = .ok (.putfield 18, 3) := by decide +kernel
theorem dX0_init_29 : decode cX0_init 29 = .ok (.aload_n 0, 1) := by decide +kernel
theorem dX0_init_30 : decode cX0_init 30 = .ok (.bipush 10, 2) := by decide +kernel
theorem dX0_init_32 : decode cX0_init 32 = .ok (.newarray .int, 2) := by decide +kernel
theorem dX0_init_34 : decode cX0_init 34 = .ok (.putfield 21, 3) := by decide +kernel
theorem dX0_init_37 : decode cX0_init 37 = .ok (.return_, 1) := by decide +kernel
theorem dX0_copyFrom_0 : decode cX0_copyFrom 0 = .ok (.aload_n 1, 1) := by decide +kernel
theorem dX0_copyFrom_1 : decode cX0_copyFrom 1 = .ok (.getfield 9, 3) := by decide +kernel
theorem dX0_copyFrom_4 : decode cX0_copyFrom 4 = .ok (.iconst 0, 1) := by decide +kernel
theorem dX0_copyFrom_5 : decode cX0_copyFrom 5 = .ok (.aload_n 0, 1) := by decide +kernel
theorem dX0_copyFrom_6 : decode cX0_copyFrom 6 = .ok (.getfield 9, 3) := by decide +kernel
theorem dX0_copyFrom_9 : decode cX0_copyFrom 9 = .ok (.iconst 0, 1) := by decide +kernel
theorem dX0_copyFrom_10 : decode cX0_copyFrom 10 = .ok (.sipush 164, 3) := by decide +kernel
theorem dX0_copyFrom_13 : decode cX0_copyFrom 13 = .ok (.invokestatic 24, 3) := by decide +kernel
theorem dX0_copyFrom_16 : decode cX0_copyFrom 16 = .ok (.aload_n 1, 1) := by decide +kernel
theorem dX0_copyFrom_17 : decode cX0_copyFrom 17 = .ok (.getfield 15, 3) := by decide +kernel
theorem dX0_copyFrom_20 : decode cX0_copyFrom 20 = .ok (.iconst 0, 1) := by decide +kernel
theorem dX0_copyFrom_21 : decode cX0_copyFrom 21 = .ok (.aload_n 0, 1) := by decide +kernel
theorem dX0_copyFrom_22 : decode cX0_copyFrom 22 = .ok (.getfield 15, 3) := by decide +kernel
theorem dX0_copyFrom_25 : decode cX0_copyFrom 25 = .ok (.iconst 0, 1) := by decide +kernel
theorem dX0_copyFrom_26 : decode cX0_copyFrom 26 = .ok (.bipush 17, 2) := by decide +kernel
theorem dX0_copyFrom_28 : decode cX0_copyFrom 28 = .ok (.invokestatic 24, 3) := by decide +kernel
theorem dX0_copyFrom_31 : decode cX0_copyFrom 31 = .ok (.aload_n 1, 1) := by decide +kernel
theorem dX0_copyFrom_32 : decode cX0_copyFrom 32 = .ok (.getfield 18, 3) := by decide +kernel
theorem dX0_copyFrom_35 : decode cX0_copyFrom 35 = .ok (.iconst 0, 1) := by decide +kernel
theorem dX0_copyFrom_36 : decode cX0_copyFrom 36 = .ok (.aload_n 0, 1) := by decide +kernel
theorem dX0_copyFrom_37 : decode cX0_copyFrom 37 = .ok (.getfield 18, 3) := by decide +kernel
theorem dX0_copyFrom_40 : decode cX0_copyFrom 40 = .ok (.iconst 0, 1) := by decide +kernel
theorem dX0_copyFrom_41 : decode cX0_copyFrom 41 = .ok (.bipush 10, 2) := by decide +kernel
theorem dX0_copyFrom_43 : decode cX0_copyFrom 43 = .ok (.invokestatic 24, 3) := by decide +kernel
theorem dX0_copyFrom_46 : decode cX0_copyFrom 46 = .ok (.aload_n 1, 1) := by decide +kernel
theorem dX0_copyFrom_47 : decode cX0_copyFrom 47 = .ok (.getfield 21, 3) := by decide +kernel
theorem dX0_copyFrom_50 : decode cX0_copyFrom 50 = .ok (.iconst 0, 1) := by decide +kernel
theorem dX0_copyFrom_51 : decode cX0_copyFrom 51 = .ok (.aload_n 0, 1) := by decide +kernel
theorem dX0_copyFrom_52 : decode cX0_copyFrom 52 = .ok (.getfield 21, 3) := by decide +kernel
theorem dX0_copyFrom_55 : decode cX0_copyFrom 55 = .ok (.iconst 0, 1) := by decide +kernel
theorem dX0_copyFrom_56 : decode cX0_copyFrom 56 = .ok (.bipush 10, 2) := by decide +kernel
theorem dX0_copyFrom_58 : decode cX0_copyFrom 58 = .ok (.invokestatic 24, 3) := by decide +kernel
theorem dX0_copyFrom_61 : decode cX0_copyFrom 61 = .ok (.aload_n 0, 1) := by decide +kernel
theorem dX0_copyFrom_62 : decode cX0_copyFrom 62 = .ok (.aload_n 1, 1) := by decide +kernel
theorem dX0_copyFrom_63 : decode cX0_copyFrom 63 = .ok (.getfield 30, 3) := by decide +kernel
theorem dX0_copyFrom_66 : decode cX0_copyFrom 66 = .ok (.putfield 30, 3) := by decide +kernel
theorem dX0_copyFrom_69 : decode cX0_copyFrom 69 = .ok (.aload_n 0, 1) := by decide +kernel
theorem dX0_copyFrom_70 : decode cX0_copyFrom 70 = .ok (.aload_n 1, 1) := by decide +kernel
theorem dX0_copyFrom_71 : decode cX0_copyFrom 71 = .ok (.getfield 34, 3) := by decide +kernel
theorem dX0_copyFrom_74 : decode cX0_copyFrom 74 = .ok (.putfield 34, 3) := by decide +kernel
theorem dX0_copyFrom_77 : decode cX0_copyFrom 77 = .ok (.aload_n 0, 1) := by decide +kernel
theorem dX0_copyFrom_78 : decode cX0_copyFrom 78 = .ok (.aload_n 1, 1) := by decide +kernel
theorem dX0_copyFrom_79 : decode cX0_copyFrom 79 = .ok (.getfield 37, 3) := by decide +kernel
theorem dX0_copyFrom_82 : decode cX0_copyFrom 82 = .ok (.putfield 37, 3) := by decide +kernel
theorem dX0_copyFrom_85 : decode cX0_copyFrom 85 = .ok (.aload_n 0, 1) := by decide +kernel
theorem dX0_copyFrom_86 : decode cX0_copyFrom 86 = .ok (.aload_n 1, 1) := by decide +kernel
theorem dX0_copyFrom_87 : decode cX0_copyFrom 87 = .ok (.getfield 40, 3) := by decide +kernel
theorem dX0_copyFrom_90 : decode cX0_copyFrom 90 = .ok (.putfield 40, 3) := by decide +kernel
theorem dX0_copyFrom_93 : decode cX0_copyFrom 93 = .ok (.aload_n 0, 1) := by decide +kernel
theorem dX0_copyFrom_94 : decode cX0_copyFrom 94 = .ok (.aload_n 1, 1) := by decide +kernel
theorem dX0_copyFrom_95 : decode cX0_copyFrom 95 = .ok (.getfield 43, 3) := by decide +kernel
theorem dX0_copyFrom_98 : decode cX0_copyFrom 98 = .ok (.putfield 43, 3) := by decide +kernel
theorem dX0_copyFrom_101 : decode cX0_copyFrom 101 = .ok (.aload_n 0, 1) := by decide +kernel
theorem dX0_copyFrom_102 : decode cX0_copyFrom 102 = .ok (.aload_n 1, 1) := by decide +kernel
theorem dX0_copyFrom_103 : decode cX0_copyFrom 103 = .ok (.getfield 46, 3) := by decide +kernel
theorem dX0_copyFrom_106 : decode cX0_copyFrom 106 = .ok (.putfield 46, 3) := by decide +kernel
theorem dX0_copyFrom_109 : decode cX0_copyFrom 109 = .ok (.aload_n 0, 1) := by decide +kernel
theorem dX0_copyFrom_110 : decode cX0_copyFrom 110 = .ok (.aload_n 1, 1) := by decide +kernel
theorem dX0_copyFrom_111 : decode cX0_copyFrom 111 = .ok (.getfield 49, 3) := by decide +kernel
theorem dX0_copyFrom_114 : decode cX0_copyFrom 114 = .ok (.putfield 49, 3) := by decide +kernel
theorem dX0_copyFrom_117 : decode cX0_copyFrom 117 = .ok (.aload_n 0, 1) := by decide +kernel
theorem dX0_copyFrom_118 : decode cX0_copyFrom 118 = .ok (.aload_n 1, 1) := by decide +kernel
theorem dX0_copyFrom_119 : decode cX0_copyFrom 119 = .ok (.getfield 52, 3) := by decide +kernel
theorem dX0_copyFrom_122 : decode cX0_copyFrom 122 = .ok (.putfield 52, 3) := by decide +kernel
theorem dX0_copyFrom_125 : decode cX0_copyFrom 125 = .ok (.aload_n 0, 1) := by decide +kernel
theorem dX0_copyFrom_126 : decode cX0_copyFrom 126 = .ok (.aload_n 1, 1) := by decide +kernel
theorem dX0_copyFrom_127 : decode cX0_copyFrom 127 = .ok (.getfield 55, 3) := by decide +kernel
theorem dX0_copyFrom_130 : decode cX0_copyFrom 130 = .ok (.putfield 55, 3) := by decide +kernel
theorem dX0_copyFrom_133 : decode cX0_copyFrom 133 = .ok (.aload_n 0, 1) := by decide +kernel
theorem dX0_copyFrom_134 : decode cX0_copyFrom 134 = .ok (.aload_n 1, 1) := by decide +kernel
theorem dX0_copyFrom_135 : decode cX0_copyFrom 135 = .ok (.getfield 58, 3) := by decide +kernel
theorem dX0_copyFrom_138 : decode cX0_copyFrom 138 = .ok (.putfield 58, 3) := by decide +kernel
theorem dX0_copyFrom_141 : decode cX0_copyFrom 141 = .ok (.return_, 1) := by decide +kernel
theorem dX0_startGame_0 : decode cX0_startGame 0 = .ok (.iload_n 1, 1) := by decide +kernel
theorem dX0_startGame_1 : decode cX0_startGame 1 = .ok (.iconst 2, 1) := by decide +kernel
theorem dX0_startGame_2 : decode cX0_startGame 2 = .ok (.if_icmp .lt 8, 3) := by decide +kernel
theorem dX0_startGame_5 : decode cX0_startGame 5 = .ok (.iload_n 1, 1) := by decide +kernel
theorem dX0_startGame_6 : decode cX0_startGame 6 = .ok (.iconst 4, 1) := by decide +kernel
theorem dX0_startGame_7 : decode cX0_startGame 7 = .ok (.if_icmp .le 6, 3) := by decide +kernel
theorem dX0_startGame_10 : decode cX0_startGame 10 = .ok (.ldc 62, 2) := by decide +kernel
theorem dX0_startGame_12 : decode cX0_startGame 12 = .ok (.ireturn, 1) := by decide +kernel
theorem dX0_startGame_13 : decode cX0_startGame 13 = .ok (.aload_n 0, 1) := by decide +kernel
theorem dX0_startGame_14 : decode cX0_startGame 14 = .ok (.iload_n 1, 1) := by decide +kernel
theorem dX0_startGame_15 : decode cX0_startGame 15 = .ok (.putfield 30, 3) := by decide +kernel
theorem dX0_startGame_18 : decode cX0_startGame 18 = .ok (.aload_n 0, 1) := by decide +kernel
theorem dX0_startGame_19 : decode cX0_startGame 19 = .ok (.iconst 0, 1) := by decide +kernel
theorem dX0_startGame_20 : decode cX0_startGame 20 = .ok (.putfield 34, 3) := by decide +kernel
theorem dX0_startGame_23 : decode cX0_startGame 23 = .ok (.aload_n 0, 1) := by decide +kernel
theorem dX0_startGame_24 : decode cX0_startGame 24 = .ok (.iconst 0, 1) := by decide +kernel
theorem dX0_startGame_25 : decode cX0_startGame 25 = .ok (.putfield 49, 3) := by decide +kernel
theorem dX0_startGame_28 : decode cX0_startGame 28 = .ok (.aload_n 0, 1) := by decide +kernel
theorem dX0_startGame_29 : decode cX0_startGame 29 = .ok (.iconst 0, 1) := by decide +kernel
theorem dX0_startGame_30 : decode cX0_startGame 30 = .ok (.putfield 55, 3) := by decide +kernel
theorem dX0_startGame_33 : decode cX0_startGame 33 = .ok (.aload_n 0, 1) := by decide +kernel
theorem dX0_startGame_34 : decode cX0_startGame 34 = .ok (.iconst 0, 1) := by decide +kernel
theorem dX0_startGame_35 : decode cX0_startGame 35 = .ok (.putfield 58, 3) := by decide +kernel
theorem dX0_startGame_38 : decode cX0_startGame 38 = .ok (.getstatic 63, 3) := by decide +kernel
theorem dX0_startGame_41 : decode cX0_startGame 41 = .ok (.iconst 0, 1) := by decide +kernel
theorem dX0_startGame_42 : decode cX0_startGame 42 = .ok (.aload_n 0, 1) := by decide +kernel
theorem dX0_startGame_43 : decode cX0_startGame 43 = .ok (.getfield 18, 3) := by decide +kernel
theorem dX0_startGame_46 : decode cX0_startGame 46 = .ok (.iconst 0, 1) := by decide +kernel
theorem dX0_startGame_47 : decode cX0_startGame 47 = .ok (.bipush 10, 2) := by decide +kernel
theorem dX0_startGame_49 : decode cX0_startGame 49 = .ok (.invokestatic 24, 3) := by decide +kernel
theorem dX0_startGame_52 : decode cX0_startGame 52 = .ok (.aload_n 0, 1) := by decide +kernel
theorem dX0_startGame_53 : decode cX0_startGame 53 = .ok (.getfield 21, 3) := by decide +kernel
theorem dX0_startGame_56 : decode cX0_startGame 56 = .ok (.iconst 0, 1) := by decide +kernel
theorem dX0_startGame_57 : decode cX0_startGame 57 = .ok (.invokestatic 66, 3) := by decide +kernel
theorem dX0_startGame_60 : decode cX0_startGame 60 = .ok (.aload_n 0, 1) := by decide +kernel
theorem dX0_startGame_61 : decode cX0_startGame 61 = .ok (.invokevirtual 72, 3) := by decide +kernel
theorem dX0_startGame_64 : decode cX0_startGame 64 = .ok (.iconst 0, 1) := by decide +kernel
theorem dX0_startGame_65 : decode cX0_startGame 65 = .ok (.istore_n 2, 1) := by decide +kernel
theorem dX0_startGame_66 : decode cX0_startGame 66 = .ok (.iload_n 2, 1) := by decide +kernel
theorem dX0_startGame_67 : decode cX0_startGame 67 = .ok (.aload_n 0, 1) := by decide +kernel
theorem dX0_startGame_68 : decode cX0_startGame 68 = .ok (.getfield 30, 3) := by decide +kernel
theorem dX0_startGame_71 : decode cX0_startGame 71 = .ok (.if_icmp .ge 15, 3) := by decide +kernel
theorem dX0_startGame_74 : decode cX0_startGame 74 = .ok (.aload_n 0, 1) := by decide +kernel
theorem dX0_startGame_75 : decode cX0_startGame 75 = .ok (.iload_n 2, 1) := by decide +kernel
theorem dX0_startGame_76 : decode cX0_startGame 76 = .ok (.iconst 5, 1) := by decide +kernel
theorem dX0_startGame_77 : decode cX0_startGame 77 = .ok (.invokevirtual 75, 3) := by decide +kernel
theorem dX0_startGame_80 : decode cX0_startGame 80 = .ok (.iinc 2 1, 3) := by decide +kernel
theorem dX0_startGame_83 : decode cX0_startGame 83 = .ok (.goto (-17), 3) := by decide +kernel
theorem dX0_startGame_86 : decode cX0_startGame 86 = .ok (.aload_n 0, 1) := by decide +kernel
theorem dX0_startGame_87 : decode cX0_startGame 87 = .ok (.invokevirtual 79, 3) := by decide +kernel
theorem dX0_startGame_90 : decode cX0_startGame 90 = .ok (.aload_n 0, 1) := by decide +kernel
theorem dX0_startGame_91 : decode cX0_startGame 91 = .ok (.getfield 18, 3) := by decide +kernel
theorem dX0_startGame_94 : decode cX0_startGame 94 = .ok (.iconst 0, 1) := by decide +kernel
theorem dX0_startGame_95 : decode cX0_startGame 95 = .ok (.iaload, 1) := by decide +kernel
theorem dX0_startGame_96 : decode cX0_startGame 96 = .ok (.ireturn, 1) := by decide +kernel
theorem dX0_dealDecks_0 : decode cX0_dealDecks 0 = .ok (.iconst 0, 1) := by decide +kernel
theorem dX0_dealDecks_1 : decode cX0_dealDecks 1 = .ok (.istore_n 1, 1) := by decide +kernel
theorem dX0_dealDecks_2 : decode cX0_dealDecks 2 = .ok (.iconst 0, 1) := by decide +kernel
theorem dX0_dealDecks_3 : decode cX0_dealDecks 3 = .ok (.istore_n 2, 1) := by decide +kernel
theorem dX0_dealDecks_4 : decode cX0_dealDecks 4 = .ok (.iload_n 2, 1) := by decide +kernel
theorem dX0_dealDecks_5 : decode cX0_dealDecks 5 = .ok (.iconst 4, 1) := by decide +kernel
theorem dX0_dealDecks_6 : decode cX0_dealDecks 6 = .ok (.if_icmp .ge 103, 3) := by decide +kernel
theorem dX0_dealDecks_9 : decode cX0_dealDecks 9 = .ok (.aload_n 0, 1) := by decide +kernel
theorem dX0_dealDecks_10 : decode cX0_dealDecks 10 = .ok (.getfield 15, 3) := by decide +kernel
theorem dX0_dealDecks_13 : decode cX0_dealDecks 13 = .ok (.iload_n 2, 1) := by decide +kernel
theorem dX0_dealDecks_14 : decode cX0_dealDecks 14 = .ok (.iconst 4, 1) := by decide +kernel
theorem dX0_dealDecks_15 : decode cX0_dealDecks 15 = .ok (.imul, 1) := by decide +kernel
theorem dX0_dealDecks_16 : decode cX0_dealDecks 16 = .ok (.iconst 0, 1) := by decide +kernel
theorem dX0_dealDecks_17 : decode cX0_dealDecks 17 = .ok (.iadd, 1) := by decide +kernel
theorem dX0_dealDecks_18 : decode cX0_dealDecks 18 = .ok (.iload_n 1, 1) := by decide +kernel
theorem dX0_dealDecks_19 : decode cX0_dealDecks 19 = .ok (.iastore, 1) := by decide +kernel
theorem dX0_dealDecks_20 : decode cX0_dealDecks 20 = .ok (.iconst 0, 1) := by decide +kernel
theorem dX0_dealDecks_21 : decode cX0_dealDecks 21 = .ok (.istore_n 3, 1) := by decide +kernel
theorem dX0_dealDecks_22 : decode cX0_dealDecks 22 = .ok (.iload_n 3, 1) := by decide +kernel
theorem dX0_dealDecks_23 : decode cX0_dealDecks 23 = .ok (.bipush 10, 2) := by decide +kernel
theorem dX0_dealDecks_25 : decode cX0_dealDecks 25 = .ok (.if_icmp .ge 45, 3) := by decide +kernel
theorem dX0_dealDecks_28 : decode cX0_dealDecks 28 = .ok (.iload_n 2, 1) := by decide +kernel
theorem dX0_dealDecks_29 : decode cX0_dealDecks 29 = .ok (.aload_n 0, 1) := by decide +kernel
theorem dX0_dealDecks_30 : decode cX0_dealDecks 30 = .ok (.getfield 30, 3) := by decide +kernel
theorem dX0_dealDecks_33 : decode cX0_dealDecks 33 = .ok (.if_icmp .ge 37, 3) := by decide +kernel
theorem dX0_dealDecks_36 : decode cX0_dealDecks 36 = .ok (.aload_n 0, 1) := by decide +kernel
theorem dX0_dealDecks_37 : decode cX0_dealDecks 37 = .ok (.getfield 9, 3) := by decide +kernel
theorem dX0_dealDecks_40 : decode cX0_dealDecks 40 = .ok (.iload_n 1, 1) := by decide +kernel
theorem dX0_dealDecks_41 : decode cX0_dealDecks 41 = .ok (.getstatic 82, 3) := by decide +kernel
theorem dX0_dealDecks_44 : decode cX0_dealDecks 44 = .ok (.iload_n 3, 1) := by decide +kernel
theorem dX0_dealDecks_45 : decode cX0_dealDecks 45 = .ok (.iaload, 1) := by decide +kernel
theorem dX0_dealDecks_46 : decode cX0_dealDecks 46 = .ok (.iastore, 1) := by decide +kernel
theorem dX0_dealDecks_47 : decode cX0_dealDecks 47 = .ok (.aload_n 0, 1) := by decide +kernel
theorem dX0_dealDecks_48 : decode cX0_dealDecks 48 = .ok (.getfield 18, 3) := by decide +kernel
theorem dX0_dealDecks_51 : decode cX0_dealDecks 51 = .ok (.getstatic 82, 3) := by decide +kernel
theorem dX0_dealDecks_54 : decode cX0_dealDecks 54 = .ok (.iload_n 3, 1) := by decide +kernel
theorem dX0_dealDecks_55 : decode cX0_dealDecks 55 = .ok (.iaload, 1) := by decide +kernel
theorem dX0_dealDecks_56 : decode cX0_dealDecks 56 = .ok (.dup2, 1) := by decide +kernel
theorem dX0_dealDecks_57 : decode cX0_dealDecks 57 = .ok (.iaload, 1) := by decide +kernel
theorem dX0_dealDecks_58 : decode cX0_dealDecks 58 = .ok (.iconst 1, 1) := by decide +kernel
theorem dX0_dealDecks_59 : decode cX0_dealDecks 59 = .ok (.isub, 1) := by decide +kernel
theorem dX0_dealDecks_60 : decode cX0_dealDecks 60 = .ok (.iastore, 1) := by decide +kernel
theorem dX0_dealDecks_61 : decode cX0_dealDecks 61 = .ok (.iinc 1 1, 3) := by decide +kernel
theorem dX0_dealDecks_64 : decode cX0_dealDecks 64 = .ok (.iinc 3 1, 3) := by decide +kernel
theorem dX0_dealDecks_67 : decode cX0_dealDecks 67 = .ok (.goto (-45), 3) := by decide +kernel
theorem dX0_dealDecks_70 : decode cX0_dealDecks 70 = .ok (.aload_n 0, 1) := by decide +kernel
theorem dX0_dealDecks_71 : decode cX0_dealDecks 71 = .ok (.getfield 15, 3) := by decide +kernel
theorem dX0_dealDecks_74 : decode cX0_dealDecks 74 = .ok (.iload_n 2, 1) := by decide +kernel
theorem dX0_dealDecks_75 : decode cX0_dealDecks 75 = .ok (.iconst 4, 1) := by decide +kernel
theorem dX0_dealDecks_76 : decode cX0_dealDecks 76 = .ok (.imul, 1) := by decide +kernel
theorem dX0_dealDecks_77 : decode cX0_dealDecks 77 = .ok (.iconst 1, 1) := by decide +kernel
theorem dX0_dealDecks_78 : decode cX0_dealDecks 78 = .ok (.iadd, 1) := by decide +kernel
theorem dX0_dealDecks_79 : decode cX0_dealDecks 79 = .ok (.iload_n 1, 1) := by decide +kernel
theorem dX0_dealDecks_80 : decode cX0_dealDecks 80 = .ok (.iastore, 1) := by decide +kernel
theorem dX0_dealDecks_81 : decode cX0_dealDecks 81 = .ok (.aload_n 0, 1) := by decide +kernel
theorem dX0_dealDecks_82 : decode cX0_dealDecks 82 = .ok (.getfield 15, 3) := by decide +kernel
theorem dX0_dealDecks_85 : decode cX0_dealDecks 85 = .ok (.iload_n 2, 1) := by decide +kernel
theorem dX0_dealDecks_86 : decode cX0_dealDecks 86 = .ok (.iconst 4, 1) := by decide +kernel
theorem dX0_dealDecks_87 : decode cX0_dealDecks 87 = .ok (.imul, 1) := by decide +kernel
theorem dX0_dealDecks_88 : decode cX0_dealDecks 88 = .ok (.iconst 2, 1) := by decide +kernel
theorem dX0_dealDecks_89 : decode cX0_dealDecks 89 = .ok (.iadd, 1) := by decide +kernel
theorem dX0_dealDecks_90 : decode cX0_dealDecks 90 = .ok (.iload_n 1, 1) := by decide +kernel
theorem dX0_dealDecks_91 : decode cX0_dealDecks 91 = .ok (.iastore, 1) := by decide +kernel
theorem dX0_dealDecks_92 : decode cX0_dealDecks 92 = .ok (.aload_n 0, 1) := by decide +kernel
theorem dX0_dealDecks_93 : decode cX0_dealDecks 93 = .ok (.getfield 15, 3) := by decide +kernel
theorem dX0_dealDecks_96 : decode cX0_dealDecks 96 = .ok (.iload_n 2, 1) := by decide +kernel
theorem dX0_dealDecks_97 : decode cX0_dealDecks 97 = .ok (.iconst 4, 1) := by decide +kernel
theorem dX0_dealDecks_98 : decode cX0_dealDecks 98 = .ok (.imul, 1) := by decide +kernel
theorem dX0_dealDecks_99 : decode cX0_dealDecks 99 = .ok (.iconst 3, 1) := by decide +kernel
theorem dX0_dealDecks_100 : decode cX0_dealDecks 100 = .ok (.iadd, 1) := by decide +kernel
theorem dX0_dealDecks_101 : decode cX0_dealDecks 101 = .ok (.iload_n 1, 1) := by decide +kernel
theorem dX0_dealDecks_102 : decode cX0_dealDecks 102 = .ok (.iastore, 1) := by decide +kernel
theorem dX0_dealDecks_103 : decode cX0_dealDecks 103 = .ok (.iinc 2 1, 3) := by decide +kernel
theorem dX0_dealDecks_106 : decode cX0_dealDecks 106 = .ok (.goto (-102), 3) := by decide +kernel
theorem dX0_dealDecks_109 : decode cX0_dealDecks 109 = .ok (.aload_n 0, 1) := by decide +kernel
theorem dX0_dealDecks_110 : decode cX0_dealDecks 110 = .ok (.getfield 15, 3) := by decide +kernel
theorem dX0_dealDecks_113 : decode cX0_dealDecks 113 = .ok (.bipush 16, 2) := by decide +kernel
theorem dX0_dealDecks_115 : decode cX0_dealDecks 115 = .ok (.iload_n 1, 1) := by decide +kernel
theorem dX0_dealDecks_116 : decode cX0_dealDecks 116 = .ok (.iastore, 1) := by decide +kernel
theorem dX0_dealDecks_117 : decode cX0_dealDecks 117 = .ok (.return_, 1) := by decide +kernel
theorem dX0_beginTurn_0 : decode cX0_beginTurn 0 = .ok (.aload_n 0, 1) := by decide +kernel
theorem dX0_beginTurn_1 : decode cX0_beginTurn 1 = .ok (.iconst 0, 1) := by decide +kernel
theorem dX0_beginTurn_2 : decode cX0_beginTurn 2 = .ok (.putfield 37, 3) := by decide +kernel
theorem dX0_beginTurn_5 : decode cX0_beginTurn 5 = .ok (.aload_n 0, 1) := by decide +kernel
theorem dX0_beginTurn_6 : decode cX0_beginTurn 6 = .ok (.iconst 1, 1) := by decide +kernel
theorem dX0_beginTurn_7 : decode cX0_beginTurn 7 = .ok (.putfield 40, 3) := by decide +kernel
theorem dX0_beginTurn_10 : decode cX0_beginTurn 10 = .ok (.aload_n 0, 1) := by decide +kernel
theorem dX0_beginTurn_11 : decode cX0_beginTurn 11 = .ok (.iconst 1, 1) := by decide +kernel
theorem dX0_beginTurn_12 : decode cX0_beginTurn 12 = .ok (.putfield 43, 3) := by decide +kernel
theorem dX0_beginTurn_15 : decode cX0_beginTurn 15 = .ok (.aload_n 0, 1) := by decide +kernel
theorem dX0_beginTurn_16 : decode cX0_beginTurn 16 = .ok (.iconst 0, 1) := by decide +kernel
theorem dX0_beginTurn_17 : decode cX0_beginTurn 17 = .ok (.putfield 46, 3) := by decide +kernel
theorem dX0_beginTurn_20 : decode cX0_beginTurn 20 = .ok (.return_, 1) := by decide +kernel
theorem dX0_playCard_0 : decode cX0_playCard 0 = .ok (.aload_n 0, 1) := by decide +kernel
theorem dX0_playCard_1 : decode cX0_playCard 1 = .ok (.aload_n 0, 1) := by decide +kernel
theorem dX0_playCard_2 : decode cX0_playCard 2 = .ok (.getfield 34, 3) := by decide +kernel
theorem dX0_playCard_5 : decode cX0_playCard 5 = .ok (.iconst 2, 1) := by decide +kernel
theorem dX0_playCard_6 : decode cX0_playCard 6 = .ok (.iload_n 1, 1) := by decide +kernel
theorem dX0_playCard_7 : decode cX0_playCard 7 = .ok (.invokevirtual 85, 3) := by decide +kernel
theorem dX0_playCard_10 : decode cX0_playCard 10 = .ok (.istore_n 2, 1) := by decide +kernel
theorem dX0_playCard_11 : decode cX0_playCard 11 = .ok (.iload_n 2, 1) := by decide +kernel
theorem dX0_playCard_12 : decode cX0_playCard 12 = .ok (.ifCond .ge 6, 3) := by decide +kernel
theorem dX0_playCard_15 : decode cX0_playCard 15 = .ok (.ldc 62, 2) := by decide +kernel
theorem dX0_playCard_17 : decode cX0_playCard 17 = .ok (.ireturn, 1) := by decide +kernel
theorem dX0_playCard_18 : decode cX0_playCard 18 = .ok (.iload_n 2, 1) := by decide +kernel
theorem dX0_playCard_19 : decode cX0_playCard 19 = .ok (.bipush 6, 2) := by decide +kernel
theorem dX0_playCard_21 : decode cX0_playCard 21 = .ok (.if_icmp .lt 7, 3) := by decide +kernel
theorem dX0_playCard_24 : decode cX0_playCard 24 = .ok (.iconst 1, 1) := by decide +kernel
theorem dX0_playCard_25 : decode cX0_playCard 25 = .ok (.goto 4, 3) := by decide +kernel
theorem dX0_playCard_28 : decode cX0_playCard 28 = .ok (.iconst 0, 1) := by decide +kernel
theorem dX0_playCard_29 : decode cX0_playCard 29 = .ok (.istore_n 3, 1) := by decide +kernel
theorem dX0_playCard_30 : decode cX0_playCard 30 = .ok (.aload_n 0, 1) := by decide +kernel
theorem dX0_playCard_31 : decode cX0_playCard 31 = .ok (.getfield 58, 3) := by decide +kernel
theorem dX0_playCard_34 : decode cX0_playCard 34 = .ok (.ifCond .ne 23, 3) := by decide +kernel
theorem dX0_playCard_37 : decode cX0_playCard 37 = .ok (.iload_n 3, 1) := by decide +kernel
theorem dX0_playCard_38 : decode cX0_playCard 38 = .ok (.ifCond .ne 8, 3) := by decide +kernel
theorem dX0_playCard_41 : decode cX0_playCard 41 = .ok (.iload_n 2, 1) := by decide +kernel
theorem dX0_playCard_42 : decode cX0_playCard 42 = .ok (.iconst 2, 1) := by decide +kernel
theorem dX0_playCard_43 : decode cX0_playCard 43 = .ok (.if_icmp .gt 14, 3) := by decide +kernel
theorem dX0_playCard_46 : decode cX0_playCard 46 = .ok (.iload_n 3, 1) := by decide +kernel
theorem dX0_playCard_47 : decode cX0_playCard 47 = .ok (.ifCond .eq 13, 3) := by decide +kernel
theorem dX0_playCard_50 : decode cX0_playCard 50 = .ok (.aload_n 0, 1) := by decide +kernel
theorem dX0_playCard_51 : decode cX0_playCard 51 = .ok (.getfield 43, 3) := by decide +kernel
theorem dX0_playCard_54 : decode cX0_playCard 54 = .ok (.ifCond .gt 6, 3) := by decide +kernel
theorem dX0_playCard_57 : decode cX0_playCard 57 = .ok (.ldc 89, 2) := by decide +kernel
theorem dX0_playCard_59 : decode cX0_playCard 59 = .ok (.ireturn, 1) := by decide +kernel
theorem dX0_playCard_60 : decode cX0_playCard 60 = .ok (.iload_n 3, 1) := by decide +kernel
theorem dX0_playCard_61 : decode cX0_playCard 61 = .ok (.ifCond .eq 13, 3) := by decide +kernel
theorem dX0_playCard_64 : decode cX0_playCard 64 = .ok (.aload_n 0, 1) := by decide +kernel
theorem dX0_playCard_65 : decode cX0_playCard 65 = .ok (.dup, 1) := by decide +kernel
theorem dX0_playCard_66 : decode cX0_playCard 66 = .ok (.getfield 43, 3) := by decide +kernel
theorem dX0_playCard_69 : decode cX0_playCard 69 = .ok (.iconst 1, 1) := by decide +kernel
theorem dX0_playCard_70 : decode cX0_playCard 70 = .ok (.isub, 1) := by decide +kernel
theorem dX0_playCard_71 : decode cX0_playCard 71 = .ok (.putfield 43, 3) := by decide +kernel
theorem dX0_playCard_74 : decode cX0_playCard 74 = .ok (.aload_n 0, 1) := by decide +kernel
theorem dX0_playCard_75 : decode cX0_playCard 75 = .ok (.aload_n 0, 1) := by decide +kernel
theorem dX0_playCard_76 : decode cX0_playCard 76 = .ok (.getfield 34, 3) := by decide +kernel
theorem dX0_playCard_79 : decode cX0_playCard 79 = .ok (.iconst 4, 1) := by decide +kernel
theorem dX0_playCard_80 : decode cX0_playCard 80 = .ok (.imul, 1) := by decide +kernel
theorem dX0_playCard_81 : decode cX0_playCard 81 = .ok (.iconst 2, 1) := by decide +kernel
theorem dX0_playCard_82 : decode cX0_playCard 82 = .ok (.iadd, 1) := by decide +kernel
theorem dX0_playCard_83 : decode cX0_playCard 83 = .ok (.iload_n 1, 1) := by decide +kernel
theorem dX0_playCard_84 : decode cX0_playCard 84 = .ok (.aload_n 0, 1) := by decide +kernel
theorem dX0_playCard_85 : decode cX0_playCard 85 = .ok (.getfield 34, 3) := by decide +kernel
theorem dX0_playCard_88 : decode cX0_playCard 88 = .ok (.iconst 4, 1) := by decide +kernel
theorem dX0_playCard_89 : decode cX0_playCard 89 = .ok (.imul, 1) := by decide +kernel
theorem dX0_playCard_90 : decode cX0_playCard 90 = .ok (.iconst 3, 1) := by decide +kernel
theorem dX0_playCard_91 : decode cX0_playCard 91 = .ok (.iadd, 1) := by decide +kernel
theorem dX0_playCard_92 : decode cX0_playCard 92 = .ok (.invokevirtual 90, 3) := by decide +kernel
theorem dX0_playCard_95 : decode cX0_playCard 95 = .ok (.aload_n 0, 1) := by decide +kernel
theorem dX0_playCard_96 : decode cX0_playCard 96 = .ok (.dup, 1) := by decide +kernel
theorem dX0_playCard_97 : decode cX0_playCard 97 = .ok (.getfield 37, 3) := by decide +kernel
theorem dX0_playCard_100 : decode cX0_playCard 100 = .ok (.getstatic 94, 3) := by decide +kernel
theorem dX0_playCard_103 : decode cX0_playCard 103 = .ok (.iload_n 2, 1) := by decide +kernel
theorem dX0_playCard_104 : decode cX0_playCard 104 = .ok (.iaload, 1) := by decide +kernel
theorem dX0_playCard_105 : decode cX0_playCard 105 = .ok (.iadd, 1) := by decide +kernel
theorem dX0_playCard_106 : decode cX0_playCard 106 = .ok (.putfield 37, 3) := by decide +kernel
theorem dX0_playCard_109 : decode cX0_playCard 109 = .ok (.aload_n 0, 1) := by decide +kernel
theorem dX0_playCard_110 : decode cX0_playCard 110 = .ok (.aload_n 0, 1) := by decide +kernel
theorem dX0_playCard_111 : decode cX0_playCard 111 = .ok (.getfield 34, 3) := by decide +kernel
theorem dX0_playCard_114 : decode cX0_playCard 114 = .ok (.getstatic 97, 3) := by decide +kernel
theorem dX0_playCard_117 : decode cX0_playCard 117 = .ok (.iload_n 2, 1) := by decide +kernel
theorem dX0_playCard_118 : decode cX0_playCard 118 = .ok (.iaload, 1) := by decide +kernel
theorem dX0_playCard_119 : decode cX0_playCard 119 = .ok (.invokevirtual 75, 3) := by decide +kernel
theorem dX0_playCard_122 : decode cX0_playCard 122 = .ok (.aload_n 0, 1) := by decide +kernel
theorem dX0_playCard_123 : decode cX0_playCard 123 = .ok (.dup, 1) := by decide +kernel
theorem dX0_playCard_124 : decode cX0_playCard 124 = .ok (.getfield 40, 3) := by decide +kernel
theorem dX0_playCard_127 : decode cX0_playCard 127 = .ok (.getstatic 100, 3) := by decide +kernel
theorem dX0_playCard_130 : decode cX0_playCard 130 = .ok (.iload_n 2, 1) := by decide +kernel
theorem dX0_playCard_131 : decode cX0_playCard 131 = .ok (.iaload, 1) := by decide +kernel
theorem dX0_playCard_132 : decode cX0_playCard 132 = .ok (.iadd, 1) := by decide +kernel
theorem dX0_playCard_133 : decode cX0_playCard 133 = .ok (.putfield 40, 3) := by decide +kernel
theorem dX0_playCard_136 : decode cX0_playCard 136 = .ok (.aload_n 0, 1) := by decide +kernel
theorem dX0_playCard_137 : decode cX0_playCard 137 = .ok (.dup, 1) := by decide +kernel
theorem dX0_playCard_138 : decode cX0_playCard 138 = .ok (.getfield 43, 3) := by decide +kernel
theorem dX0_playCard_141 : decode cX0_playCard 141 = .ok (.getstatic 103, 3) := by decide +kernel
theorem dX0_playCard_144 : decode cX0_playCard 144 = .ok (.iload_n 2, 1) := by decide +kernel
theorem dX0_playCard_145 : decode cX0_playCard 145 = .ok (.iaload, 1) := by decide +kernel
theorem dX0_playCard_146 : decode cX0_playCard 146 = .ok (.iadd, 1) := by decide +kernel
theorem dX0_playCard_147 : decode cX0_playCard 147 = .ok (.putfield 43, 3) := by decide +kernel
theorem dX0_playCard_150 : decode cX0_playCard 150 = .ok (.iconst 0, 1) := by decide +kernel
theorem dX0_playCard_151 : decode cX0_playCard 151 = .ok (.istore 4, 2) := by decide +kernel
theorem dX0_playCard_153 : decode cX0_playCard 153 = .ok (.iload 4, 2) := by decide +kernel
theorem dX0_playCard_155 : decode cX0_playCard 155 = .ok (.getstatic 106, 3) := by decide +kernel
theorem dX0_playCard_158 : decode cX0_playCard 158 = .ok (.iload_n 2, 1) := by decide +kernel
theorem dX0_playCard_159 : decode cX0_playCard 159 = .ok (.iaload, 1) := by decide +kernel
theorem dX0_playCard_160 : decode cX0_playCard 160 = .ok (.if_icmp .ge 13, 3) := by decide +kernel
theorem dX0_playCard_163 : decode cX0_playCard 163 = .ok (.aload_n 0, 1) := by decide +kernel
theorem dX0_playCard_164 : decode cX0_playCard 164 = .ok (.invokevirtual 109, 3) := by decide +kernel
theorem dX0_playCard_167 : decode cX0_playCard 167 = .ok (.iinc 4 1, 3) := by decide +kernel
theorem dX0_playCard_170 : decode cX0_playCard 170 = .ok (.goto (-17), 3) := by decide +kernel
theorem dX0_playCard_173 : decode cX0_playCard 173 = .ok (.aload_n 0, 1) := by decide +kernel
theorem dX0_playCard_174 : decode cX0_playCard 174 = .ok (.dup, 1) := by decide +kernel
theorem dX0_playCard_175 : decode cX0_playCard 175 = .ok (.getfield 46, 3) := by decide +kernel
theorem dX0_playCard_178 : decode cX0_playCard 178 = .ok (.getstatic 112, 3) := by decide +kernel
theorem dX0_playCard_181 : decode cX0_playCard 181 = .ok (.iload_n 2, 1) := by decide +kernel
theorem dX0_playCard_182 : decode cX0_playCard 182 = .ok (.iaload, 1) := by decide +kernel
theorem dX0_playCard_183 : decode cX0_playCard 183 = .ok (.iadd, 1) := by decide +kernel
theorem dX0_playCard_184 : decode cX0_playCard 184 = .ok (.putfield 46, 3) := by decide +kernel
theorem dX0_playCard_187 : decode cX0_playCard 187 = .ok (.iload_n 2, 1) := by decide +kernel
theorem dX0_playCard_188 : decode cX0_playCard 188 = .ok (.ireturn, 1) := by decide +kernel
theorem dX0_giveCurses_0 : decode cX0_giveCurses 0 = .ok (.aload_n 0, 1) := by decide +kernel
theorem dX0_giveCurses_1 : decode cX0_giveCurses 1 = .ok (.aload_n 0, 1) := by decide +kernel
theorem dX0_giveCurses_2 : decode cX0_giveCurses 2 = .ok (.getfield 34, 3) := by decide +kernel
theorem dX0_giveCurses_5 : decode cX0_giveCurses 5 = .ok (.invokevirtual 115, 3) := by decide +kernel
theorem dX0_giveCurses_8 : decode cX0_giveCurses 8 = .ok (.istore_n 1, 1) := by decide +kernel
theorem dX0_giveCurses_9 : decode cX0_giveCurses 9 = .ok (.iconst 1, 1) := by decide +kernel
theorem dX0_giveCurses_10 : decode cX0_giveCurses 10 = .ok (.istore_n 2, 1) := by decide +kernel
theorem dX0_giveCurses_11 : decode cX0_giveCurses 11 = .ok (.iload_n 2, 1) := by decide +kernel
theorem dX0_giveCurses_12 : decode cX0_giveCurses 12 = .ok (.aload_n 0, 1) := by decide +kernel
theorem dX0_giveCurses_13 : decode cX0_giveCurses 13 = .ok (.getfield 30, 3) := by decide +kernel
theorem dX0_giveCurses_16 : decode cX0_giveCurses 16 = .ok (.if_icmp .ge 21, 3) := by decide +kernel
theorem dX0_giveCurses_19 : decode cX0_giveCurses 19 = .ok (.aload_n 0, 1) := by decide +kernel
theorem dX0_giveCurses_20 : decode cX0_giveCurses 20 = .ok (.iload_n 1, 1) := by decide +kernel
theorem dX0_giveCurses_21 : decode cX0_giveCurses 21 = .ok (.iconst 5, 1) := by decide +kernel
theorem dX0_giveCurses_22 : decode cX0_giveCurses 22 = .ok (.invokevirtual 119, 3) := by decide +kernel
theorem dX0_giveCurses_25 : decode cX0_giveCurses 25 = .ok (.aload_n 0, 1) := by decide +kernel
theorem dX0_giveCurses_26 : decode cX0_giveCurses 26 = .ok (.iload_n 1, 1) := by decide +kernel
theorem dX0_giveCurses_27 : decode cX0_giveCurses 27 = .ok (.invokevirtual 115, 3) := by decide +kernel
theorem dX0_giveCurses_30 : decode cX0_giveCurses 30 = .ok (.istore_n 1, 1) := by decide +kernel
theorem dX0_giveCurses_31 : decode cX0_giveCurses 31 = .ok (.iinc 2 1, 3) := by decide +kernel
theorem dX0_giveCurses_34 : decode cX0_giveCurses 34 = .ok (.goto (-23), 3) := by decide +kernel
theorem dX0_giveCurses_37 : decode cX0_giveCurses 37 = .ok (.return_, 1) := by decide +kernel
theorem dX0_buyCard_0 : decode cX0_buyCard 0 = .ok (.iload_n 1, 1) := by decide +kernel
theorem dX0_buyCard_1 : decode cX0_buyCard 1 = .ok (.ifCond .lt 9, 3) := by decide +kernel
theorem dX0_buyCard_4 : decode cX0_buyCard 4 = .ok (.iload_n 1, 1) := by decide +kernel
theorem dX0_buyCard_5 : decode cX0_buyCard 5 = .ok (.bipush 10, 2) := by decide +kernel
theorem dX0_buyCard_7 : decode cX0_buyCard 7 = .ok (.if_icmp .lt 6, 3) := by decide +kernel
theorem dX0_buyCard_10 : decode cX0_buyCard 10 = .ok (.ldc 62, 2) := by decide +kernel
theorem dX0_buyCard_12 : decode cX0_buyCard 12 = .ok (.ireturn, 1) := by decide +kernel
theorem dX0_buyCard_13 : decode cX0_buyCard 13 = .ok (.aload_n 0, 1) := by decide +kernel
theorem dX0_buyCard_14 : decode cX0_buyCard 14 = .ok (.iload_n 1, 1) := by decide +kernel
theorem dX0_buyCard_15 : decode cX0_buyCard 15 = .ok (.invokevirtual 122, 3) := by decide +kernel
theorem dX0_buyCard_18 : decode cX0_buyCard 18 = .ok (.ifCond .eq 6, 3) := by decide +kernel
theorem dX0_buyCard_21 : decode cX0_buyCard 21 = .ok (.ldc 89, 2) := by decide +kernel
theorem dX0_buyCard_23 : decode cX0_buyCard 23 = .ok (.ireturn, 1) := by decide +kernel
theorem dX0_buyCard_24 : decode cX0_buyCard 24 = .ok (.aload_n 0, 1) := by decide +kernel
theorem dX0_buyCard_25 : decode cX0_buyCard 25 = .ok (.dup, 1) := by decide +kernel
theorem dX0_buyCard_26 : decode cX0_buyCard 26 = .ok (.getfield 37, 3) := by decide +kernel
theorem dX0_buyCard_29 : decode cX0_buyCard 29 = .ok (.getstatic 125, 3) := by decide +kernel
theorem dX0_buyCard_32 : decode cX0_buyCard 32 = .ok (.iload_n 1, 1) := by decide +kernel
theorem dX0_buyCard_33 : decode cX0_buyCard 33 = .ok (.iaload, 1) := by decide +kernel
theorem dX0_buyCard_34 : decode cX0_buyCard 34 = .ok (.isub, 1) := by decide +kernel
theorem dX0_buyCard_35 : decode cX0_buyCard 35 = .ok (.putfield 37, 3) := by decide +kernel
theorem dX0_buyCard_38 : decode cX0_buyCard 38 = .ok (.aload_n 0, 1) := by decide +kernel
theorem dX0_buyCard_39 : decode cX0_buyCard 39 = .ok (.dup, 1) := by decide +kernel
theorem dX0_buyCard_40 : decode cX0_buyCard 40 = .ok (.getfield 40, 3) := by decide +kernel
theorem dX0_buyCard_43 : decode cX0_buyCard 43 = .ok (.iconst 1, 1) := by decide +kernel
theorem dX0_buyCard_44 : decode cX0_buyCard 44 = .ok (.isub, 1) := by decide +kernel
theorem dX0_buyCard_45 : decode cX0_buyCard 45 = .ok (.putfield 40, 3) := by decide +kernel
theorem dX0_buyCard_48 : decode cX0_buyCard 48 = .ok (.aload_n 0, 1) := by decide +kernel
theorem dX0_buyCard_49 : decode cX0_buyCard 49 = .ok (.aload_n 0, 1) := by decide +kernel
theorem dX0_buyCard_50 : decode cX0_buyCard 50 = .ok (.getfield 34, 3) := by decide +kernel
theorem dX0_buyCard_53 : decode cX0_buyCard 53 = .ok (.iload_n 1, 1) := by decide +kernel
theorem dX0_buyCard_54 : decode cX0_buyCard 54 = .ok (.invokevirtual 119, 3) := by decide +kernel
theorem dX0_buyCard_57 : decode cX0_buyCard 57 = .ok (.aload_n 0, 1) := by decide +kernel
theorem dX0_buyCard_58 : decode cX0_buyCard 58 = .ok (.getfield 18, 3) := by decide +kernel
theorem dX0_buyCard_61 : decode cX0_buyCard 61 = .ok (.iload_n 1, 1) := by decide +kernel
theorem dX0_buyCard_62 : decode cX0_buyCard 62 = .ok (.iaload, 1) := by decide +kernel
theorem dX0_buyCard_63 : decode cX0_buyCard 63 = .ok (.ireturn, 1) := by decide +kernel
theorem dX0_scrapCard_0 : decode cX0_scrapCard 0 = .ok (.aload_n 0, 1) := by decide +kernel
theorem dX0_scrapCard_1 : decode cX0_scrapCard 1 = .ok (.aload_n 0, 1) := by decide +kernel
theorem dX0_scrapCard_2 : decode cX0_scrapCard 2 = .ok (.getfield 34, 3) := by decide +kernel
theorem dX0_scrapCard_5 : decode cX0_scrapCard 5 = .ok (.iconst 2, 1) := by decide +kernel
theorem dX0_scrapCard_6 : decode cX0_scrapCard 6 = .ok (.iload_n 1, 1) := by decide +kernel
theorem dX0_scrapCard_7 : decode cX0_scrapCard 7 = .ok (.invokevirtual 85, 3) := by decide +kernel
theorem dX0_scrapCard_10 : decode cX0_scrapCard 10 = .ok (.istore_n 2, 1) := by decide +kernel
theorem dX0_scrapCard_11 : decode cX0_scrapCard 11 = .ok (.iload_n 2, 1) := by decide +kernel
theorem dX0_scrapCard_12 : decode cX0_scrapCard 12 = .ok (.ifCond .ge 6, 3) := by decide +kernel
theorem dX0_scrapCard_15 : decode cX0_scrapCard 15 = .ok (.ldc 62, 2) := by decide +kernel
theorem dX0_scrapCard_17 : decode cX0_scrapCard 17 = .ok (.ireturn, 1) := by decide +kernel
theorem dX0_scrapCard_18 : decode cX0_scrapCard 18 = .ok (.aload_n 0, 1) := by decide +kernel
theorem dX0_scrapCard_19 : decode cX0_scrapCard 19 = .ok (.getfield 58, 3) := by decide +kernel
theorem dX0_scrapCard_22 : decode cX0_scrapCard 22 = .ok (.ifCond .ne 10, 3) := by decide +kernel
theorem dX0_scrapCard_25 : decode cX0_scrapCard 25 = .ok (.aload_n 0, 1) := by decide +kernel
theorem dX0_scrapCard_26 : decode cX0_scrapCard 26 = .ok (.getfield 46, 3) := by decide +kernel
theorem dX0_scrapCard_29 : decode cX0_scrapCard 29 = .ok (.ifCond .gt 6, 3) := by decide +kernel
theorem dX0_scrapCard_32 : decode cX0_scrapCard 32 = .ok (.ldc 89, 2) := by decide +kernel
theorem dX0_scrapCard_34 : decode cX0_scrapCard 34 = .ok (.ireturn, 1) := by decide +kernel
theorem dX0_scrapCard_35 : decode cX0_scrapCard 35 = .ok (.aload_n 0, 1) := by decide +kernel
theorem dX0_scrapCard_36 : decode cX0_scrapCard 36 = .ok (.dup, 1) := by decide +kernel
theorem dX0_scrapCard_37 : decode cX0_scrapCard 37 = .ok (.getfield 46, 3) := by decide +kernel
theorem dX0_scrapCard_40 : decode cX0_scrapCard 40 = .ok (.iconst 1, 1) := by decide +kernel
theorem dX0_scrapCard_41 : decode cX0_scrapCard 41 = .ok (.isub, 1) := by decide +kernel
theorem dX0_scrapCard_42 : decode cX0_scrapCard 42 = .ok (.putfield 46, 3) := by decide +kernel
theorem dX0_scrapCard_45 : decode cX0_scrapCard 45 = .ok (.aload_n 0, 1) := by decide +kernel
theorem dX0_scrapCard_46 : decode cX0_scrapCard 46 = .ok (.getfield 21, 3) := by decide +kernel
theorem dX0_scrapCard_49 : decode cX0_scrapCard 49 = .ok (.iload_n 2, 1) := by decide +kernel
theorem dX0_scrapCard_50 : decode cX0_scrapCard 50 = .ok (.dup2, 1) := by decide +kernel
theorem dX0_scrapCard_51 : decode cX0_scrapCard 51 = .ok (.iaload, 1) := by decide +kernel
theorem dX0_scrapCard_52 : decode cX0_scrapCard 52 = .ok (.iconst 1, 1) := by decide +kernel
theorem dX0_scrapCard_53 : decode cX0_scrapCard 53 = .ok (.iadd, 1) := by decide +kernel
theorem dX0_scrapCard_54 : decode cX0_scrapCard 54 = .ok (.iastore, 1) := by decide +kernel
theorem dX0_scrapCard_55 : decode cX0_scrapCard 55 = .ok (.aload_n 0, 1) := by decide +kernel
theorem dX0_scrapCard_56 : decode cX0_scrapCard 56 = .ok (.getfield 15, 3) := by decide +kernel
theorem dX0_scrapCard_59 : decode cX0_scrapCard 59 = .ok (.aload_n 0, 1) := by decide +kernel
theorem dX0_scrapCard_60 : decode cX0_scrapCard 60 = .ok (.getfield 34, 3) := by decide +kernel
theorem dX0_scrapCard_63 : decode cX0_scrapCard 63 = .ok (.iconst 4, 1) := by decide +kernel
theorem dX0_scrapCard_64 : decode cX0_scrapCard 64 = .ok (.imul, 1) := by decide +kernel
theorem dX0_scrapCard_65 : decode cX0_scrapCard 65 = .ok (.iconst 2, 1) := by decide +kernel
theorem dX0_scrapCard_66 : decode cX0_scrapCard 66 = .ok (.iadd, 1) := by decide +kernel
theorem dX0_scrapCard_67 : decode cX0_scrapCard 67 = .ok (.iaload, 1) := by decide +kernel
theorem dX0_scrapCard_68 : decode cX0_scrapCard 68 = .ok (.iload_n 1, 1) := by decide +kernel
theorem dX0_scrapCard_69 : decode cX0_scrapCard 69 = .ok (.iadd, 1) := by decide +kernel
theorem dX0_scrapCard_70 : decode cX0_scrapCard 70 = .ok (.istore_n 3, 1) := by decide +kernel
theorem dX0_scrapCard_71 : decode cX0_scrapCard 71 = .ok (.aload_n 0, 1) := by decide +kernel
theorem dX0_scrapCard_72 : decode cX0_scrapCard 72 = .ok (.getfield 9, 3) := by decide +kernel
theorem dX0_scrapCard_75 : decode cX0_scrapCard 75 = .ok (.iload_n 3, 1) := by decide +kernel
theorem dX0_scrapCard_76 : decode cX0_scrapCard 76 = .ok (.iconst 1, 1) := by decide +kernel
theorem dX0_scrapCard_77 : decode cX0_scrapCard 77 = .ok (.iadd, 1) := by decide +kernel
theorem dX0_scrapCard_78 : decode cX0_scrapCard 78 = .ok (.aload_n 0, 1) := by decide +kernel
theorem dX0_scrapCard_79 : decode cX0_scrapCard 79 = .ok (.getfield 9, 3) := by decide +kernel
theorem dX0_scrapCard_82 : decode cX0_scrapCard 82 = .ok (.iload_n 3, 1) := by decide +kernel
theorem dX0_scrapCard_83 : decode cX0_scrapCard 83 = .ok (.aload_n 0, 1) := by decide +kernel
theorem dX0_scrapCard_84 : decode cX0_scrapCard 84 = .ok (.getfield 15, 3) := by decide +kernel
theorem dX0_scrapCard_87 : decode cX0_scrapCard 87 = .ok (.bipush 16, 2) := by decide +kernel
theorem dX0_scrapCard_89 : decode cX0_scrapCard 89 = .ok (.iaload, 1) := by decide +kernel
theorem dX0_scrapCard_90 : decode cX0_scrapCard 90 = .ok (.iload_n 3, 1) := by decide +kernel
theorem dX0_scrapCard_91 : decode cX0_scrapCard 91 = .ok (.isub, 1) := by decide +kernel
theorem dX0_scrapCard_92 : decode cX0_scrapCard 92 = .ok (.iconst 1, 1) := by decide +kernel
theorem dX0_scrapCard_93 : decode cX0_scrapCard 93 = .ok (.isub, 1) := by decide +kernel
theorem dX0_scrapCard_94 : decode cX0_scrapCard 94 = .ok (.invokestatic 24, 3) := by decide +kernel
theorem dX0_scrapCard_97 : decode cX0_scrapCard 97 = .ok (.aload_n 0, 1) := by decide +kernel
theorem dX0_scrapCard_98 : decode cX0_scrapCard 98 = .ok (.getfield 34, 3) := by decide +kernel
theorem dX0_scrapCard_101 : decode cX0_scrapCard 101 = .ok (.iconst 4, 1) := by decide +kernel
theorem dX0_scrapCard_102 : decode cX0_scrapCard 102 = .ok (.imul, 1) := by decide +kernel
theorem dX0_scrapCard_103 : decode cX0_scrapCard 103 = .ok (.iconst 3, 1) := by decide +kernel
theorem dX0_scrapCard_104 : decode cX0_scrapCard 104 = .ok (.iadd, 1) := by decide +kernel
theorem dX0_scrapCard_105 : decode cX0_scrapCard 105 = .ok (.istore 4, 2) := by decide +kernel
theorem dX0_scrapCard_107 : decode cX0_scrapCard 107 = .ok (.iload 4, 2) := by decide +kernel
theorem dX0_scrapCard_109 : decode cX0_scrapCard 109 = .ok (.bipush 16, 2) := by decide +kernel
theorem dX0_scrapCard_111 : decode cX0_scrapCard 111 = .ok (.if_icmp .gt 20, 3) := by decide +kernel
theorem dX0_scrapCard_114 : decode cX0_scrapCard 114 = .ok (.aload_n 0, 1) := by decide +kernel
theorem dX0_scrapCard_115 : decode cX0_scrapCard 115 = .ok (.getfield 15, 3) := by decide +kernel
theorem dX0_scrapCard_118 : decode cX0_scrapCard 118 = .ok (.iload 4, 2) := by decide +kernel
theorem dX0_scrapCard_120 : decode cX0_scrapCard 120 = .ok (.dup2, 1) := by decide +kernel
theorem dX0_scrapCard_121 : decode cX0_scrapCard 121 = .ok (.iaload, 1) := by decide +kernel
theorem dX0_scrapCard_122 : decode cX0_scrapCard 122 = .ok (.iconst 1, 1) := by decide +kernel
theorem dX0_scrapCard_123 : decode cX0_scrapCard 123 = .ok (.isub, 1) := by decide +kernel
theorem dX0_scrapCard_124 : decode cX0_scrapCard 124 = .ok (.iastore, 1) := by decide +kernel
theorem dX0_scrapCard_125 : decode cX0_scrapCard 125 = .ok (.iinc 4 1, 3) := by decide +kernel
theorem dX0_scrapCard_128 : decode cX0_scrapCard 128 = .ok (.goto (-21), 3) := by decide +kernel
theorem dX0_scrapCard_131 : decode cX0_scrapCard 131 = .ok (.iload_n 2, 1) := by decide +kernel
theorem dX0_scrapCard_132 : decode cX0_scrapCard 132 = .ok (.ireturn, 1) := by decide +kernel
theorem dX0_endTurn_0 : decode cX0_endTurn 0 = .ok (.aload_n 0, 1) := by decide +kernel
theorem dX0_endTurn_1 : decode cX0_endTurn 1 = .ok (.getfield 58, 3) := by decide +kernel
theorem dX0_endTurn_4 : decode cX0_endTurn 4 = .ok (.ifCond .eq 6, 3) := by decide +kernel
theorem dX0_endTurn_7 : decode cX0_endTurn 7 = .ok (.ldc 89, 2) := by decide +kernel
theorem dX0_endTurn_9 : decode cX0_endTurn 9 = .ok (.ireturn, 1) := by decide +kernel
theorem dX0_endTurn_10 : decode cX0_endTurn 10 = .ok (.aload_n 0, 1) := by decide +kernel
theorem dX0_endTurn_11 : decode cX0_endTurn 11 = .ok (.getfield 15, 3) := by decide +kernel
theorem dX0_endTurn_14 : decode cX0_endTurn 14 = .ok (.aload_n 0, 1) := by decide +kernel
theorem dX0_endTurn_15 : decode cX0_endTurn 15 = .ok (.getfield 34, 3) := by decide +kernel
theorem dX0_endTurn_18 : decode cX0_endTurn 18 = .ok (.iconst 4, 1) := by decide +kernel
theorem dX0_endTurn_19 : decode cX0_endTurn 19 = .ok (.imul, 1) := by decide +kernel
theorem dX0_endTurn_20 : decode cX0_endTurn 20 = .ok (.iconst 4, 1) := by decide +kernel
theorem dX0_endTurn_21 : decode cX0_endTurn 21 = .ok (.iadd, 1) := by decide +kernel
theorem dX0_endTurn_22 : decode cX0_endTurn 22 = .ok (.iaload, 1) := by decide +kernel
theorem dX0_endTurn_23 : decode cX0_endTurn 23 = .ok (.istore_n 1, 1) := by decide +kernel
theorem dX0_endTurn_24 : decode cX0_endTurn 24 = .ok (.aload_n 0, 1) := by decide +kernel
theorem dX0_endTurn_25 : decode cX0_endTurn 25 = .ok (.getfield 15, 3) := by decide +kernel
theorem dX0_endTurn_28 : decode cX0_endTurn 28 = .ok (.aload_n 0, 1) := by decide +kernel
theorem dX0_endTurn_29 : decode cX0_endTurn 29 = .ok (.getfield 34, 3) := by decide +kernel
theorem dX0_endTurn_32 : decode cX0_endTurn 32 = .ok (.iconst 4, 1) := by decide +kernel
theorem dX0_endTurn_33 : decode cX0_endTurn 33 = .ok (.imul, 1) := by decide +kernel
theorem dX0_endTurn_34 : decode cX0_endTurn 34 = .ok (.iconst 2, 1) := by decide +kernel
theorem dX0_endTurn_35 : decode cX0_endTurn 35 = .ok (.iadd, 1) := by decide +kernel
theorem dX0_endTurn_36 : decode cX0_endTurn 36 = .ok (.iload_n 1, 1) := by decide +kernel
theorem dX0_endTurn_37 : decode cX0_endTurn 37 = .ok (.iastore, 1) := by decide +kernel
theorem dX0_endTurn_38 : decode cX0_endTurn 38 = .ok (.aload_n 0, 1) := by decide +kernel
theorem dX0_endTurn_39 : decode cX0_endTurn 39 = .ok (.getfield 15, 3) := by decide +kernel
theorem dX0_endTurn_42 : decode cX0_endTurn 42 = .ok (.aload_n 0, 1) := by decide +kernel
theorem dX0_endTurn_43 : decode cX0_endTurn 43 = .ok (.getfield 34, 3) := by decide +kernel
theorem dX0_endTurn_46 : decode cX0_endTurn 46 = .ok (.iconst 4, 1) := by decide +kernel
theorem dX0_endTurn_47 : decode cX0_endTurn 47 = .ok (.imul, 1) := by decide +kernel
theorem dX0_endTurn_48 : decode cX0_endTurn 48 = .ok (.iconst 3, 1) := by decide +kernel
theorem dX0_endTurn_49 : decode cX0_endTurn 49 = .ok (.iadd, 1) := by decide +kernel
theorem dX0_endTurn_50 : decode cX0_endTurn 50 = .ok (.iload_n 1, 1) := by decide +kernel
theorem dX0_endTurn_51 : decode cX0_endTurn 51 = .ok (.iastore, 1) := by decide +kernel
theorem dX0_endTurn_52 : decode cX0_endTurn 52 = .ok (.aload_n 0, 1) := by decide +kernel
theorem dX0_endTurn_53 : decode cX0_endTurn 53 = .ok (.aload_n 0, 1) := by decide +kernel
theorem dX0_endTurn_54 : decode cX0_endTurn 54 = .ok (.getfield 34, 3) := by decide +kernel
theorem dX0_endTurn_57 : decode cX0_endTurn 57 = .ok (.iconst 5, 1) := by decide +kernel
theorem dX0_endTurn_58 : decode cX0_endTurn 58 = .ok (.invokevirtual 75, 3) := by decide +kernel
theorem dX0_endTurn_61 : decode cX0_endTurn 61 = .ok (.aload_n 0, 1) := by decide +kernel
theorem dX0_endTurn_62 : decode cX0_endTurn 62 = .ok (.aload_n 0, 1) := by decide +kernel
theorem dX0_endTurn_63 : decode cX0_endTurn 63 = .ok (.getfield 49, 3) := by decide +kernel
theorem dX0_endTurn_66 : decode cX0_endTurn 66 = .ok (.aload_n 0, 1) := by decide +kernel
theorem dX0_endTurn_67 : decode cX0_endTurn 67 = .ok (.getfield 52, 3) := by decide +kernel
theorem dX0_endTurn_70 : decode cX0_endTurn 70 = .ok (.iadd, 1) := by decide +kernel
theorem dX0_endTurn_71 : decode cX0_endTurn 71 = .ok (.bipush 10, 2) := by decide +kernel
theorem dX0_endTurn_73 : decode cX0_endTurn 73 = .ok (.irem, 1) := by decide +kernel
theorem dX0_endTurn_74 : decode cX0_endTurn 74 = .ok (.putfield 49, 3) := by decide +kernel
theorem dX0_endTurn_77 : decode cX0_endTurn 77 = .ok (.aload_n 0, 1) := by decide +kernel
theorem dX0_endTurn_78 : decode cX0_endTurn 78 = .ok (.aload_n 0, 1) := by decide +kernel
theorem dX0_endTurn_79 : decode cX0_endTurn 79 = .ok (.aload_n 0, 1) := by decide +kernel
theorem dX0_endTurn_80 : decode cX0_endTurn 80 = .ok (.getfield 34, 3) := by decide +kernel
theorem dX0_endTurn_83 : decode cX0_endTurn 83 = .ok (.invokevirtual 115, 3) := by decide +kernel
theorem dX0_endTurn_86 : decode cX0_endTurn 86 = .ok (.putfield 34, 3) := by decide +kernel
theorem dX0_endTurn_89 : decode cX0_endTurn 89 = .ok (.aload_n 0, 1) := by decide +kernel
theorem dX0_endTurn_90 : decode cX0_endTurn 90 = .ok (.invokevirtual 79, 3) := by decide +kernel
theorem dX0_endTurn_93 : decode cX0_endTurn 93 = .ok (.aload_n 0, 1) := by decide +kernel
theorem dX0_endTurn_94 : decode cX0_endTurn 94 = .ok (.dup, 1) := by decide +kernel
theorem dX0_endTurn_95 : decode cX0_endTurn 95 = .ok (.getfield 55, 3) := by decide +kernel
theorem dX0_endTurn_98 : decode cX0_endTurn 98 = .ok (.iconst 1, 1) := by decide +kernel
theorem dX0_endTurn_99 : decode cX0_endTurn 99 = .ok (.iadd, 1) := by decide +kernel
theorem dX0_endTurn_100 : decode cX0_endTurn 100 = .ok (.putfield 55, 3) := by decide +kernel
theorem dX0_endTurn_103 : decode cX0_endTurn 103 = .ok (.aload_n 0, 1) := by decide +kernel
theorem dX0_endTurn_104 : decode cX0_endTurn 104 = .ok (.aload_n 0, 1) := by decide +kernel
theorem dX0_endTurn_105 : decode cX0_endTurn 105 = .ok (.getfield 18, 3) := by decide +kernel
theorem dX0_endTurn_108 : decode cX0_endTurn 108 = .ok (.iconst 4, 1) := by decide +kernel
theorem dX0_endTurn_109 : decode cX0_endTurn 109 = .ok (.iaload, 1) := by decide +kernel
theorem dX0_endTurn_110 : decode cX0_endTurn 110 = .ok (.ifCond .le 11, 3) := by decide +kernel
theorem dX0_endTurn_113 : decode cX0_endTurn 113 = .ok (.aload_n 0, 1) := by decide +kernel
theorem dX0_endTurn_114 : decode cX0_endTurn 114 = .ok (.invokevirtual 128, 3) := by decide +kernel
theorem dX0_endTurn_117 : decode cX0_endTurn 117 = .ok (.iconst 3, 1) := by decide +kernel
theorem dX0_endTurn_118 : decode cX0_endTurn 118 = .ok (.if_icmp .lt 7, 3) := by decide +kernel
theorem dX0_endTurn_121 : decode cX0_endTurn 121 = .ok (.iconst 1, 1) := by decide +kernel
theorem dX0_endTurn_122 : decode cX0_endTurn 122 = .ok (.goto 4, 3) := by decide +kernel
theorem dX0_endTurn_125 : decode cX0_endTurn 125 = .ok (.iconst 0, 1) := by decide +kernel
theorem dX0_endTurn_126 : decode cX0_endTurn 126 = .ok (.putfield 58, 3) := by decide +kernel
theorem dX0_endTurn_129 : decode cX0_endTurn 129 = .ok (.aload_n 0, 1) := by decide +kernel
theorem dX0_endTurn_130 : decode cX0_endTurn 130 = .ok (.getfield 34, 3) := by decide +kernel
theorem dX0_endTurn_133 : decode cX0_endTurn 133 = .ok (.ireturn, 1) := by decide +kernel
theorem dX0_goOnAlike_0 : decode cX0_goOnAlike 0 = .ok (.iconst 0, 1) := by decide +kernel
theorem dX0_goOnAlike_1 : decode cX0_goOnAlike 1 = .ok (.istore_n 2, 1) := by decide +kernel
theorem dX0_goOnAlike_2 : decode cX0_goOnAlike 2 = .ok (.iload_n 2, 1) := by decide +kernel
theorem dX0_goOnAlike_3 : decode cX0_goOnAlike 3 = .ok (.iload_n 1, 1) := by decide +kernel
theorem dX0_goOnAlike_4 : decode cX0_goOnAlike 4 = .ok (.if_icmp .ge 20, 3) := by decide +kernel
theorem dX0_goOnAlike_7 : decode cX0_goOnAlike 7 = .ok (.aload_n 0, 1) := by decide +kernel
theorem dX0_goOnAlike_8 : decode cX0_goOnAlike 8 = .ok (.getfield 58, 3) := by decide +kernel
theorem dX0_goOnAlike_11 : decode cX0_goOnAlike 11 = .ok (.ifCond .ne 13, 3) := by decide +kernel
theorem dX0_goOnAlike_14 : decode cX0_goOnAlike 14 = .ok (.aload_n 0, 1) := by decide +kernel
theorem dX0_goOnAlike_15 : decode cX0_goOnAlike 15 = .ok (.invokevirtual 132, 3) := by decide +kernel
theorem dX0_goOnAlike_18 : decode cX0_goOnAlike 18 = .ok (.iinc 2 1, 3) := by decide +kernel
theorem dX0_goOnAlike_21 : decode cX0_goOnAlike 21 = .ok (.goto (-19), 3) := by decide +kernel
theorem dX0_goOnAlike_24 : decode cX0_goOnAlike 24 = .ok (.iload_n 2, 1) := by decide +kernel
theorem dX0_goOnAlike_25 : decode cX0_goOnAlike 25 = .ok (.ireturn, 1) := by decide +kernel
theorem dX0_playTurnAlike_0 : decode cX0_playTurnAlike 0 = .ok (.iconst 0, 1) := by decide +kernel
theorem dX0_playTurnAlike_1 : decode cX0_playTurnAlike 1 = .ok (.istore_n 1, 1) := by decide +kernel
theorem dX0_playTurnAlike_2 : decode cX0_playTurnAlike 2 = .ok (.iload_n 1, 1) := by decide +kernel
theorem dX0_playTurnAlike_3 : decode cX0_playTurnAlike 3 = .ok (.sipush 164, 3) := by decide +kernel
theorem dX0_playTurnAlike_6 : decode cX0_playTurnAlike 6 = .ok (.if_icmp .ge 42, 3) := by decide +kernel
theorem dX0_playTurnAlike_9 : decode cX0_playTurnAlike 9 = .ok (.aload_n 0, 1) := by decide +kernel
theorem dX0_playTurnAlike_10 : decode cX0_playTurnAlike 10 = .ok (.getfield 43, 3) := by decide +kernel
theorem dX0_playTurnAlike_13 : decode cX0_playTurnAlike 13 = .ok (.ifCond .le 14, 3) := by decide +kernel
theorem dX0_playTurnAlike_16 : decode cX0_playTurnAlike 16 = .ok (.aload_n 0, 1) := by decide +kernel
theorem dX0_playTurnAlike_17 : decode cX0_playTurnAlike 17 = .ok (.bipush 6, 2) := by decide +kernel
theorem dX0_playTurnAlike_19 : decode cX0_playTurnAlike 19 = .ok (.bipush 9, 2) := by decide +kernel
theorem dX0_playTurnAlike_21 : decode cX0_playTurnAlike 21 = .ok (.invokevirtual 135, 3) := by decide +kernel
theorem dX0_playTurnAlike_24 : decode cX0_playTurnAlike 24 = .ok (.goto 4, 3) := by decide +kernel
theorem dX0_playTurnAlike_27 : decode cX0_playTurnAlike 27 = .ok (.iconst (-1), 1) := by decide +kernel
theorem dX0_playTurnAlike_28 : decode cX0_playTurnAlike 28 = .ok (.istore_n 2, 1) := by decide +kernel
theorem dX0_playTurnAlike_29 : decode cX0_playTurnAlike 29 = .ok (.iload_n 2, 1) := by decide +kernel
theorem dX0_playTurnAlike_30 : decode cX0_playTurnAlike 30 = .ok (.ifCond .ge 6, 3) := by decide +kernel
theorem dX0_playTurnAlike_33 : decode cX0_playTurnAlike 33 = .ok (.goto 15, 3) := by decide +kernel
theorem dX0_playTurnAlike_36 : decode cX0_playTurnAlike 36 = .ok (.aload_n 0, 1) := by decide +kernel
theorem dX0_playTurnAlike_37 : decode cX0_playTurnAlike 37 = .ok (.iload_n 2, 1) := by decide +kernel
theorem dX0_playTurnAlike_38 : decode cX0_playTurnAlike 38 = .ok (.invokevirtual 139, 3) := by decide +kernel
theorem dX0_playTurnAlike_41 : decode cX0_playTurnAlike 41 = .ok (.pop, 1) := by decide +kernel
theorem dX0_playTurnAlike_42 : decode cX0_playTurnAlike 42 = .ok (.iinc 1 1, 3) := by decide +kernel
theorem dX0_playTurnAlike_45 : decode cX0_playTurnAlike 45 = .ok (.goto (-43), 3) := by decide +kernel
theorem dX0_playTurnAlike_48 : decode cX0_playTurnAlike 48 = .ok (.iconst 0, 1) := by decide +kernel
theorem dX0_playTurnAlike_49 : decode cX0_playTurnAlike 49 = .ok (.istore_n 1, 1) := by decide +kernel
theorem dX0_playTurnAlike_50 : decode cX0_playTurnAlike 50 = .ok (.iload_n 1, 1) := by decide +kernel
theorem dX0_playTurnAlike_51 : decode cX0_playTurnAlike 51 = .ok (.sipush 164, 3) := by decide +kernel
theorem dX0_playTurnAlike_54 : decode cX0_playTurnAlike 54 = .ok (.if_icmp .ge 29, 3) := by decide +kernel
theorem dX0_playTurnAlike_57 : decode cX0_playTurnAlike 57 = .ok (.aload_n 0, 1) := by decide +kernel
theorem dX0_playTurnAlike_58 : decode cX0_playTurnAlike 58 = .ok (.iconst 0, 1) := by decide +kernel
theorem dX0_playTurnAlike_59 : decode cX0_playTurnAlike 59 = .ok (.iconst 2, 1) := by decide +kernel
theorem dX0_playTurnAlike_60 : decode cX0_playTurnAlike 60 = .ok (.invokevirtual 135, 3) := by decide +kernel
theorem dX0_playTurnAlike_63 : decode cX0_playTurnAlike 63 = .ok (.istore_n 2, 1) := by decide +kernel
theorem dX0_playTurnAlike_64 : decode cX0_playTurnAlike 64 = .ok (.iload_n 2, 1) := by decide +kernel
theorem dX0_playTurnAlike_65 : decode cX0_playTurnAlike 65 = .ok (.ifCond .ge 6, 3) := by decide +kernel
theorem dX0_playTurnAlike_68 : decode cX0_playTurnAlike 68 = .ok (.goto 15, 3) := by decide +kernel
theorem dX0_playTurnAlike_71 : decode cX0_playTurnAlike 71 = .ok (.aload_n 0, 1) := by decide +kernel
theorem dX0_playTurnAlike_72 : decode cX0_playTurnAlike 72 = .ok (.iload_n 2, 1) := by decide +kernel
theorem dX0_playTurnAlike_73 : decode cX0_playTurnAlike 73 = .ok (.invokevirtual 139, 3) := by decide +kernel
theorem dX0_playTurnAlike_76 : decode cX0_playTurnAlike 76 = .ok (.pop, 1) := by decide +kernel
theorem dX0_playTurnAlike_77 : decode cX0_playTurnAlike 77 = .ok (.iinc 1 1, 3) := by decide +kernel
theorem dX0_playTurnAlike_80 : decode cX0_playTurnAlike 80 = .ok (.goto (-30), 3) := by decide +kernel
theorem dX0_playTurnAlike_83 : decode cX0_playTurnAlike 83 = .ok (.iconst 0, 1) := by decide +kernel
theorem dX0_playTurnAlike_84 : decode cX0_playTurnAlike 84 = .ok (.istore_n 1, 1) := by decide +kernel
theorem dX0_playTurnAlike_85 : decode cX0_playTurnAlike 85 = .ok (.iload_n 1, 1) := by decide +kernel
theorem dX0_playTurnAlike_86 : decode cX0_playTurnAlike 86 = .ok (.sipush 164, 3) := by decide +kernel
theorem dX0_playTurnAlike_89 : decode cX0_playTurnAlike 89 = .ok (.if_icmp .ge 27, 3) := by decide +kernel
theorem dX0_playTurnAlike_92 : decode cX0_playTurnAlike 92 = .ok (.aload_n 0, 1) := by decide +kernel
theorem dX0_playTurnAlike_93 : decode cX0_playTurnAlike 93 = .ok (.invokevirtual 142, 3) := by decide +kernel
theorem dX0_playTurnAlike_96 : decode cX0_playTurnAlike 96 = .ok (.istore_n 2, 1) := by decide +kernel
theorem dX0_playTurnAlike_97 : decode cX0_playTurnAlike 97 = .ok (.iload_n 2, 1) := by decide +kernel
theorem dX0_playTurnAlike_98 : decode cX0_playTurnAlike 98 = .ok (.ifCond .ge 6, 3) := by decide +kernel
theorem dX0_playTurnAlike_101 : decode cX0_playTurnAlike 101 = .ok (.goto 15, 3) := by decide +kernel
theorem dX0_playTurnAlike_104 : decode cX0_playTurnAlike 104 = .ok (.aload_n 0, 1) := by decide +kernel
theorem dX0_playTurnAlike_105 : decode cX0_playTurnAlike 105 = .ok (.iload_n 2, 1) := by decide +kernel
theorem dX0_playTurnAlike_106 : decode cX0_playTurnAlike 106 = .ok (.invokevirtual 145, 3) := by decide +kernel
theorem dX0_playTurnAlike_109 : decode cX0_playTurnAlike 109 = .ok (.pop, 1) := by decide +kernel
theorem dX0_playTurnAlike_110 : decode cX0_playTurnAlike 110 = .ok (.iinc 1 1, 3) := by decide +kernel
theorem dX0_playTurnAlike_113 : decode cX0_playTurnAlike 113 = .ok (.goto (-28), 3) := by decide +kernel
theorem dX0_playTurnAlike_116 : decode cX0_playTurnAlike 116 = .ok (.aload_n 0, 1) := by decide +kernel
theorem dX0_playTurnAlike_117 : decode cX0_playTurnAlike 117 = .ok (.invokevirtual 148, 3) := by decide +kernel
theorem dX0_playTurnAlike_120 : decode cX0_playTurnAlike 120 = .ok (.pop, 1) := by decide +kernel
theorem dX0_playTurnAlike_121 : decode cX0_playTurnAlike 121 = .ok (.return_, 1) := by decide +kernel
theorem dX0_firstInHand_0 : decode cX0_firstInHand 0 = .ok (.aload_n 0, 1) := by decide +kernel
theorem dX0_firstInHand_1 : decode cX0_firstInHand 1 = .ok (.getfield 15, 3) := by decide +kernel
theorem dX0_firstInHand_4 : decode cX0_firstInHand 4 = .ok (.aload_n 0, 1) := by decide +kernel
theorem dX0_firstInHand_5 : decode cX0_firstInHand 5 = .ok (.getfield 34, 3) := by decide +kernel
theorem dX0_firstInHand_8 : decode cX0_firstInHand 8 = .ok (.iconst 4, 1) := by decide +kernel
theorem dX0_firstInHand_9 : decode cX0_firstInHand 9 = .ok (.imul, 1) := by decide +kernel
theorem dX0_firstInHand_10 : decode cX0_firstInHand 10 = .ok (.iconst 2, 1) := by decide +kernel
theorem dX0_firstInHand_11 : decode cX0_firstInHand 11 = .ok (.iadd, 1) := by decide +kernel
theorem dX0_firstInHand_12 : decode cX0_firstInHand 12 = .ok (.iaload, 1) := by decide +kernel
theorem dX0_firstInHand_13 : decode cX0_firstInHand 13 = .ok (.istore_n 3, 1) := by decide +kernel
theorem dX0_firstInHand_14 : decode cX0_firstInHand 14 = .ok (.aload_n 0, 1) := by decide +kernel
theorem dX0_firstInHand_15 : decode cX0_firstInHand 15 = .ok (.getfield 15, 3) := by decide +kernel
theorem dX0_firstInHand_18 : decode cX0_firstInHand 18 = .ok (.aload_n 0, 1) := by decide +kernel
theorem dX0_firstInHand_19 : decode cX0_firstInHand 19 = .ok (.getfield 34, 3) := by decide +kernel
theorem dX0_firstInHand_22 : decode cX0_firstInHand 22 = .ok (.iconst 4, 1) := by decide +kernel
theorem dX0_firstInHand_23 : decode cX0_firstInHand 23 = .ok (.imul, 1) := by decide +kernel
theorem dX0_firstInHand_24 : decode cX0_firstInHand 24 = .ok (.iconst 3, 1) := by decide +kernel
theorem dX0_firstInHand_25 : decode cX0_firstInHand 25 = .ok (.iadd, 1) := by decide +kernel
theorem dX0_firstInHand_26 : decode cX0_firstInHand 26 = .ok (.iaload, 1) := by decide +kernel
theorem dX0_firstInHand_27 : decode cX0_firstInHand 27 = .ok (.istore 4, 2) := by decide +kernel
theorem dX0_firstInHand_29 : decode cX0_firstInHand 29 = .ok (.iload_n 3, 1) := by decide +kernel
theorem dX0_firstInHand_30 : decode cX0_firstInHand 30 = .ok (.istore 5, 2) := by decide +kernel
theorem dX0_firstInHand_32 : decode cX0_firstInHand 32 = .ok (.iload 5, 2) := by decide +kernel
theorem dX0_firstInHand_34 : decode cX0_firstInHand 34 = .ok (.iload 4, 2) := by decide +kernel
theorem dX0_firstInHand_36 : decode cX0_firstInHand 36 = .ok (.if_icmp .ge 36, 3) := by decide +kernel
theorem dX0_firstInHand_39 : decode cX0_firstInHand 39 = .ok (.aload_n 0, 1) := by decide +kernel
theorem dX0_firstInHand_40 : decode cX0_firstInHand 40 = .ok (.getfield 9, 3) := by decide +kernel
theorem dX0_firstInHand_43 : decode cX0_firstInHand 43 = .ok (.iload 5, 2) := by decide +kernel
theorem dX0_firstInHand_45 : decode cX0_firstInHand 45 = .ok (.iaload, 1) := by decide +kernel
theorem dX0_firstInHand_46 : decode cX0_firstInHand 46 = .ok (.iload_n 1, 1) := by decide +kernel
theorem dX0_firstInHand_47 : decode cX0_firstInHand 47 = .ok (.if_icmp .lt 19, 3) := by decide +kernel
theorem dX0_firstInHand_50 : decode cX0_firstInHand 50 = .ok (.aload_n 0, 1) := by decide +kernel
theorem dX0_firstInHand_51 : decode cX0_firstInHand 51 = .ok (.getfield 9, 3) := by decide +kernel
theorem dX0_firstInHand_54 : decode cX0_firstInHand 54 = .ok (.iload 5, 2) := by decide +kernel
theorem dX0_firstInHand_56 : decode cX0_firstInHand 56 = .ok (.iaload, 1) := by decide +kernel
theorem dX0_firstInHand_57 : decode cX0_firstInHand 57 = .ok (.iload_n 2, 1) := by decide +kernel
theorem dX0_firstInHand_58 : decode cX0_firstInHand 58 = .ok (.if_icmp .gt 8, 3) := by decide +kernel
theorem dX0_firstInHand_61 : decode cX0_firstInHand 61 = .ok (.iload 5, 2) := by decide +kernel
theorem dX0_firstInHand_63 : decode cX0_firstInHand 63 = .ok (.iload_n 3, 1) := by decide +kernel
theorem dX0_firstInHand_64 : decode cX0_firstInHand 64 = .ok (.isub, 1) := by decide +kernel
theorem dX0_firstInHand_65 : decode cX0_firstInHand 65 = .ok (.ireturn, 1) := by decide +kernel
theorem dX0_firstInHand_66 : decode cX0_firstInHand 66 = .ok (.iinc 5 1, 3) := by decide +kernel
theorem dX0_firstInHand_69 : decode cX0_firstInHand 69 = .ok (.goto (-37), 3) := by decide +kernel
theorem dX0_firstInHand_72 : decode cX0_firstInHand 72 = .ok (.iconst (-1), 1) := by decide +kernel
theorem dX0_firstInHand_73 : decode cX0_firstInHand 73 = .ok (.ireturn, 1) := by decide +kernel
theorem dX0_dearestToBuy_0 : decode cX0_dearestToBuy 0 = .ok (.iconst (-1), 1) := by decide +kernel
theorem dX0_dearestToBuy_1 : decode cX0_dearestToBuy 1 = .ok (.istore_n 1, 1) := by decide +kernel
theorem dX0_dearestToBuy_2 : decode cX0_dearestToBuy 2 = .ok (.iconst 1, 1) := by decide +kernel
theorem dX0_dearestToBuy_3 : decode cX0_dearestToBuy 3 = .ok (.istore_n 2, 1) := by decide +kernel
theorem dX0_dearestToBuy_4 : decode cX0_dearestToBuy 4 = .ok (.iconst 0, 1) := by decide +kernel
theorem dX0_dearestToBuy_5 : decode cX0_dearestToBuy 5 = .ok (.istore_n 3, 1) := by decide +kernel
theorem dX0_dearestToBuy_6 : decode cX0_dearestToBuy 6 = .ok (.iload_n 3, 1) := by decide +kernel
theorem dX0_dearestToBuy_7 : decode cX0_dearestToBuy 7 = .ok (.bipush 10, 2) := by decide +kernel
theorem dX0_dearestToBuy_9 : decode cX0_dearestToBuy 9 = .ok (.if_icmp .ge 34, 3) := by decide +kernel
theorem dX0_dearestToBuy_12 : decode cX0_dearestToBuy 12 = .ok (.getstatic 125, 3) := by decide +kernel
theorem dX0_dearestToBuy_15 : decode cX0_dearestToBuy 15 = .ok (.iload_n 3, 1) := by decide +kernel
theorem dX0_dearestToBuy_16 : decode cX0_dearestToBuy 16 = .ok (.iaload, 1) := by decide +kernel
theorem dX0_dearestToBuy_17 : decode cX0_dearestToBuy 17 = .ok (.iload_n 2, 1) := by decide +kernel
theorem dX0_dearestToBuy_18 : decode cX0_dearestToBuy 18 = .ok (.if_icmp .lt 19, 3) := by decide +kernel
theorem dX0_dearestToBuy_21 : decode cX0_dearestToBuy 21 = .ok (.aload_n 0, 1) := by decide +kernel
theorem dX0_dearestToBuy_22 : decode cX0_dearestToBuy 22 = .ok (.iload_n 3, 1) := by decide +kernel
theorem dX0_dearestToBuy_23 : decode cX0_dearestToBuy 23 = .ok (.invokevirtual 122, 3) := by decide +kernel
theorem dX0_dearestToBuy_26 : decode cX0_dearestToBuy 26 = .ok (.ifCond .ne 11, 3) := by decide +kernel
theorem dX0_dearestToBuy_29 : decode cX0_dearestToBuy 29 = .ok (.iload_n 3, 1) := by decide +kernel
theorem dX0_dearestToBuy_30 : decode cX0_dearestToBuy 30 = .ok (.istore_n 1, 1) := by decide +kernel
theorem dX0_dearestToBuy_31 : decode cX0_dearestToBuy 31 = .ok (.getstatic 125, 3) := by decide +kernel
theorem dX0_dearestToBuy_34 : decode cX0_dearestToBuy 34 = .ok (.iload_n 3, 1) := by decide +kernel
theorem dX0_dearestToBuy_35 : decode cX0_dearestToBuy 35 = .ok (.iaload, 1) := by decide +kernel
theorem dX0_dearestToBuy_36 : decode cX0_dearestToBuy 36 = .ok (.istore_n 2, 1) := by decide +kernel
theorem dX0_dearestToBuy_37 : decode cX0_dearestToBuy 37 = .ok (.iinc 3 1, 3) := by decide +kernel
theorem dX0_dearestToBuy_40 : decode cX0_dearestToBuy 40 = .ok (.goto (-34), 3) := by decide +kernel
theorem dX0_dearestToBuy_43 : decode cX0_dearestToBuy 43 = .ok (.iload_n 1, 1) := by decide +kernel
theorem dX0_dearestToBuy_44 : decode cX0_dearestToBuy 44 = .ok (.ireturn, 1) := by decide +kernel
theorem dX0_drawCards_0 : decode cX0_drawCards 0 = .ok (.iload_n 1, 1) := by decide +kernel
theorem dX0_drawCards_1 : decode cX0_drawCards 1 = .ok (.iconst 4, 1) := by decide +kernel
theorem dX0_drawCards_2 : decode cX0_drawCards 2 = .ok (.imul, 1) := by decide +kernel
theorem dX0_drawCards_3 : decode cX0_drawCards 3 = .ok (.iconst 0, 1) := by decide +kernel
theorem dX0_drawCards_4 : decode cX0_drawCards 4 = .ok (.iadd, 1) := by decide +kernel
theorem dX0_drawCards_5 : decode cX0_drawCards 5 = .ok (.istore_n 3, 1) := by decide +kernel
theorem dX0_drawCards_6 : decode cX0_drawCards 6 = .ok (.iconst 0, 1) := by decide +kernel
theorem dX0_drawCards_7 : decode cX0_drawCards 7 = .ok (.istore 4, 2) := by decide +kernel
theorem dX0_drawCards_9 : decode cX0_drawCards 9 = .ok (.iload 4, 2) := by decide +kernel
theorem dX0_drawCards_11 : decode cX0_drawCards 11 = .ok (.iload_n 2, 1) := by decide +kernel
theorem dX0_drawCards_12 : decode cX0_drawCards 12 = .ok (.if_icmp .ge 69, 3) := by decide +kernel
theorem dX0_drawCards_15 : decode cX0_drawCards 15 = .ok (.aload_n 0, 1) := by decide +kernel
theorem dX0_drawCards_16 : decode cX0_drawCards 16 = .ok (.getfield 15, 3) := by decide +kernel
theorem dX0_drawCards_19 : decode cX0_drawCards 19 = .ok (.iload_n 3, 1) := by decide +kernel
theorem dX0_drawCards_20 : decode cX0_drawCards 20 = .ok (.iaload, 1) := by decide +kernel
theorem dX0_drawCards_21 : decode cX0_drawCards 21 = .ok (.aload_n 0, 1) := by decide +kernel
theorem dX0_drawCards_22 : decode cX0_drawCards 22 = .ok (.getfield 15, 3) := by decide +kernel
theorem dX0_drawCards_25 : decode cX0_drawCards 25 = .ok (.iload_n 3, 1) := by decide +kernel
theorem dX0_drawCards_26 : decode cX0_drawCards 26 = .ok (.iconst 1, 1) := by decide +kernel
theorem dX0_drawCards_27 : decode cX0_drawCards 27 = .ok (.iadd, 1) := by decide +kernel
theorem dX0_drawCards_28 : decode cX0_drawCards 28 = .ok (.iaload, 1) := by decide +kernel
theorem dX0_drawCards_29 : decode cX0_drawCards 29 = .ok (.if_icmp .ne 19, 3) := by decide +kernel
theorem dX0_drawCards_32 : decode cX0_drawCards 32 = .ok (.aload_n 0, 1) := by decide +kernel
theorem dX0_drawCards_33 : decode cX0_drawCards 33 = .ok (.getfield 15, 3) := by decide +kernel
theorem dX0_drawCards_36 : decode cX0_drawCards 36 = .ok (.iload_n 3, 1) := by decide +kernel
theorem dX0_drawCards_37 : decode cX0_drawCards 37 = .ok (.iconst 1, 1) := by decide +kernel
theorem dX0_drawCards_38 : decode cX0_drawCards 38 = .ok (.iadd, 1) := by decide +kernel
theorem dX0_drawCards_39 : decode cX0_drawCards 39 = .ok (.aload_n 0, 1) := by decide +kernel
theorem dX0_drawCards_40 : decode cX0_drawCards 40 = .ok (.getfield 15, 3) := by decide +kernel
theorem dX0_drawCards_43 : decode cX0_drawCards 43 = .ok (.iload_n 3, 1) := by decide +kernel
theorem dX0_drawCards_44 : decode cX0_drawCards 44 = .ok (.iconst 2, 1) := by decide +kernel
theorem dX0_drawCards_45 : decode cX0_drawCards 45 = .ok (.iadd, 1) := by decide +kernel
theorem dX0_drawCards_46 : decode cX0_drawCards 46 = .ok (.iaload, 1) := by decide +kernel
theorem dX0_drawCards_47 : decode cX0_drawCards 47 = .ok (.iastore, 1) := by decide +kernel
theorem dX0_drawCards_48 : decode cX0_drawCards 48 = .ok (.aload_n 0, 1) := by decide +kernel
theorem dX0_drawCards_49 : decode cX0_drawCards 49 = .ok (.getfield 15, 3) := by decide +kernel
theorem dX0_drawCards_52 : decode cX0_drawCards 52 = .ok (.iload_n 3, 1) := by decide +kernel
theorem dX0_drawCards_53 : decode cX0_drawCards 53 = .ok (.iaload, 1) := by decide +kernel
theorem dX0_drawCards_54 : decode cX0_drawCards 54 = .ok (.aload_n 0, 1) := by decide +kernel
theorem dX0_drawCards_55 : decode cX0_drawCards 55 = .ok (.getfield 15, 3) := by decide +kernel
theorem dX0_drawCards_58 : decode cX0_drawCards 58 = .ok (.iload_n 3, 1) := by decide +kernel
theorem dX0_drawCards_59 : decode cX0_drawCards 59 = .ok (.iconst 1, 1) := by decide +kernel
theorem dX0_drawCards_60 : decode cX0_drawCards 60 = .ok (.iadd, 1) := by decide +kernel
theorem dX0_drawCards_61 : decode cX0_drawCards 61 = .ok (.iaload, 1) := by decide +kernel
theorem dX0_drawCards_62 : decode cX0_drawCards 62 = .ok (.if_icmp .ne 4, 3) := by decide +kernel
theorem dX0_drawCards_65 : decode cX0_drawCards 65 = .ok (.return_, 1) := by decide +kernel
theorem dX0_drawCards_66 : decode cX0_drawCards 66 = .ok (.aload_n 0, 1) := by decide +kernel
theorem dX0_drawCards_67 : decode cX0_drawCards 67 = .ok (.iload_n 3, 1) := by decide +kernel
theorem dX0_drawCards_68 : decode cX0_drawCards 68 = .ok (.iconst 0, 1) := by decide +kernel
theorem dX0_drawCards_69 : decode cX0_drawCards 69 = .ok (.iload_n 3, 1) := by decide +kernel
theorem dX0_drawCards_70 : decode cX0_drawCards 70 = .ok (.iconst 2, 1) := by decide +kernel
theorem dX0_drawCards_71 : decode cX0_drawCards 71 = .ok (.iadd, 1) := by decide +kernel
theorem dX0_drawCards_72 : decode cX0_drawCards 72 = .ok (.invokevirtual 90, 3) := by decide +kernel
theorem dX0_drawCards_75 : decode cX0_drawCards 75 = .ok (.iinc 4 1, 3) := by decide +kernel
theorem dX0_drawCards_78 : decode cX0_drawCards 78 = .ok (.goto (-69), 3) := by decide +kernel
theorem dX0_drawCards_81 : decode cX0_drawCards 81 = .ok (.return_, 1) := by decide +kernel
theorem dX0_moveToEnd_0 : decode cX0_moveToEnd 0 = .ok (.aload_n 0, 1) := by decide +kernel
theorem dX0_moveToEnd_1 : decode cX0_moveToEnd 1 = .ok (.getfield 15, 3) := by decide +kernel
theorem dX0_moveToEnd_4 : decode cX0_moveToEnd 4 = .ok (.iload_n 1, 1) := by decide +kernel
theorem dX0_moveToEnd_5 : decode cX0_moveToEnd 5 = .ok (.iaload, 1) := by decide +kernel
theorem dX0_moveToEnd_6 : decode cX0_moveToEnd 6 = .ok (.iload_n 2, 1) := by decide +kernel
theorem dX0_moveToEnd_7 : decode cX0_moveToEnd 7 = .ok (.iadd, 1) := by decide +kernel
theorem dX0_moveToEnd_8 : decode cX0_moveToEnd 8 = .ok (.istore 4, 2) := by decide +kernel
theorem dX0_moveToEnd_10 : decode cX0_moveToEnd 10 = .ok (.aload_n 0, 1) := by decide +kernel
theorem dX0_moveToEnd_11 : decode cX0_moveToEnd 11 = .ok (.getfield 15, 3) := by decide +kernel
theorem dX0_moveToEnd_14 : decode cX0_moveToEnd 14 = .ok (.iload_n 3, 1) := by decide +kernel
theorem dX0_moveToEnd_15 : decode cX0_moveToEnd 15 = .ok (.iconst 1, 1) := by decide +kernel
theorem dX0_moveToEnd_16 : decode cX0_moveToEnd 16 = .ok (.iadd, 1) := by decide +kernel
theorem dX0_moveToEnd_17 : decode cX0_moveToEnd 17 = .ok (.iaload, 1) := by decide +kernel
theorem dX0_moveToEnd_18 : decode cX0_moveToEnd 18 = .ok (.iconst 1, 1) := by decide +kernel
theorem dX0_moveToEnd_19 : decode cX0_moveToEnd 19 = .ok (.isub, 1) := by decide +kernel
theorem dX0_moveToEnd_20 : decode cX0_moveToEnd 20 = .ok (.istore 5, 2) := by decide +kernel
theorem dX0_moveToEnd_22 : decode cX0_moveToEnd 22 = .ok (.iload 4, 2) := by decide +kernel
theorem dX0_moveToEnd_24 : decode cX0_moveToEnd 24 = .ok (.aload_n 0, 1) := by decide +kernel
theorem dX0_moveToEnd_25 : decode cX0_moveToEnd 25 = .ok (.getfield 15, 3) := by decide +kernel
theorem dX0_moveToEnd_28 : decode cX0_moveToEnd 28 = .ok (.iload_n 1, 1) := by decide +kernel
theorem dX0_moveToEnd_29 : decode cX0_moveToEnd 29 = .ok (.iaload, 1) := by decide +kernel
theorem dX0_moveToEnd_30 : decode cX0_moveToEnd 30 = .ok (.if_icmp .lt 18, 3) := by decide +kernel
theorem dX0_moveToEnd_33 : decode cX0_moveToEnd 33 = .ok (.iload 4, 2) := by decide +kernel
theorem dX0_moveToEnd_35 : decode cX0_moveToEnd 35 = .ok (.iload 5, 2) := by decide +kernel
theorem dX0_moveToEnd_37 : decode cX0_moveToEnd 37 = .ok (.if_icmp .gt 11, 3) := by decide +kernel
theorem dX0_moveToEnd_40 : decode cX0_moveToEnd 40 = .ok (.iload 5, 2) := by decide +kernel
theorem dX0_moveToEnd_42 : decode cX0_moveToEnd 42 = .ok (.sipush 164, 3) := by decide +kernel
theorem dX0_moveToEnd_45 : decode cX0_moveToEnd 45 = .ok (.if_icmp .lt 4, 3) := by decide +kernel
theorem dX0_moveToEnd_48 : decode cX0_moveToEnd 48 = .ok (.return_, 1) := by decide +kernel
theorem dX0_moveToEnd_49 : decode cX0_moveToEnd 49 = .ok (.aload_n 0, 1) := by decide +kernel
theorem dX0_moveToEnd_50 : decode cX0_moveToEnd 50 = .ok (.getfield 9, 3) := by decide +kernel
theorem dX0_moveToEnd_53 : decode cX0_moveToEnd 53 = .ok (.iload 4, 2) := by decide +kernel
theorem dX0_moveToEnd_55 : decode cX0_moveToEnd 55 = .ok (.iaload, 1) := by decide +kernel
theorem dX0_moveToEnd_56 : decode cX0_moveToEnd 56 = .ok (.istore 6, 2) := by decide +kernel
theorem dX0_moveToEnd_58 : decode cX0_moveToEnd 58 = .ok (.aload_n 0, 1) := by decide +kernel
theorem dX0_moveToEnd_59 : decode cX0_moveToEnd 59 = .ok (.getfield 9, 3) := by decide +kernel
theorem dX0_moveToEnd_62 : decode cX0_moveToEnd 62 = .ok (.iload 4, 2) := by decide +kernel
theorem dX0_moveToEnd_64 : decode cX0_moveToEnd 64 = .ok (.iconst 1, 1) := by decide +kernel
theorem dX0_moveToEnd_65 : decode cX0_moveToEnd 65 = .ok (.iadd, 1) := by decide +kernel
theorem dX0_moveToEnd_66 : decode cX0_moveToEnd 66 = .ok (.aload_n 0, 1) := by decide +kernel
theorem dX0_moveToEnd_67 : decode cX0_moveToEnd 67 = .ok (.getfield 9, 3) := by decide +kernel
theorem dX0_moveToEnd_70 : decode cX0_moveToEnd 70 = .ok (.iload 4, 2) := by decide +kernel
theorem dX0_moveToEnd_72 : decode cX0_moveToEnd 72 = .ok (.iload 5, 2) := by decide +kernel
theorem dX0_moveToEnd_74 : decode cX0_moveToEnd 74 = .ok (.iload 4, 2) := by decide +kernel
theorem dX0_moveToEnd_76 : decode cX0_moveToEnd 76 = .ok (.isub, 1) := by decide +kernel
theorem dX0_moveToEnd_77 : decode cX0_moveToEnd 77 = .ok (.invokestatic 24, 3) := by decide +kernel
theorem dX0_moveToEnd_80 : decode cX0_moveToEnd 80 = .ok (.aload_n 0, 1) := by decide +kernel
theorem dX0_moveToEnd_81 : decode cX0_moveToEnd 81 = .ok (.getfield 9, 3) := by decide +kernel
theorem dX0_moveToEnd_84 : decode cX0_moveToEnd 84 = .ok (.iload 5, 2) := by decide +kernel
theorem dX0_moveToEnd_86 : decode cX0_moveToEnd 86 = .ok (.iload 6, 2) := by decide +kernel
theorem dX0_moveToEnd_88 : decode cX0_moveToEnd 88 = .ok (.iastore, 1) := by decide +kernel
theorem dX0_moveToEnd_89 : decode cX0_moveToEnd 89 = .ok (.iload_n 1, 1) := by decide +kernel
theorem dX0_moveToEnd_90 : decode cX0_moveToEnd 90 = .ok (.iconst 1, 1) := by decide +kernel
theorem dX0_moveToEnd_91 : decode cX0_moveToEnd 91 = .ok (.iadd, 1) := by decide +kernel
theorem dX0_moveToEnd_92 : decode cX0_moveToEnd 92 = .ok (.istore 7, 2) := by decide +kernel
theorem dX0_moveToEnd_94 : decode cX0_moveToEnd 94 = .ok (.iload 7, 2) := by decide +kernel
theorem dX0_moveToEnd_96 : decode cX0_moveToEnd 96 = .ok (.iload_n 3, 1) := by decide +kernel
theorem dX0_moveToEnd_97 : decode cX0_moveToEnd 97 = .ok (.if_icmp .gt 20, 3) := by decide +kernel
theorem dX0_moveToEnd_100 : decode cX0_moveToEnd 100 = .ok (.aload_n 0, 1) := by decide +kernel
theorem dX0_moveToEnd_101 : decode cX0_moveToEnd 101 = .ok (.getfield 15, 3) := by decide +kernel
theorem dX0_moveToEnd_104 : decode cX0_moveToEnd 104 = .ok (.iload 7, 2) := by decide +kernel
theorem dX0_moveToEnd_106 : decode cX0_moveToEnd 106 = .ok (.dup2, 1) := by decide +kernel
theorem dX0_moveToEnd_107 : decode cX0_moveToEnd 107 = .ok (.iaload, 1) := by decide +kernel
theorem dX0_moveToEnd_108 : decode cX0_moveToEnd 108 = .ok (.iconst 1, 1) := by decide +kernel
theorem dX0_moveToEnd_109 : decode cX0_moveToEnd 109 = .ok (.isub, 1) := by decide +kernel
theorem dX0_moveToEnd_110 : decode cX0_moveToEnd 110 = .ok (.iastore, 1) := by decide +kernel
theorem dX0_moveToEnd_111 : decode cX0_moveToEnd 111 = .ok (.iinc 7 1, 3) := by decide +kernel
theorem dX0_moveToEnd_114 : decode cX0_moveToEnd 114 = .ok (.goto (-20), 3) := by decide +kernel
theorem dX0_moveToEnd_117 : decode cX0_moveToEnd 117 = .ok (.return_, 1) := by decide +kernel
theorem dX0_takeFromPile_0 : decode cX0_takeFromPile 0 = .ok (.aload_n 0, 1) := by decide +kernel
theorem dX0_takeFromPile_1 : decode cX0_takeFromPile 1 = .ok (.getfield 15, 3) := by decide +kernel
theorem dX0_takeFromPile_4 : decode cX0_takeFromPile 4 = .ok (.iload_n 1, 1) := by decide +kernel
theorem dX0_takeFromPile_5 : decode cX0_takeFromPile 5 = .ok (.iconst 4, 1) := by decide +kernel
theorem dX0_takeFromPile_6 : decode cX0_takeFromPile 6 = .ok (.imul, 1) := by decide +kernel
theorem dX0_takeFromPile_7 : decode cX0_takeFromPile 7 = .ok (.iconst 2, 1) := by decide +kernel
theorem dX0_takeFromPile_8 : decode cX0_takeFromPile 8 = .ok (.iadd, 1) := by decide +kernel
theorem dX0_takeFromPile_9 : decode cX0_takeFromPile 9 = .ok (.iaload, 1) := by decide +kernel
theorem dX0_takeFromPile_10 : decode cX0_takeFromPile 10 = .ok (.istore_n 3, 1) := by decide +kernel
theorem dX0_takeFromPile_11 : decode cX0_takeFromPile 11 = .ok (.aload_n 0, 1) := by decide +kernel
theorem dX0_takeFromPile_12 : decode cX0_takeFromPile 12 = .ok (.getfield 18, 3) := by decide +kernel
theorem dX0_takeFromPile_15 : decode cX0_takeFromPile 15 = .ok (.iload_n 2, 1) := by decide +kernel
theorem dX0_takeFromPile_16 : decode cX0_takeFromPile 16 = .ok (.iaload, 1) := by decide +kernel
theorem dX0_takeFromPile_17 : decode cX0_takeFromPile 17 = .ok (.ifCond .le 16, 3) := by decide +kernel
theorem dX0_takeFromPile_20 : decode cX0_takeFromPile 20 = .ok (.aload_n 0, 1) := by decide +kernel
theorem dX0_takeFromPile_21 : decode cX0_takeFromPile 21 = .ok (.getfield 15, 3) := by decide +kernel
theorem dX0_takeFromPile_24 : decode cX0_takeFromPile 24 = .ok (.bipush 16, 2) := by decide +kernel
theorem dX0_takeFromPile_26 : decode cX0_takeFromPile 26 = .ok (.iaload, 1) := by decide +kernel
theorem dX0_takeFromPile_27 : decode cX0_takeFromPile 27 = .ok (.sipush 164, 3) := by decide +kernel
theorem dX0_takeFromPile_30 : decode cX0_takeFromPile 30 = .ok (.if_icmp .lt 4, 3) := by decide +kernel
theorem dX0_takeFromPile_33 : decode cX0_takeFromPile 33 = .ok (.return_, 1) := by decide +kernel
theorem dX0_takeFromPile_34 : decode cX0_takeFromPile 34 = .ok (.aload_n 0, 1) := by decide +kernel
theorem dX0_takeFromPile_35 : decode cX0_takeFromPile 35 = .ok (.getfield 9, 3) := by decide +kernel
theorem dX0_takeFromPile_38 : decode cX0_takeFromPile 38 = .ok (.iload_n 3, 1) := by decide +kernel
theorem dX0_takeFromPile_39 : decode cX0_takeFromPile 39 = .ok (.aload_n 0, 1) := by decide +kernel
theorem dX0_takeFromPile_40 : decode cX0_takeFromPile 40 = .ok (.getfield 9, 3) := by decide +kernel
theorem dX0_takeFromPile_43 : decode cX0_takeFromPile 43 = .ok (.iload_n 3, 1) := by decide +kernel
theorem dX0_takeFromPile_44 : decode cX0_takeFromPile 44 = .ok (.iconst 1, 1) := by decide +kernel
theorem dX0_takeFromPile_45 : decode cX0_takeFromPile 45 = .ok (.iadd, 1) := by decide +kernel
theorem dX0_takeFromPile_46 : decode cX0_takeFromPile 46 = .ok (.aload_n 0, 1) := by decide +kernel
theorem dX0_takeFromPile_47 : decode cX0_takeFromPile 47 = .ok (.getfield 15, 3) := by decide +kernel
theorem dX0_takeFromPile_50 : decode cX0_takeFromPile 50 = .ok (.bipush 16, 2) := by decide +kernel
theorem dX0_takeFromPile_52 : decode cX0_takeFromPile 52 = .ok (.iaload, 1) := by decide +kernel
theorem dX0_takeFromPile_53 : decode cX0_takeFromPile 53 = .ok (.iload_n 3, 1) := by decide +kernel
theorem dX0_takeFromPile_54 : decode cX0_takeFromPile 54 = .ok (.isub, 1) := by decide +kernel
theorem dX0_takeFromPile_55 : decode cX0_takeFromPile 55 = .ok (.invokestatic 24, 3) := by decide +kernel
theorem dX0_takeFromPile_58 : decode cX0_takeFromPile 58 = .ok (.aload_n 0, 1) := by decide +kernel
theorem dX0_takeFromPile_59 : decode cX0_takeFromPile 59 = .ok (.getfield 9, 3) := by decide +kernel
theorem dX0_takeFromPile_62 : decode cX0_takeFromPile 62 = .ok (.iload_n 3, 1) := by decide +kernel
theorem dX0_takeFromPile_63 : decode cX0_takeFromPile 63 = .ok (.iload_n 2, 1) := by decide +kernel
theorem dX0_takeFromPile_64 : decode cX0_takeFromPile 64 = .ok (.iastore, 1) := by decide +kernel
theorem dX0_takeFromPile_65 : decode cX0_takeFromPile 65 = .ok (.iload_n 1, 1) := by decide +kernel
theorem dX0_takeFromPile_66 : decode cX0_takeFromPile 66 = .ok (.iconst 4, 1) := by decide +kernel
theorem dX0_takeFromPile_67 : decode cX0_takeFromPile 67 = .ok (.imul, 1) := by decide +kernel
theorem dX0_takeFromPile_68 : decode cX0_takeFromPile 68 = .ok (.iconst 2, 1) := by decide +kernel
theorem dX0_takeFromPile_69 : decode cX0_takeFromPile 69 = .ok (.iadd, 1) := by decide +kernel
theorem dX0_takeFromPile_70 : decode cX0_takeFromPile 70 = .ok (.istore 4, 2) := by decide +kernel
theorem dX0_takeFromPile_72 : decode cX0_takeFromPile 72 = .ok (.iload 4, 2) := by decide +kernel
theorem dX0_takeFromPile_74 : decode cX0_takeFromPile 74 = .ok (.bipush 16, 2) := by decide +kernel
theorem dX0_takeFromPile_76 : decode cX0_takeFromPile 76 = .ok (.if_icmp .gt 20, 3) := by decide +kernel
theorem dX0_takeFromPile_79 : decode cX0_takeFromPile 79 = .ok (.aload_n 0, 1) := by decide +kernel
theorem dX0_takeFromPile_80 : decode cX0_takeFromPile 80 = .ok (.getfield 15, 3) := by decide +kernel
theorem dX0_takeFromPile_83 : decode cX0_takeFromPile 83 = .ok (.iload 4, 2) := by decide +kernel
theorem dX0_takeFromPile_85 : decode cX0_takeFromPile 85 = .ok (.dup2, 1) := by decide +kernel
theorem dX0_takeFromPile_86 : decode cX0_takeFromPile 86 = .ok (.iaload, 1) := by decide +kernel
theorem dX0_takeFromPile_87 : decode cX0_takeFromPile 87 = .ok (.iconst 1, 1) := by decide +kernel
theorem dX0_takeFromPile_88 : decode cX0_takeFromPile 88 = .ok (.iadd, 1) := by decide +kernel
theorem dX0_takeFromPile_89 : decode cX0_takeFromPile 89 = .ok (.iastore, 1) := by decide +kernel
theorem dX0_takeFromPile_90 : decode cX0_takeFromPile 90 = .ok (.iinc 4 1, 3) := by decide +kernel
theorem dX0_takeFromPile_93 : decode cX0_takeFromPile 93 = .ok (.goto (-21), 3) := by decide +kernel
theorem dX0_takeFromPile_96 : decode cX0_takeFromPile 96 = .ok (.aload_n 0, 1) := by decide +kernel
theorem dX0_takeFromPile_97 : decode cX0_takeFromPile 97 = .ok (.getfield 18, 3) := by decide +kernel
theorem dX0_takeFromPile_100 : decode cX0_takeFromPile 100 = .ok (.iload_n 2, 1) := by decide +kernel
theorem dX0_takeFromPile_101 : decode cX0_takeFromPile 101 = .ok (.dup2, 1) := by decide +kernel
theorem dX0_takeFromPile_102 : decode cX0_takeFromPile 102 = .ok (.iaload, 1) := by decide +kernel
theorem dX0_takeFromPile_103 : decode cX0_takeFromPile 103 = .ok (.iconst 1, 1) := by decide +kernel
theorem dX0_takeFromPile_104 : decode cX0_takeFromPile 104 = .ok (.isub, 1) := by decide +kernel
theorem dX0_takeFromPile_105 : decode cX0_takeFromPile 105 = .ok (.iastore, 1) := by decide +kernel
theorem dX0_takeFromPile_106 : decode cX0_takeFromPile 106 = .ok (.return_, 1) := by decide +kernel
theorem dX0_hasPlayer_0 : decode cX0_hasPlayer 0 = .ok (.iload_n 1, 1) := by decide +kernel
theorem dX0_hasPlayer_1 : decode cX0_hasPlayer 1 = .ok (.ifCond .lt 15, 3) := by decide +kernel
theorem dX0_hasPlayer_4 : decode cX0_hasPlayer 4 = .ok (.iload_n 1, 1) := by decide +kernel
theorem dX0_hasPlayer_5 : decode cX0_hasPlayer 5 = .ok (.aload_n 0, 1) := by decide +kernel
theorem dX0_hasPlayer_6 : decode cX0_hasPlayer 6 = .ok (.getfield 30, 3) := by decide +kernel
theorem dX0_hasPlayer_9 : decode cX0_hasPlayer 9 = .ok (.if_icmp .ge 7, 3) := by decide +kernel
theorem dX0_hasPlayer_12 : decode cX0_hasPlayer 12 = .ok (.iconst 1, 1) := by decide +kernel
theorem dX0_hasPlayer_13 : decode cX0_hasPlayer 13 = .ok (.goto 4, 3) := by decide +kernel
theorem dX0_hasPlayer_16 : decode cX0_hasPlayer 16 = .ok (.iconst 0, 1) := by decide +kernel
theorem dX0_hasPlayer_17 : decode cX0_hasPlayer 17 = .ok (.ireturn, 1) := by decide +kernel
theorem dX0_playerBehind_0 : decode cX0_playerBehind 0 = .ok (.iload_n 1, 1) := by decide +kernel
theorem dX0_playerBehind_1 : decode cX0_playerBehind 1 = .ok (.iconst 1, 1) := by decide +kernel
theorem dX0_playerBehind_2 : decode cX0_playerBehind 2 = .ok (.iadd, 1) := by decide +kernel
theorem dX0_playerBehind_3 : decode cX0_playerBehind 3 = .ok (.aload_n 0, 1) := by decide +kernel
theorem dX0_playerBehind_4 : decode cX0_playerBehind 4 = .ok (.getfield 30, 3) := by decide +kernel
theorem dX0_playerBehind_7 : decode cX0_playerBehind 7 = .ok (.if_icmp .ge 9, 3) := by decide +kernel
theorem dX0_playerBehind_10 : decode cX0_playerBehind 10 = .ok (.iload_n 1, 1) := by decide +kernel
theorem dX0_playerBehind_11 : decode cX0_playerBehind 11 = .ok (.iconst 1, 1) := by decide +kernel
theorem dX0_playerBehind_12 : decode cX0_playerBehind 12 = .ok (.iadd, 1) := by decide +kernel
theorem dX0_playerBehind_13 : decode cX0_playerBehind 13 = .ok (.goto 4, 3) := by decide +kernel
theorem dX0_playerBehind_16 : decode cX0_playerBehind 16 = .ok (.iconst 0, 1) := by decide +kernel
theorem dX0_playerBehind_17 : decode cX0_playerBehind 17 = .ok (.ireturn, 1) := by decide +kernel
theorem dX0_cardOf_0 : decode cX0_cardOf 0 = .ok (.aload_n 0, 1) := by decide +kernel
theorem dX0_cardOf_1 : decode cX0_cardOf 1 = .ok (.getfield 15, 3) := by decide +kernel
theorem dX0_cardOf_4 : decode cX0_cardOf 4 = .ok (.iload_n 1, 1) := by decide +kernel
theorem dX0_cardOf_5 : decode cX0_cardOf 5 = .ok (.iconst 4, 1) := by decide +kernel
theorem dX0_cardOf_6 : decode cX0_cardOf 6 = .ok (.imul, 1) := by decide +kernel
theorem dX0_cardOf_7 : decode cX0_cardOf 7 = .ok (.iload_n 2, 1) := by decide +kernel
theorem dX0_cardOf_8 : decode cX0_cardOf 8 = .ok (.iadd, 1) := by decide +kernel
theorem dX0_cardOf_9 : decode cX0_cardOf 9 = .ok (.iaload, 1) := by decide +kernel
theorem dX0_cardOf_10 : decode cX0_cardOf 10 = .ok (.istore 4, 2) := by decide +kernel
theorem dX0_cardOf_12 : decode cX0_cardOf 12 = .ok (.aload_n 0, 1) := by decide +kernel
theorem dX0_cardOf_13 : decode cX0_cardOf 13 = .ok (.getfield 15, 3) := by decide +kernel
theorem dX0_cardOf_16 : decode cX0_cardOf 16 = .ok (.iload_n 1, 1) := by decide +kernel
theorem dX0_cardOf_17 : decode cX0_cardOf 17 = .ok (.iconst 4, 1) := by decide +kernel
theorem dX0_cardOf_18 : decode cX0_cardOf 18 = .ok (.imul, 1) := by decide +kernel
theorem dX0_cardOf_19 : decode cX0_cardOf 19 = .ok (.iload_n 2, 1) := by decide +kernel
theorem dX0_cardOf_20 : decode cX0_cardOf 20 = .ok (.iadd, 1) := by decide +kernel
theorem dX0_cardOf_21 : decode cX0_cardOf 21 = .ok (.iconst 1, 1) := by decide +kernel
theorem dX0_cardOf_22 : decode cX0_cardOf 22 = .ok (.iadd, 1) := by decide +kernel
theorem dX0_cardOf_23 : decode cX0_cardOf 23 = .ok (.iaload, 1) := by decide +kernel
theorem dX0_cardOf_24 : decode cX0_cardOf 24 = .ok (.iload 4, 2) := by decide +kernel
theorem dX0_cardOf_26 : decode cX0_cardOf 26 = .ok (.isub, 1) := by decide +kernel
theorem dX0_cardOf_27 : decode cX0_cardOf 27 = .ok (.istore 5, 2) := by decide +kernel
theorem dX0_cardOf_29 : decode cX0_cardOf 29 = .ok (.iload_n 3, 1) := by decide +kernel
theorem dX0_cardOf_30 : decode cX0_cardOf 30 = .ok (.ifCond .lt 9, 3) := by decide +kernel
theorem dX0_cardOf_33 : decode cX0_cardOf 33 = .ok (.iload_n 3, 1) := by decide +kernel
theorem dX0_cardOf_34 : decode cX0_cardOf 34 = .ok (.iload 5, 2) := by decide +kernel
theorem dX0_cardOf_36 : decode cX0_cardOf 36 = .ok (.if_icmp .lt 7, 3) := by decide +kernel
theorem dX0_cardOf_39 : decode cX0_cardOf 39 = .ok (.iconst (-1), 1) := by decide +kernel
theorem dX0_cardOf_40 : decode cX0_cardOf 40 = .ok (.goto 12, 3) := by decide +kernel
theorem dX0_cardOf_43 : decode cX0_cardOf 43 = .ok (.aload_n 0, 1) := by decide +kernel
theorem dX0_cardOf_44 : decode cX0_cardOf 44 = .ok (.getfield 9, 3) := by decide +kernel
theorem dX0_cardOf_47 : decode cX0_cardOf 47 = .ok (.iload 4, 2) := by decide +kernel
theorem dX0_cardOf_49 : decode cX0_cardOf 49 = .ok (.iload_n 3, 1) := by decide +kernel
theorem dX0_cardOf_50 : decode cX0_cardOf 50 = .ok (.iadd, 1) := by decide +kernel
theorem dX0_cardOf_51 : decode cX0_cardOf 51 = .ok (.iaload, 1) := by decide +kernel
theorem dX0_cardOf_52 : decode cX0_cardOf 52 = .ok (.ireturn, 1) := by decide +kernel
theorem dX0_howMany_0 : decode cX0_howMany 0 = .ok (.aload_n 0, 1) := by decide +kernel
theorem dX0_howMany_1 : decode cX0_howMany 1 = .ok (.getfield 15, 3) := by decide +kernel
theorem dX0_howMany_4 : decode cX0_howMany 4 = .ok (.iload_n 1, 1) := by decide +kernel
theorem dX0_howMany_5 : decode cX0_howMany 5 = .ok (.iconst 4, 1) := by decide +kernel
theorem dX0_howMany_6 : decode cX0_howMany 6 = .ok (.imul, 1) := by decide +kernel
theorem dX0_howMany_7 : decode cX0_howMany 7 = .ok (.iload_n 2, 1) := by decide +kernel
theorem dX0_howMany_8 : decode cX0_howMany 8 = .ok (.iadd, 1) := by decide +kernel
theorem dX0_howMany_9 : decode cX0_howMany 9 = .ok (.iaload, 1) := by decide +kernel
theorem dX0_howMany_10 : decode cX0_howMany 10 = .ok (.istore 5, 2) := by decide +kernel
theorem dX0_howMany_12 : decode cX0_howMany 12 = .ok (.aload_n 0, 1) := by decide +kernel
theorem dX0_howMany_13 : decode cX0_howMany 13 = .ok (.getfield 15, 3) := by decide +kernel
theorem dX0_howMany_16 : decode cX0_howMany 16 = .ok (.iload_n 1, 1) := by decide +kernel
theorem dX0_howMany_17 : decode cX0_howMany 17 = .ok (.iconst 4, 1) := by decide +kernel
theorem dX0_howMany_18 : decode cX0_howMany 18 = .ok (.imul, 1) := by decide +kernel
theorem dX0_howMany_19 : decode cX0_howMany 19 = .ok (.iload_n 3, 1) := by decide +kernel
theorem dX0_howMany_20 : decode cX0_howMany 20 = .ok (.iadd, 1) := by decide +kernel
theorem dX0_howMany_21 : decode cX0_howMany 21 = .ok (.iconst 1, 1) := by decide +kernel
theorem dX0_howMany_22 : decode cX0_howMany 22 = .ok (.iadd, 1) := by decide +kernel
theorem dX0_howMany_23 : decode cX0_howMany 23 = .ok (.iaload, 1) := by decide +kernel
theorem dX0_howMany_24 : decode cX0_howMany 24 = .ok (.istore 6, 2) := by decide +kernel
theorem dX0_howMany_26 : decode cX0_howMany 26 = .ok (.iload 4, 2) := by decide +kernel
theorem dX0_howMany_28 : decode cX0_howMany 28 = .ok (.bipush 10, 2) := by decide +kernel
theorem dX0_howMany_30 : decode cX0_howMany 30 = .ok (.if_icmp .ne 9, 3) := by decide +kernel
theorem dX0_howMany_33 : decode cX0_howMany 33 = .ok (.iload 6, 2) := by decide +kernel
theorem dX0_howMany_35 : decode cX0_howMany 35 = .ok (.iload 5, 2) := by decide +kernel
theorem dX0_howMany_37 : decode cX0_howMany 37 = .ok (.isub, 1) := by decide +kernel
theorem dX0_howMany_38 : decode cX0_howMany 38 = .ok (.ireturn, 1) := by decide +kernel
theorem dX0_howMany_39 : decode cX0_howMany 39 = .ok (.iconst 0, 1) := by decide +kernel
theorem dX0_howMany_40 : decode cX0_howMany 40 = .ok (.istore 7, 2) := by decide +kernel
theorem dX0_howMany_42 : decode cX0_howMany 42 = .ok (.iload 5, 2) := by decide +kernel
theorem dX0_howMany_44 : decode cX0_howMany 44 = .ok (.istore 8, 2) := by decide +kernel
theorem dX0_howMany_46 : decode cX0_howMany 46 = .ok (.iload 8, 2) := by decide +kernel
theorem dX0_howMany_48 : decode cX0_howMany 48 = .ok (.iload 6, 2) := by decide +kernel
theorem dX0_howMany_50 : decode cX0_howMany 50 = .ok (.if_icmp .ge 24, 3) := by decide +kernel
theorem dX0_howMany_53 : decode cX0_howMany 53 = .ok (.aload_n 0, 1) := by decide +kernel
theorem dX0_howMany_54 : decode cX0_howMany 54 = .ok (.getfield 9, 3) := by decide +kernel
theorem dX0_howMany_57 : decode cX0_howMany 57 = .ok (.iload 8, 2) := by decide +kernel
theorem dX0_howMany_59 : decode cX0_howMany 59 = .ok (.iaload, 1) := by decide +kernel
theorem dX0_howMany_60 : decode cX0_howMany 60 = .ok (.iload 4, 2) := by decide +kernel
theorem dX0_howMany_62 : decode cX0_howMany 62 = .ok (.if_icmp .ne 6, 3) := by decide +kernel
theorem dX0_howMany_65 : decode cX0_howMany 65 = .ok (.iinc 7 1, 3) := by decide +kernel
theorem dX0_howMany_68 : decode cX0_howMany 68 = .ok (.iinc 8 1, 3) := by decide +kernel
theorem dX0_howMany_71 : decode cX0_howMany 71 = .ok (.goto (-25), 3) := by decide +kernel
theorem dX0_howMany_74 : decode cX0_howMany 74 = .ok (.iload 7, 2) := by decide +kernel
theorem dX0_howMany_76 : decode cX0_howMany 76 = .ok (.ireturn, 1) := by decide +kernel
theorem dX0_sumOf_0 : decode cX0_sumOf 0 = .ok (.aload_n 0, 1) := by decide +kernel
theorem dX0_sumOf_1 : decode cX0_sumOf 1 = .ok (.getfield 15, 3) := by decide +kernel
theorem dX0_sumOf_4 : decode cX0_sumOf 4 = .ok (.iload_n 1, 1) := by decide +kernel
theorem dX0_sumOf_5 : decode cX0_sumOf 5 = .ok (.iconst 4, 1) := by decide +kernel
theorem dX0_sumOf_6 : decode cX0_sumOf 6 = .ok (.imul, 1) := by decide +kernel
theorem dX0_sumOf_7 : decode cX0_sumOf 7 = .ok (.iload_n 3, 1) := by decide +kernel
theorem dX0_sumOf_8 : decode cX0_sumOf 8 = .ok (.iadd, 1) := by decide +kernel
theorem dX0_sumOf_9 : decode cX0_sumOf 9 = .ok (.iconst 1, 1) := by decide +kernel
theorem dX0_sumOf_10 : decode cX0_sumOf 10 = .ok (.iadd, 1) := by decide +kernel
theorem dX0_sumOf_11 : decode cX0_sumOf 11 = .ok (.iaload, 1) := by decide +kernel
theorem dX0_sumOf_12 : decode cX0_sumOf 12 = .ok (.istore 5, 2) := by decide +kernel
theorem dX0_sumOf_14 : decode cX0_sumOf 14 = .ok (.iconst 0, 1) := by decide +kernel
theorem dX0_sumOf_15 : decode cX0_sumOf 15 = .ok (.istore 6, 2) := by decide +kernel
theorem dX0_sumOf_17 : decode cX0_sumOf 17 = .ok (.aload_n 0, 1) := by decide +kernel
theorem dX0_sumOf_18 : decode cX0_sumOf 18 = .ok (.getfield 15, 3) := by decide +kernel
theorem dX0_sumOf_21 : decode cX0_sumOf 21 = .ok (.iload_n 1, 1) := by decide +kernel
theorem dX0_sumOf_22 : decode cX0_sumOf 22 = .ok (.iconst 4, 1) := by decide +kernel
theorem dX0_sumOf_23 : decode cX0_sumOf 23 = .ok (.imul, 1) := by decide +kernel
theorem dX0_sumOf_24 : decode cX0_sumOf 24 = .ok (.iload_n 2, 1) := by decide +kernel
theorem dX0_sumOf_25 : decode cX0_sumOf 25 = .ok (.iadd, 1) := by decide +kernel
theorem dX0_sumOf_26 : decode cX0_sumOf 26 = .ok (.iaload, 1) := by decide +kernel
theorem dX0_sumOf_27 : decode cX0_sumOf 27 = .ok (.istore 7, 2) := by decide +kernel
theorem dX0_sumOf_29 : decode cX0_sumOf 29 = .ok (.iload 7, 2) := by decide +kernel
theorem dX0_sumOf_31 : decode cX0_sumOf 31 = .ok (.iload 5, 2) := by decide +kernel
theorem dX0_sumOf_33 : decode cX0_sumOf 33 = .ok (.if_icmp .ge 24, 3) := by decide +kernel
theorem dX0_sumOf_36 : decode cX0_sumOf 36 = .ok (.iload 6, 2) := by decide +kernel
theorem dX0_sumOf_38 : decode cX0_sumOf 38 = .ok (.aload 4, 2) := by decide +kernel
theorem dX0_sumOf_40 : decode cX0_sumOf 40 = .ok (.aload_n 0, 1) := by decide +kernel
theorem dX0_sumOf_41 : decode cX0_sumOf 41 = .ok (.getfield 9, 3) := by decide +kernel
theorem dX0_sumOf_44 : decode cX0_sumOf 44 = .ok (.iload 7, 2) := by decide +kernel
theorem dX0_sumOf_46 : decode cX0_sumOf 46 = .ok (.iaload, 1) := by decide +kernel
theorem dX0_sumOf_47 : decode cX0_sumOf 47 = .ok (.iaload, 1) := by decide +kernel
theorem dX0_sumOf_48 : decode cX0_sumOf 48 = .ok (.iadd, 1) := by decide +kernel
theorem dX0_sumOf_49 : decode cX0_sumOf 49 = .ok (.istore 6, 2) := by decide +kernel
theorem dX0_sumOf_51 : decode cX0_sumOf 51 = .ok (.iinc 7 1, 3) := by decide +kernel
theorem dX0_sumOf_54 : decode cX0_sumOf 54 = .ok (.goto (-25), 3) := by decide +kernel
theorem dX0_sumOf_57 : decode cX0_sumOf 57 = .ok (.iload 6, 2) := by decide +kernel
theorem dX0_sumOf_59 : decode cX0_sumOf 59 = .ok (.ireturn, 1) := by decide +kernel
theorem dX0_leader_0 : decode cX0_leader 0 = .ok (.iconst 0, 1) := by decide +kernel
theorem dX0_leader_1 : decode cX0_leader 1 = .ok (.istore_n 1, 1) := by decide +kernel
theorem dX0_leader_2 : decode cX0_leader 2 = .ok (.iconst 1, 1) := by decide +kernel
theorem dX0_leader_3 : decode cX0_leader 3 = .ok (.istore_n 2, 1) := by decide +kernel
theorem dX0_leader_4 : decode cX0_leader 4 = .ok (.iload_n 2, 1) := by decide +kernel
theorem dX0_leader_5 : decode cX0_leader 5 = .ok (.aload_n 0, 1) := by decide +kernel
theorem dX0_leader_6 : decode cX0_leader 6 = .ok (.getfield 30, 3) := by decide +kernel
theorem dX0_leader_9 : decode cX0_leader 9 = .ok (.if_icmp .ge 34, 3) := by decide +kernel
theorem dX0_leader_12 : decode cX0_leader 12 = .ok (.aload_n 0, 1) := by decide +kernel
theorem dX0_leader_13 : decode cX0_leader 13 = .ok (.iload_n 2, 1) := by decide +kernel
theorem dX0_leader_14 : decode cX0_leader 14 = .ok (.iconst 0, 1) := by decide +kernel
theorem dX0_leader_15 : decode cX0_leader 15 = .ok (.iconst 3, 1) := by decide +kernel
theorem dX0_leader_16 : decode cX0_leader 16 = .ok (.getstatic 151, 3) := by decide +kernel
theorem dX0_leader_19 : decode cX0_leader 19 = .ok (.invokevirtual 154, 3) := by decide +kernel
theorem dX0_leader_22 : decode cX0_leader 22 = .ok (.aload_n 0, 1) := by decide +kernel
theorem dX0_leader_23 : decode cX0_leader 23 = .ok (.iload_n 1, 1) := by decide +kernel
theorem dX0_leader_24 : decode cX0_leader 24 = .ok (.iconst 0, 1) := by decide +kernel
theorem dX0_leader_25 : decode cX0_leader 25 = .ok (.iconst 3, 1) := by decide +kernel
theorem dX0_leader_26 : decode cX0_leader 26 = .ok (.getstatic 151, 3) := by decide +kernel
theorem dX0_leader_29 : decode cX0_leader 29 = .ok (.invokevirtual 154, 3) := by decide +kernel
theorem dX0_leader_32 : decode cX0_leader 32 = .ok (.if_icmp .le 5, 3) := by decide +kernel
theorem dX0_leader_35 : decode cX0_leader 35 = .ok (.iload_n 2, 1) := by decide +kernel
theorem dX0_leader_36 : decode cX0_leader 36 = .ok (.istore_n 1, 1) := by decide +kernel
theorem dX0_leader_37 : decode cX0_leader 37 = .ok (.iinc 2 1, 3) := by decide +kernel
theorem dX0_leader_40 : decode cX0_leader 40 = .ok (.goto (-36), 3) := by decide +kernel
theorem dX0_leader_43 : decode cX0_leader 43 = .ok (.iload_n 1, 1) := by decide +kernel
theorem dX0_leader_44 : decode cX0_leader 44 = .ok (.ireturn, 1) := by decide +kernel
theorem dX0_emptyPiles_0 : decode cX0_emptyPiles 0 = .ok (.iconst 0, 1) := by decide +kernel
theorem dX0_emptyPiles_1 : decode cX0_emptyPiles 1 = .ok (.istore_n 1, 1) := by decide +kernel
theorem dX0_emptyPiles_2 : decode cX0_emptyPiles 2 = .ok (.iconst 0, 1) := by decide +kernel
theorem dX0_emptyPiles_3 : decode cX0_emptyPiles 3 = .ok (.istore_n 2, 1) := by decide +kernel
theorem dX0_emptyPiles_4 : decode cX0_emptyPiles 4 = .ok (.iload_n 2, 1) := by decide +kernel
theorem dX0_emptyPiles_5 : decode cX0_emptyPiles 5 = .ok (.bipush 10, 2) := by decide +kernel
theorem dX0_emptyPiles_7 : decode cX0_emptyPiles 7 = .ok (.if_icmp .ge 21, 3) := by decide +kernel
theorem dX0_emptyPiles_10 : decode cX0_emptyPiles 10 = .ok (.aload_n 0, 1) := by decide +kernel
theorem dX0_emptyPiles_11 : decode cX0_emptyPiles 11 = .ok (.getfield 18, 3) := by decide +kernel
theorem dX0_emptyPiles_14 : decode cX0_emptyPiles 14 = .ok (.iload_n 2, 1) := by decide +kernel
theorem dX0_emptyPiles_15 : decode cX0_emptyPiles 15 = .ok (.iaload, 1) := by decide +kernel
theorem dX0_emptyPiles_16 : decode cX0_emptyPiles 16 = .ok (.ifCond .gt 6, 3) := by decide +kernel
theorem dX0_emptyPiles_19 : decode cX0_emptyPiles 19 = .ok (.iinc 1 1, 3) := by decide +kernel
theorem dX0_emptyPiles_22 : decode cX0_emptyPiles 22 = .ok (.iinc 2 1, 3) := by decide +kernel
theorem dX0_emptyPiles_25 : decode cX0_emptyPiles 25 = .ok (.goto (-21), 3) := by decide +kernel
theorem dX0_emptyPiles_28 : decode cX0_emptyPiles 28 = .ok (.iload_n 1, 1) := by decide +kernel
theorem dX0_emptyPiles_29 : decode cX0_emptyPiles 29 = .ok (.ireturn, 1) := by decide +kernel
theorem dX0_isInRow_0 : decode cX0_isInRow 0 = .ok (.iload_n 1, 1) := by decide +kernel
theorem dX0_isInRow_1 : decode cX0_isInRow 1 = .ok (.aload_n 0, 1) := by decide +kernel
theorem dX0_isInRow_2 : decode cX0_isInRow 2 = .ok (.getfield 49, 3) := by decide +kernel
theorem dX0_isInRow_5 : decode cX0_isInRow 5 = .ok (.isub, 1) := by decide +kernel
theorem dX0_isInRow_6 : decode cX0_isInRow 6 = .ok (.bipush 10, 2) := by decide +kernel
theorem dX0_isInRow_8 : decode cX0_isInRow 8 = .ok (.iadd, 1) := by decide +kernel
theorem dX0_isInRow_9 : decode cX0_isInRow 9 = .ok (.bipush 10, 2) := by decide +kernel
theorem dX0_isInRow_11 : decode cX0_isInRow 11 = .ok (.irem, 1) := by decide +kernel
theorem dX0_isInRow_12 : decode cX0_isInRow 12 = .ok (.bipush 6, 2) := by decide +kernel
theorem dX0_isInRow_14 : decode cX0_isInRow 14 = .ok (.if_icmp .ge 7, 3) := by decide +kernel
theorem dX0_isInRow_17 : decode cX0_isInRow 17 = .ok (.iconst 1, 1) := by decide +kernel
theorem dX0_isInRow_18 : decode cX0_isInRow 18 = .ok (.goto 4, 3) := by decide +kernel
theorem dX0_isInRow_21 : decode cX0_isInRow 21 = .ok (.iconst 0, 1) := by decide +kernel
theorem dX0_isInRow_22 : decode cX0_isInRow 22 = .ok (.ireturn, 1) := by decide +kernel
theorem dX0_whyNotBought_0 : decode cX0_whyNotBought 0 = .ok (.aload_n 0, 1) := by decide +kernel
theorem dX0_whyNotBought_1 : decode cX0_whyNotBought 1 = .ok (.getfield 58, 3) := by decide +kernel
theorem dX0_whyNotBought_4 : decode cX0_whyNotBought 4 = .ok (.ifCond .eq 5, 3) := by decide +kernel
theorem dX0_whyNotBought_7 : decode cX0_whyNotBought 7 = .ok (.iconst 1, 1) := by decide +kernel
theorem dX0_whyNotBought_8 : decode cX0_whyNotBought 8 = .ok (.ireturn, 1) := by decide +kernel
theorem dX0_whyNotBought_9 : decode cX0_whyNotBought 9 = .ok (.aload_n 0, 1) := by decide +kernel
theorem dX0_whyNotBought_10 : decode cX0_whyNotBought 10 = .ok (.iload_n 1, 1) := by decide +kernel
theorem dX0_whyNotBought_11 : decode cX0_whyNotBought 11 = .ok (.invokevirtual 158, 3) := by decide +kernel
theorem dX0_whyNotBought_14 : decode cX0_whyNotBought 14 = .ok (.ifCond .ne 5, 3) := by decide +kernel
theorem dX0_whyNotBought_17 : decode cX0_whyNotBought 17 = .ok (.iconst 2, 1) := by decide +kernel
theorem dX0_whyNotBought_18 : decode cX0_whyNotBought 18 = .ok (.ireturn, 1) := by decide +kernel
theorem dX0_whyNotBought_19 : decode cX0_whyNotBought 19 = .ok (.aload_n 0, 1) := by decide +kernel
theorem dX0_whyNotBought_20 : decode cX0_whyNotBought 20 = .ok (.getfield 18, 3) := by decide +kernel
theorem dX0_whyNotBought_23 : decode cX0_whyNotBought 23 = .ok (.iload_n 1, 1) := by decide +kernel
theorem dX0_whyNotBought_24 : decode cX0_whyNotBought 24 = .ok (.iaload, 1) := by decide +kernel
theorem dX0_whyNotBought_25 : decode cX0_whyNotBought 25 = .ok (.ifCond .gt 5, 3) := by decide +kernel
theorem dX0_whyNotBought_28 : decode cX0_whyNotBought 28 = .ok (.iconst 3, 1) := by decide +kernel
theorem dX0_whyNotBought_29 : decode cX0_whyNotBought 29 = .ok (.ireturn, 1) := by decide +kernel
theorem dX0_whyNotBought_30 : decode cX0_whyNotBought 30 = .ok (.aload_n 0, 1) := by decide +kernel
theorem dX0_whyNotBought_31 : decode cX0_whyNotBought 31 = .ok (.getfield 40, 3) := by decide +kernel
theorem dX0_whyNotBought_34 : decode cX0_whyNotBought 34 = .ok (.ifCond .gt 5, 3) := by decide +kernel
theorem dX0_whyNotBought_37 : decode cX0_whyNotBought 37 = .ok (.iconst 4, 1) := by decide +kernel
theorem dX0_whyNotBought_38 : decode cX0_whyNotBought 38 = .ok (.ireturn, 1) := by decide +kernel
theorem dX0_whyNotBought_39 : decode cX0_whyNotBought 39 = .ok (.aload_n 0, 1) := by decide +kernel
theorem dX0_whyNotBought_40 : decode cX0_whyNotBought 40 = .ok (.getfield 37, 3) := by decide +kernel
theorem dX0_whyNotBought_43 : decode cX0_whyNotBought 43 = .ok (.getstatic 125, 3) := by decide +kernel
theorem dX0_whyNotBought_46 : decode cX0_whyNotBought 46 = .ok (.iload_n 1, 1) := by decide +kernel
theorem dX0_whyNotBought_47 : decode cX0_whyNotBought 47 = .ok (.iaload, 1) := by decide +kernel
theorem dX0_whyNotBought_48 : decode cX0_whyNotBought 48 = .ok (.if_icmp .ge 7, 3) := by decide +kernel
theorem dX0_whyNotBought_51 : decode cX0_whyNotBought 51 = .ok (.iconst 5, 1) := by decide +kernel
theorem dX0_whyNotBought_52 : decode cX0_whyNotBought 52 = .ok (.goto 4, 3) := by decide +kernel
theorem dX0_whyNotBought_55 : decode cX0_whyNotBought 55 = .ok (.iconst 0, 1) := by decide +kernel
theorem dX0_whyNotBought_56 : decode cX0_whyNotBought 56 = .ok (.ireturn, 1) := by decide +kernel
theorem dX0_kindsToBuy_0 : decode cX0_kindsToBuy 0 = .ok (.iconst 0, 1) := by decide +kernel
theorem dX0_kindsToBuy_1 : decode cX0_kindsToBuy 1 = .ok (.istore_n 1, 1) := by decide +kernel
theorem dX0_kindsToBuy_2 : decode cX0_kindsToBuy 2 = .ok (.iconst 0, 1) := by decide +kernel
theorem dX0_kindsToBuy_3 : decode cX0_kindsToBuy 3 = .ok (.istore_n 2, 1) := by decide +kernel
theorem dX0_kindsToBuy_4 : decode cX0_kindsToBuy 4 = .ok (.iload_n 2, 1) := by decide +kernel
theorem dX0_kindsToBuy_5 : decode cX0_kindsToBuy 5 = .ok (.bipush 10, 2) := by decide +kernel
theorem dX0_kindsToBuy_7 : decode cX0_kindsToBuy 7 = .ok (.if_icmp .ge 23, 3) := by decide +kernel
theorem dX0_kindsToBuy_10 : decode cX0_kindsToBuy 10 = .ok (.aload_n 0, 1) := by decide +kernel
theorem dX0_kindsToBuy_11 : decode cX0_kindsToBuy 11 = .ok (.iload_n 2, 1) := by decide +kernel
theorem dX0_kindsToBuy_12 : decode cX0_kindsToBuy 12 = .ok (.invokevirtual 122, 3) := by decide +kernel
theorem dX0_kindsToBuy_15 : decode cX0_kindsToBuy 15 = .ok (.ifCond .ne 9, 3) := by decide +kernel
theorem dX0_kindsToBuy_18 : decode cX0_kindsToBuy 18 = .ok (.iload_n 1, 1) := by decide +kernel
theorem dX0_kindsToBuy_19 : decode cX0_kindsToBuy 19 = .ok (.iconst 1, 1) := by decide +kernel
theorem dX0_kindsToBuy_20 : decode cX0_kindsToBuy 20 = .ok (.iload_n 2, 1) := by decide +kernel
theorem dX0_kindsToBuy_21 : decode cX0_kindsToBuy 21 = .ok (.ishl, 1) := by decide +kernel
theorem dX0_kindsToBuy_22 : decode cX0_kindsToBuy 22 = .ok (.ior, 1) := by decide +kernel
theorem dX0_kindsToBuy_23 : decode cX0_kindsToBuy 23 = .ok (.istore_n 1, 1) := by decide +kernel
theorem dX0_kindsToBuy_24 : decode cX0_kindsToBuy 24 = .ok (.iinc 2 1, 3) := by decide +kernel
theorem dX0_kindsToBuy_27 : decode cX0_kindsToBuy 27 = .ok (.goto (-23), 3) := by decide +kernel
theorem dX0_kindsToBuy_30 : decode cX0_kindsToBuy 30 = .ok (.iload_n 1, 1) := by decide +kernel
theorem dX0_kindsToBuy_31 : decode cX0_kindsToBuy 31 = .ok (.ireturn, 1) := by decide +kernel
theorem dX1_init_0 : decode cX1_init 0 = .ok (.aload_n 0, 1) := by decide +kernel
theorem dX1_init_1 : decode cX1_init 1 = .ok (.invokespecial 1, 3) := by decide +kernel
theorem dX1_init_4 : decode cX1_init 4 = .ok (.aload_n 0, 1) := by decide +kernel
theorem dX1_init_5 : decode cX1_init 5 = .ok (.new 7, 3) := by decide +kernel
theorem dX1_init_8 : decode cX1_init 8 = .ok (.dup, 1) := by decide +kernel
theorem dX1_init_9 : decode cX1_init 9 = .ok (.invokespecial 9, 3) := by decide +kernel
theorem dX1_init_12 : decode cX1_init 12 = .ok (.putfield 10, 3) := by decide +kernel
theorem dX1_init_15 : decode cX1_init 15 = .ok (.aload_n 0, 1) := by decide +kernel
theorem dX1_init_16 : decode cX1_init 16 = .ok (.new 7, 3) := by decide +kernel
theorem dX1_init_19 : decode cX1_init 19 = .ok (.dup, 1) := by decide +kernel
theorem dX1_init_20 : decode cX1_init 20 = .ok (.invokespecial 9, 3) := by decide +kernel
theorem dX1_init_23 : decode cX1_init 23 = .ok (.putfield 16, 3) := by decide +kernel
theorem dX1_init_26 : decode cX1_init 26 = .ok (.aload_n 0, 1) := by decide +kernel
theorem dX1_init_27 : decode cX1_init 27 = .ok (.iconst 4, 1) := by decide +kernel
theorem dX1_init_28 : decode cX1_init 28 = .ok (.anewarray 7, 3) := by decide +kernel
theorem dX1_init_31 : decode cX1_init 31 = .ok (.putfield 19, 3) := by decide +kernel
theorem dX1_init_34 : decode cX1_init 34 = .ok (.iconst 0, 1) := by decide +kernel
theorem dX1_init_35 : decode cX1_init 35 = .ok (.istore_n 1, 1) := by decide +kernel
theorem dX1_init_36 : decode cX1_init 36 = .ok (.iload_n 1, 1) := by decide +kernel
theorem dX1_init_37 : decode cX1_init 37 = .ok (.iconst 4, 1) := by decide +kernel
theorem dX1_init_38 : decode cX1_init 38 = .ok (.if_icmp .ge 22, 3) := by decide +kernel
theorem dX1_init_41 : decode cX1_init 41 = .ok (.aload_n 0, 1) := by decide +kernel
theorem dX1_init_42 : decode cX1_init 42 = .ok (.getfield 19, 3) := by decide +kernel
theorem dX1_init_45 : decode cX1_init 45 = .ok (.iload_n 1, 1) := by decide +kernel
theorem dX1_init_46 : decode cX1_init 46 = .ok (.new 7, 3) := by decide +kernel
theorem dX1_init_49 : decode cX1_init 49 = .ok (.dup, 1) := by decide +kernel
theorem dX1_init_50 : decode cX1_init 50 = .ok (.invokespecial 9, 3) := by decide +kernel
theorem dX1_init_53 : decode cX1_init 53 = .ok (.aastore, 1) := by decide +kernel
theorem dX1_init_54 : decode cX1_init 54 = .ok (.iinc 1 1, 3) := by decide +kernel
theorem dX1_init_57 : decode cX1_init 57 = .ok (.goto (-21), 3) := by decide +kernel
theorem dX1_init_60 : decode cX1_init 60 = .ok (.aload_n 0, 1) := by decide +kernel
theorem dX1_init_61 : decode cX1_init 61 = .ok (.bipush 60, 2) := by decide +kernel
theorem dX1_init_63 : decode cX1_init 63 = .ok (.newarray .char, 2) := by decide +kernel
theorem dX1_init_65 : decode cX1_init 65 = .ok (.putfield 23, 3) := by decide +kernel
theorem dX1_init_68 : decode cX1_init 68 = .ok (.aload_n 0, 1) := by decide +kernel
theorem dX1_init_69 : decode cX1_init 69 = .ok (.getfield 10, 3) := by decide +kernel
theorem dX1_init_72 : decode cX1_init 72 = .ok (.iconst 1, 1) := by decide +kernel
theorem dX1_init_73 : decode cX1_init 73 = .ok (.putfield 27, 3) := by decide +kernel
theorem dX1_init_76 : decode cX1_init 76 = .ok (.aload_n 0, 1) := by decide +kernel
theorem dX1_init_77 : decode cX1_init 77 = .ok (.getfield 10, 3) := by decide +kernel
theorem dX1_init_80 : decode cX1_init 80 = .ok (.iconst 2, 1) := by decide +kernel
theorem dX1_init_81 : decode cX1_init 81 = .ok (.invokevirtual 31, 3) := by decide +kernel
theorem dX1_init_84 : decode cX1_init 84 = .ok (.pop, 1) := by decide +kernel
theorem dX1_init_85 : decode cX1_init 85 = .ok (.return_, 1) := by decide +kernel
theorem dX1_begin_0 : decode cX1_begin 0 = .ok (.aload_n 0, 1) := by decide +kernel
theorem dX1_begin_1 : decode cX1_begin 1 = .ok (.aload_n 0, 1) := by decide +kernel
theorem dX1_begin_2 : decode cX1_begin 2 = .ok (.invokevirtual 35, 3) := by decide +kernel
theorem dX1_begin_5 : decode cX1_begin 5 = .ok (.iload_n 1, 1) := by decide +kernel
theorem dX1_begin_6 : decode cX1_begin 6 = .ok (.invokevirtual 31, 3) := by decide +kernel
theorem dX1_begin_9 : decode cX1_begin 9 = .ok (.invokevirtual 39, 3) := by decide +kernel
theorem dX1_begin_12 : decode cX1_begin 12 = .ok (.ireturn, 1) := by decide +kernel
theorem dX1_play_0 : decode cX1_play 0 = .ok (.aload_n 0, 1) := by decide +kernel
theorem dX1_play_1 : decode cX1_play 1 = .ok (.aload_n 0, 1) := by decide +kernel
theorem dX1_play_2 : decode cX1_play 2 = .ok (.invokevirtual 35, 3) := by decide +kernel
theorem dX1_play_5 : decode cX1_play 5 = .ok (.iload_n 1, 1) := by decide +kernel
theorem dX1_play_6 : decode cX1_play 6 = .ok (.invokevirtual 42, 3) := by decide +kernel
theorem dX1_play_9 : decode cX1_play 9 = .ok (.invokevirtual 39, 3) := by decide +kernel
theorem dX1_play_12 : decode cX1_play 12 = .ok (.ireturn, 1) := by decide +kernel
theorem dX1_buy_0 : decode cX1_buy 0 = .ok (.aload_n 0, 1) := by decide +kernel
theorem dX1_buy_1 : decode cX1_buy 1 = .ok (.aload_n 0, 1) := by decide +kernel
theorem dX1_buy_2 : decode cX1_buy 2 = .ok (.invokevirtual 35, 3) := by decide +kernel
theorem dX1_buy_5 : decode cX1_buy 5 = .ok (.iload_n 1, 1) := by decide +kernel
theorem dX1_buy_6 : decode cX1_buy 6 = .ok (.invokevirtual 45, 3) := by decide +kernel
theorem dX1_buy_9 : decode cX1_buy 9 = .ok (.invokevirtual 39, 3) := by decide +kernel
theorem dX1_buy_12 : decode cX1_buy 12 = .ok (.ireturn, 1) := by decide +kernel
theorem dX1_scrap_0 : decode cX1_scrap 0 = .ok (.aload_n 0, 1) := by decide +kernel
theorem dX1_scrap_1 : decode cX1_scrap 1 = .ok (.aload_n 0, 1) := by decide +kernel
theorem dX1_scrap_2 : decode cX1_scrap 2 = .ok (.invokevirtual 35, 3) := by decide +kernel
theorem dX1_scrap_5 : decode cX1_scrap 5 = .ok (.iload_n 1, 1) := by decide +kernel
theorem dX1_scrap_6 : decode cX1_scrap 6 = .ok (.invokevirtual 48, 3) := by decide +kernel
theorem dX1_scrap_9 : decode cX1_scrap 9 = .ok (.invokevirtual 39, 3) := by decide +kernel
theorem dX1_scrap_12 : decode cX1_scrap 12 = .ok (.ireturn, 1) := by decide +kernel
theorem dX1_end_0 : decode cX1_end 0 = .ok (.aload_n 0, 1) := by decide +kernel
theorem dX1_end_1 : decode cX1_end 1 = .ok (.aload_n 0, 1) := by decide +kernel
theorem dX1_end_2 : decode cX1_end 2 = .ok (.invokevirtual 35, 3) := by decide +kernel
theorem dX1_end_5 : decode cX1_end 5 = .ok (.invokevirtual 51, 3) := by decide +kernel
theorem dX1_end_8 : decode cX1_end 8 = .ok (.invokevirtual 39, 3) := by decide +kernel
theorem dX1_end_11 : decode cX1_end 11 = .ok (.ireturn, 1) := by decide +kernel
theorem dX1_alike_0 : decode cX1_alike 0 = .ok (.iload_n 1, 1) := by decide +kernel
theorem dX1_alike_1 : decode cX1_alike 1 = .ok (.iconst 1, 1) := by decide +kernel
theorem dX1_alike_2 : decode cX1_alike 2 = .ok (.if_icmp .lt 9, 3) := by decide +kernel
theorem dX1_alike_5 : decode cX1_alike 5 = .ok (.iload_n 1, 1) := by decide +kernel
theorem dX1_alike_6 : decode cX1_alike 6 = .ok (.bipush 20, 2) := by decide +kernel
theorem dX1_alike_8 : decode cX1_alike 8 = .ok (.if_icmp .le 6, 3) := by decide +kernel
theorem dX1_alike_11 : decode cX1_alike 11 = .ok (.ldc 55, 2) := by decide +kernel
theorem dX1_alike_13 : decode cX1_alike 13 = .ok (.ireturn, 1) := by decide +kernel
theorem dX1_alike_14 : decode cX1_alike 14 = .ok (.aload_n 0, 1) := by decide +kernel
theorem dX1_alike_15 : decode cX1_alike 15 = .ok (.getfield 10, 3) := by decide +kernel
theorem dX1_alike_18 : decode cX1_alike 18 = .ok (.getfield 56, 3) := by decide +kernel
theorem dX1_alike_21 : decode cX1_alike 21 = .ok (.ifCond .eq 6, 3) := by decide +kernel
theorem dX1_alike_24 : decode cX1_alike 24 = .ok (.ldc 60, 2) := by decide +kernel
theorem dX1_alike_26 : decode cX1_alike 26 = .ok (.ireturn, 1) := by decide +kernel
theorem dX1_alike_27 : decode cX1_alike 27 = .ok (.aload_n 0, 1) := by decide +kernel
theorem dX1_alike_28 : decode cX1_alike 28 = .ok (.aload_n 0, 1) := by decide +kernel
theorem dX1_alike_29 : decode cX1_alike 29 = .ok (.invokevirtual 35, 3) := by decide +kernel
theorem dX1_alike_32 : decode cX1_alike 32 = .ok (.iload_n 1, 1) := by decide +kernel
theorem dX1_alike_33 : decode cX1_alike 33 = .ok (.invokevirtual 61, 3) := by decide +kernel
theorem dX1_alike_36 : decode cX1_alike 36 = .ok (.invokevirtual 39, 3) := by decide +kernel
theorem dX1_alike_39 : decode cX1_alike 39 = .ok (.ireturn, 1) := by decide +kernel
theorem dX1_set_0 : decode cX1_set 0 = .ok (.iload_n 1, 1) := by decide +kernel
theorem dX1_set_1 : decode cX1_set 1 = .ok (.ifCond .ne 13, 3) := by decide +kernel
theorem dX1_set_4 : decode cX1_set 4 = .ok (.iload_n 2, 1) := by decide +kernel
theorem dX1_set_5 : decode cX1_set 5 = .ok (.ifCond .lt 9, 3) := by decide +kernel
theorem dX1_set_8 : decode cX1_set 8 = .ok (.iload_n 2, 1) := by decide +kernel
theorem dX1_set_9 : decode cX1_set 9 = .ok (.bipush 9, 2) := by decide +kernel
theorem dX1_set_11 : decode cX1_set 11 = .ok (.if_icmp .le 6, 3) := by decide +kernel
theorem dX1_set_14 : decode cX1_set 14 = .ok (.ldc 55, 2) := by decide +kernel
theorem dX1_set_16 : decode cX1_set 16 = .ok (.ireturn, 1) := by decide +kernel
theorem dX1_set_17 : decode cX1_set 17 = .ok (.aload_n 0, 1) := by decide +kernel
theorem dX1_set_18 : decode cX1_set 18 = .ok (.getfield 10, 3) := by decide +kernel
theorem dX1_set_21 : decode cX1_set 21 = .ok (.getfield 27, 3) := by decide +kernel
theorem dX1_set_24 : decode cX1_set 24 = .ok (.istore_n 3, 1) := by decide +kernel
theorem dX1_set_25 : decode cX1_set 25 = .ok (.aload_n 0, 1) := by decide +kernel
theorem dX1_set_26 : decode cX1_set 26 = .ok (.invokevirtual 35, 3) := by decide +kernel
theorem dX1_set_29 : decode cX1_set 29 = .ok (.iload_n 2, 1) := by decide +kernel
theorem dX1_set_30 : decode cX1_set 30 = .ok (.putfield 27, 3) := by decide +kernel
theorem dX1_set_33 : decode cX1_set 33 = .ok (.aload_n 0, 1) := by decide +kernel
theorem dX1_set_34 : decode cX1_set 34 = .ok (.iload_n 3, 1) := by decide +kernel
theorem dX1_set_35 : decode cX1_set 35 = .ok (.invokevirtual 39, 3) := by decide +kernel
theorem dX1_set_38 : decode cX1_set 38 = .ok (.ireturn, 1) := by decide +kernel
theorem dX1_card_0 : decode cX1_card 0 = .ok (.aload_n 0, 1) := by decide +kernel
theorem dX1_card_1 : decode cX1_card 1 = .ok (.getfield 10, 3) := by decide +kernel
theorem dX1_card_4 : decode cX1_card 4 = .ok (.iload_n 1, 1) := by decide +kernel
theorem dX1_card_5 : decode cX1_card 5 = .ok (.invokevirtual 64, 3) := by decide +kernel
theorem dX1_card_8 : decode cX1_card 8 = .ok (.ifCond .eq 16, 3) := by decide +kernel
theorem dX1_card_11 : decode cX1_card 11 = .ok (.iload_n 2, 1) := by decide +kernel
theorem dX1_card_12 : decode cX1_card 12 = .ok (.ifCond .lt 12, 3) := by decide +kernel
theorem dX1_card_15 : decode cX1_card 15 = .ok (.iload_n 2, 1) := by decide +kernel
theorem dX1_card_16 : decode cX1_card 16 = .ok (.iconst 4, 1) := by decide +kernel
theorem dX1_card_17 : decode cX1_card 17 = .ok (.if_icmp .ge 7, 3) := by decide +kernel
theorem dX1_card_20 : decode cX1_card 20 = .ok (.iload_n 3, 1) := by decide +kernel
theorem dX1_card_21 : decode cX1_card 21 = .ok (.ifCond .ge 6, 3) := by decide +kernel
theorem dX1_card_24 : decode cX1_card 24 = .ok (.ldc 55, 2) := by decide +kernel
theorem dX1_card_26 : decode cX1_card 26 = .ok (.ireturn, 1) := by decide +kernel
theorem dX1_card_27 : decode cX1_card 27 = .ok (.aload_n 0, 1) := by decide +kernel
theorem dX1_card_28 : decode cX1_card 28 = .ok (.getfield 10, 3) := by decide +kernel
theorem dX1_card_31 : decode cX1_card 31 = .ok (.iload_n 1, 1) := by decide +kernel
theorem dX1_card_32 : decode cX1_card 32 = .ok (.iload_n 2, 1) := by decide +kernel
theorem dX1_card_33 : decode cX1_card 33 = .ok (.invokestatic 68, 3) := by decide +kernel
theorem dX1_card_36 : decode cX1_card 36 = .ok (.iload_n 3, 1) := by decide +kernel
theorem dX1_card_37 : decode cX1_card 37 = .ok (.invokevirtual 71, 3) := by decide +kernel
theorem dX1_card_40 : decode cX1_card 40 = .ok (.istore 4, 2) := by decide +kernel
theorem dX1_card_42 : decode cX1_card 42 = .ok (.iload 4, 2) := by decide +kernel
theorem dX1_card_44 : decode cX1_card 44 = .ok (.ifCond .ge 8, 3) := by decide +kernel
theorem dX1_card_47 : decode cX1_card 47 = .ok (.ldc 75, 2) := by decide +kernel
theorem dX1_card_49 : decode cX1_card 49 = .ok (.goto 5, 3) := by decide +kernel
theorem dX1_card_52 : decode cX1_card 52 = .ok (.iload 4, 2) := by decide +kernel
theorem dX1_card_54 : decode cX1_card 54 = .ok (.ireturn, 1) := by decide +kernel
theorem dX1_many_0 : decode cX1_many 0 = .ok (.aload_n 0, 1) := by decide +kernel
theorem dX1_many_1 : decode cX1_many 1 = .ok (.getfield 10, 3) := by decide +kernel
theorem dX1_many_4 : decode cX1_many 4 = .ok (.iload_n 1, 1) := by decide +kernel
theorem dX1_many_5 : decode cX1_many 5 = .ok (.invokevirtual 64, 3) := by decide +kernel
theorem dX1_many_8 : decode cX1_many 8 = .ok (.ifCond .eq 22, 3) := by decide +kernel
theorem dX1_many_11 : decode cX1_many 11 = .ok (.iload_n 2, 1) := by decide +kernel
theorem dX1_many_12 : decode cX1_many 12 = .ok (.ifCond .lt 18, 3) := by decide +kernel
theorem dX1_many_15 : decode cX1_many 15 = .ok (.iload_n 2, 1) := by decide +kernel
theorem dX1_many_16 : decode cX1_many 16 = .ok (.iconst 4, 1) := by decide +kernel
theorem dX1_many_17 : decode cX1_many 17 = .ok (.if_icmp .gt 13, 3) := by decide +kernel
theorem dX1_many_20 : decode cX1_many 20 = .ok (.iload_n 3, 1) := by decide +kernel
theorem dX1_many_21 : decode cX1_many 21 = .ok (.ifCond .lt 9, 3) := by decide +kernel
theorem dX1_many_24 : decode cX1_many 24 = .ok (.iload_n 3, 1) := by decide +kernel
theorem dX1_many_25 : decode cX1_many 25 = .ok (.bipush 10, 2) := by decide +kernel
theorem dX1_many_27 : decode cX1_many 27 = .ok (.if_icmp .le 6, 3) := by decide +kernel
theorem dX1_many_30 : decode cX1_many 30 = .ok (.ldc 55, 2) := by decide +kernel
theorem dX1_many_32 : decode cX1_many 32 = .ok (.ireturn, 1) := by decide +kernel
theorem dX1_many_33 : decode cX1_many 33 = .ok (.iload_n 2, 1) := by decide +kernel
theorem dX1_many_34 : decode cX1_many 34 = .ok (.iconst 4, 1) := by decide +kernel
theorem dX1_many_35 : decode cX1_many 35 = .ok (.if_icmp .ne 15, 3) := by decide +kernel
theorem dX1_many_38 : decode cX1_many 38 = .ok (.aload_n 0, 1) := by decide +kernel
theorem dX1_many_39 : decode cX1_many 39 = .ok (.getfield 10, 3) := by decide +kernel
theorem dX1_many_42 : decode cX1_many 42 = .ok (.iload_n 1, 1) := by decide +kernel
theorem dX1_many_43 : decode cX1_many 43 = .ok (.iconst 0, 1) := by decide +kernel
theorem dX1_many_44 : decode cX1_many 44 = .ok (.iconst 3, 1) := by decide +kernel
theorem dX1_many_45 : decode cX1_many 45 = .ok (.iload_n 3, 1) := by decide +kernel
theorem dX1_many_46 : decode cX1_many 46 = .ok (.invokevirtual 76, 3) := by decide +kernel
theorem dX1_many_49 : decode cX1_many 49 = .ok (.ireturn, 1) := by decide +kernel
theorem dX1_many_50 : decode cX1_many 50 = .ok (.iload_n 2, 1) := by decide +kernel
theorem dX1_many_51 : decode cX1_many 51 = .ok (.invokestatic 68, 3) := by decide +kernel
theorem dX1_many_54 : decode cX1_many 54 = .ok (.istore 4, 2) := by decide +kernel
theorem dX1_many_56 : decode cX1_many 56 = .ok (.aload_n 0, 1) := by decide +kernel
theorem dX1_many_57 : decode cX1_many 57 = .ok (.getfield 10, 3) := by decide +kernel
theorem dX1_many_60 : decode cX1_many 60 = .ok (.iload_n 1, 1) := by decide +kernel
theorem dX1_many_61 : decode cX1_many 61 = .ok (.iload 4, 2) := by decide +kernel
theorem dX1_many_63 : decode cX1_many 63 = .ok (.iload 4, 2) := by decide +kernel
theorem dX1_many_65 : decode cX1_many 65 = .ok (.iload_n 3, 1) := by decide +kernel
theorem dX1_many_66 : decode cX1_many 66 = .ok (.invokevirtual 76, 3) := by decide +kernel
theorem dX1_many_69 : decode cX1_many 69 = .ok (.ireturn, 1) := by decide +kernel
theorem dX1_points_0 : decode cX1_points 0 = .ok (.aload_n 0, 1) := by decide +kernel
theorem dX1_points_1 : decode cX1_points 1 = .ok (.getfield 10, 3) := by decide +kernel
theorem dX1_points_4 : decode cX1_points 4 = .ok (.iload_n 1, 1) := by decide +kernel
theorem dX1_points_5 : decode cX1_points 5 = .ok (.invokevirtual 64, 3) := by decide +kernel
theorem dX1_points_8 : decode cX1_points 8 = .ok (.ifCond .ne 6, 3) := by decide +kernel
theorem dX1_points_11 : decode cX1_points 11 = .ok (.ldc 55, 2) := by decide +kernel
theorem dX1_points_13 : decode cX1_points 13 = .ok (.ireturn, 1) := by decide +kernel
theorem dX1_points_14 : decode cX1_points 14 = .ok (.aload_n 0, 1) := by decide +kernel
theorem dX1_points_15 : decode cX1_points 15 = .ok (.getfield 10, 3) := by decide +kernel
theorem dX1_points_18 : decode cX1_points 18 = .ok (.iload_n 1, 1) := by decide +kernel
theorem dX1_points_19 : decode cX1_points 19 = .ok (.iconst 0, 1) := by decide +kernel
theorem dX1_points_20 : decode cX1_points 20 = .ok (.iconst 3, 1) := by decide +kernel
theorem dX1_points_21 : decode cX1_points 21 = .ok (.getstatic 80, 3) := by decide +kernel
theorem dX1_points_24 : decode cX1_points 24 = .ok (.invokevirtual 84, 3) := by decide +kernel
theorem dX1_points_27 : decode cX1_points 27 = .ok (.bipush 100, 2) := by decide +kernel
theorem dX1_points_29 : decode cX1_points 29 = .ok (.iadd, 1) := by decide +kernel
theorem dX1_points_30 : decode cX1_points 30 = .ok (.ireturn, 1) := by decide +kernel
theorem dX1_kindOf_0 : decode cX1_kindOf 0 = .ok (.iload_n 1, 1) := by decide +kernel
theorem dX1_kindOf_1 : decode cX1_kindOf 1 = .ok (.ifCond .lt 9, 3) := by decide +kernel
theorem dX1_kindOf_4 : decode cX1_kindOf 4 = .ok (.iload_n 1, 1) := by decide +kernel
theorem dX1_kindOf_5 : decode cX1_kindOf 5 = .ok (.bipush 10, 2) := by decide +kernel
theorem dX1_kindOf_7 : decode cX1_kindOf 7 = .ok (.if_icmp .lt 6, 3) := by decide +kernel
theorem dX1_kindOf_10 : decode cX1_kindOf 10 = .ok (.ldc 55, 2) := by decide +kernel
theorem dX1_kindOf_12 : decode cX1_kindOf 12 = .ok (.ireturn, 1) := by decide +kernel
theorem dX1_kindOf_13 : decode cX1_kindOf 13 = .ok (.iload_n 2, 1) := by decide +kernel
theorem dX1_kindOf_14 : decode cX1_kindOf 14 = .ok (.tableswitch 86 0 4 #[34, 40, 50, 67, 77], 34) := by decide +kernel
theorem dX1_kindOf_48 : decode cX1_kindOf 48 = .ok (.getstatic 88, 3) := by decide +kernel
theorem dX1_kindOf_51 : decode cX1_kindOf 51 = .ok (.iload_n 1, 1) := by decide +kernel
theorem dX1_kindOf_52 : decode cX1_kindOf 52 = .ok (.iaload, 1) := by decide +kernel
theorem dX1_kindOf_53 : decode cX1_kindOf 53 = .ok (.ireturn, 1) := by decide +kernel
theorem dX1_kindOf_54 : decode cX1_kindOf 54 = .ok (.aload_n 0, 1) := by decide +kernel
theorem dX1_kindOf_55 : decode cX1_kindOf 55 = .ok (.getfield 10, 3) := by decide +kernel
theorem dX1_kindOf_58 : decode cX1_kindOf 58 = .ok (.getfield 91, 3) := by decide +kernel
theorem dX1_kindOf_61 : decode cX1_kindOf 61 = .ok (.iload_n 1, 1) := by decide +kernel
theorem dX1_kindOf_62 : decode cX1_kindOf 62 = .ok (.iaload, 1) := by decide +kernel
theorem dX1_kindOf_63 : decode cX1_kindOf 63 = .ok (.ireturn, 1) := by decide +kernel
theorem dX1_kindOf_64 : decode cX1_kindOf 64 = .ok (.aload_n 0, 1) := by decide +kernel
theorem dX1_kindOf_65 : decode cX1_kindOf 65 = .ok (.getfield 10, 3) := by decide +kernel
theorem dX1_kindOf_68 : decode cX1_kindOf 68 = .ok (.iload_n 1, 1) := by decide +kernel
theorem dX1_kindOf_69 : decode cX1_kindOf 69 = .ok (.invokevirtual 94, 3) := by decide +kernel
theorem dX1_kindOf_72 : decode cX1_kindOf 72 = .ok (.ifCond .eq 7, 3) := by decide +kernel
theorem dX1_kindOf_75 : decode cX1_kindOf 75 = .ok (.iconst 1, 1) := by decide +kernel
theorem dX1_kindOf_76 : decode cX1_kindOf 76 = .ok (.goto 4, 3) := by decide +kernel
theorem dX1_kindOf_79 : decode cX1_kindOf 79 = .ok (.iconst 0, 1) := by decide +kernel
theorem dX1_kindOf_80 : decode cX1_kindOf 80 = .ok (.ireturn, 1) := by decide +kernel
theorem dX1_kindOf_81 : decode cX1_kindOf 81 = .ok (.aload_n 0, 1) := by decide +kernel
theorem dX1_kindOf_82 : decode cX1_kindOf 82 = .ok (.getfield 10, 3) := by decide +kernel
theorem dX1_kindOf_85 : decode cX1_kindOf 85 = .ok (.getfield 97, 3) := by decide +kernel
theorem dX1_kindOf_88 : decode cX1_kindOf 88 = .ok (.iload_n 1, 1) := by decide +kernel
theorem dX1_kindOf_89 : decode cX1_kindOf 89 = .ok (.iaload, 1) := by decide +kernel
theorem dX1_kindOf_90 : decode cX1_kindOf 90 = .ok (.ireturn, 1) := by decide +kernel
theorem dX1_kindOf_91 : decode cX1_kindOf 91 = .ok (.aload_n 0, 1) := by decide +kernel
theorem dX1_kindOf_92 : decode cX1_kindOf 92 = .ok (.getfield 10, 3) := by decide +kernel
theorem dX1_kindOf_95 : decode cX1_kindOf 95 = .ok (.iload_n 1, 1) := by decide +kernel
theorem dX1_kindOf_96 : decode cX1_kindOf 96 = .ok (.invokevirtual 100, 3) := by decide +kernel
theorem dX1_kindOf_99 : decode cX1_kindOf 99 = .ok (.ireturn, 1) := by decide +kernel
theorem dX1_kindOf_100 : decode cX1_kindOf 100 = .ok (.ldc 55, 2) := by decide +kernel
theorem dX1_kindOf_102 : decode cX1_kindOf 102 = .ok (.ireturn, 1) := by decide +kernel
theorem dX1_turn_0 : decode cX1_turn 0 = .ok (.iload_n 1, 1) := by decide +kernel
theorem dX1_turn_1 : decode cX1_turn 1 = .ok (.tableswitch 99 0 6 #[43, 51, 59, 67, 75, 83, 91], 43) := by decide +kernel
theorem dX1_turn_44 : decode cX1_turn 44 = .ok (.aload_n 0, 1) := by decide +kernel
theorem dX1_turn_45 : decode cX1_turn 45 = .ok (.getfield 10, 3) := by decide +kernel
theorem dX1_turn_48 : decode cX1_turn 48 = .ok (.getfield 103, 3) := by decide +kernel
theorem dX1_turn_51 : decode cX1_turn 51 = .ok (.ireturn, 1) := by decide +kernel
theorem dX1_turn_52 : decode cX1_turn 52 = .ok (.aload_n 0, 1) := by decide +kernel
theorem dX1_turn_53 : decode cX1_turn 53 = .ok (.getfield 10, 3) := by decide +kernel
theorem dX1_turn_56 : decode cX1_turn 56 = .ok (.getfield 106, 3) := by decide +kernel
theorem dX1_turn_59 : decode cX1_turn 59 = .ok (.ireturn, 1) := by decide +kernel
theorem dX1_turn_60 : decode cX1_turn 60 = .ok (.aload_n 0, 1) := by decide +kernel
theorem dX1_turn_61 : decode cX1_turn 61 = .ok (.getfield 10, 3) := by decide +kernel
theorem dX1_turn_64 : decode cX1_turn 64 = .ok (.getfield 109, 3) := by decide +kernel
theorem dX1_turn_67 : decode cX1_turn 67 = .ok (.ireturn, 1) := by decide +kernel
theorem dX1_turn_68 : decode cX1_turn 68 = .ok (.aload_n 0, 1) := by decide +kernel
theorem dX1_turn_69 : decode cX1_turn 69 = .ok (.getfield 10, 3) := by decide +kernel
theorem dX1_turn_72 : decode cX1_turn 72 = .ok (.getfield 112, 3) := by decide +kernel
theorem dX1_turn_75 : decode cX1_turn 75 = .ok (.ireturn, 1) := by decide +kernel
theorem dX1_turn_76 : decode cX1_turn 76 = .ok (.aload_n 0, 1) := by decide +kernel
theorem dX1_turn_77 : decode cX1_turn 77 = .ok (.getfield 10, 3) := by decide +kernel
theorem dX1_turn_80 : decode cX1_turn 80 = .ok (.getfield 115, 3) := by decide +kernel
theorem dX1_turn_83 : decode cX1_turn 83 = .ok (.ireturn, 1) := by decide +kernel
theorem dX1_turn_84 : decode cX1_turn 84 = .ok (.aload_n 0, 1) := by decide +kernel
theorem dX1_turn_85 : decode cX1_turn 85 = .ok (.getfield 10, 3) := by decide +kernel
theorem dX1_turn_88 : decode cX1_turn 88 = .ok (.invokevirtual 118, 3) := by decide +kernel
theorem dX1_turn_91 : decode cX1_turn 91 = .ok (.ireturn, 1) := by decide +kernel
theorem dX1_turn_92 : decode cX1_turn 92 = .ok (.aload_n 0, 1) := by decide +kernel
theorem dX1_turn_93 : decode cX1_turn 93 = .ok (.getfield 10, 3) := by decide +kernel
theorem dX1_turn_96 : decode cX1_turn 96 = .ok (.getfield 121, 3) := by decide +kernel
theorem dX1_turn_99 : decode cX1_turn 99 = .ok (.ireturn, 1) := by decide +kernel
theorem dX1_turn_100 : decode cX1_turn 100 = .ok (.ldc 55, 2) := by decide +kernel
theorem dX1_turn_102 : decode cX1_turn 102 = .ok (.ireturn, 1) := by decide +kernel
theorem dX1_purse_0 : decode cX1_purse 0 = .ok (.aload_n 0, 1) := by decide +kernel
theorem dX1_purse_1 : decode cX1_purse 1 = .ok (.getfield 10, 3) := by decide +kernel
theorem dX1_purse_4 : decode cX1_purse 4 = .ok (.getfield 106, 3) := by decide +kernel
theorem dX1_purse_7 : decode cX1_purse 7 = .ok (.istore_n 1, 1) := by decide +kernel
theorem dX1_purse_8 : decode cX1_purse 8 = .ok (.iconst 0, 1) := by decide +kernel
theorem dX1_purse_9 : decode cX1_purse 9 = .ok (.istore_n 2, 1) := by decide +kernel
theorem dX1_purse_10 : decode cX1_purse 10 = .ok (.iload_n 2, 1) := by decide +kernel
theorem dX1_purse_11 : decode cX1_purse 11 = .ok (.iconst 2, 1) := by decide +kernel
theorem dX1_purse_12 : decode cX1_purse 12 = .ok (.if_icmp .gt 35, 3) := by decide +kernel
theorem dX1_purse_15 : decode cX1_purse 15 = .ok (.iload_n 1, 1) := by decide +kernel
theorem dX1_purse_16 : decode cX1_purse 16 = .ok (.getstatic 124, 3) := by decide +kernel
theorem dX1_purse_19 : decode cX1_purse 19 = .ok (.iload_n 2, 1) := by decide +kernel
theorem dX1_purse_20 : decode cX1_purse 20 = .ok (.iaload, 1) := by decide +kernel
theorem dX1_purse_21 : decode cX1_purse 21 = .ok (.aload_n 0, 1) := by decide +kernel
theorem dX1_purse_22 : decode cX1_purse 22 = .ok (.getfield 10, 3) := by decide +kernel
theorem dX1_purse_25 : decode cX1_purse 25 = .ok (.aload_n 0, 1) := by decide +kernel
theorem dX1_purse_26 : decode cX1_purse 26 = .ok (.getfield 10, 3) := by decide +kernel
theorem dX1_purse_29 : decode cX1_purse 29 = .ok (.getfield 103, 3) := by decide +kernel
theorem dX1_purse_32 : decode cX1_purse 32 = .ok (.iconst 2, 1) := by decide +kernel
theorem dX1_purse_33 : decode cX1_purse 33 = .ok (.iconst 2, 1) := by decide +kernel
theorem dX1_purse_34 : decode cX1_purse 34 = .ok (.iload_n 2, 1) := by decide +kernel
theorem dX1_purse_35 : decode cX1_purse 35 = .ok (.invokevirtual 76, 3) := by decide +kernel
theorem dX1_purse_38 : decode cX1_purse 38 = .ok (.imul, 1) := by decide +kernel
theorem dX1_purse_39 : decode cX1_purse 39 = .ok (.iadd, 1) := by decide +kernel
theorem dX1_purse_40 : decode cX1_purse 40 = .ok (.istore_n 1, 1) := by decide +kernel
theorem dX1_purse_41 : decode cX1_purse 41 = .ok (.iinc 2 1, 3) := by decide +kernel
theorem dX1_purse_44 : decode cX1_purse 44 = .ok (.goto (-34), 3) := by decide +kernel
theorem dX1_purse_47 : decode cX1_purse 47 = .ok (.iload_n 1, 1) := by decide +kernel
theorem dX1_purse_48 : decode cX1_purse 48 = .ok (.ireturn, 1) := by decide +kernel
theorem dX1_outcome_0 : decode cX1_outcome 0 = .ok (.iload_n 1, 1) := by decide +kernel
theorem dX1_outcome_1 : decode cX1_outcome 1 = .ok (.ifCond .lt 8, 3) := by decide +kernel
theorem dX1_outcome_4 : decode cX1_outcome 4 = .ok (.iload_n 1, 1) := by decide +kernel
theorem dX1_outcome_5 : decode cX1_outcome 5 = .ok (.iconst 4, 1) := by decide +kernel
theorem dX1_outcome_6 : decode cX1_outcome 6 = .ok (.if_icmp .le 6, 3) := by decide +kernel
theorem dX1_outcome_9 : decode cX1_outcome 9 = .ok (.ldc 55, 2) := by decide +kernel
theorem dX1_outcome_11 : decode cX1_outcome 11 = .ok (.ireturn, 1) := by decide +kernel
theorem dX1_outcome_12 : decode cX1_outcome 12 = .ok (.aload_n 0, 1) := by decide +kernel
theorem dX1_outcome_13 : decode cX1_outcome 13 = .ok (.invokevirtual 35, 3) := by decide +kernel
theorem dX1_outcome_16 : decode cX1_outcome 16 = .ok (.astore_n 2, 1) := by decide +kernel
theorem dX1_outcome_17 : decode cX1_outcome 17 = .ok (.aload_n 2, 1) := by decide +kernel
theorem dX1_outcome_18 : decode cX1_outcome 18 = .ok (.bipush 60, 2) := by decide +kernel
theorem dX1_outcome_20 : decode cX1_outcome 20 = .ok (.invokevirtual 61, 3) := by decide +kernel
theorem dX1_outcome_23 : decode cX1_outcome 23 = .ok (.istore_n 3, 1) := by decide +kernel
theorem dX1_outcome_24 : decode cX1_outcome 24 = .ok (.aload_n 2, 1) := by decide +kernel
theorem dX1_outcome_25 : decode cX1_outcome 25 = .ok (.invokevirtual 127, 3) := by decide +kernel
theorem dX1_outcome_28 : decode cX1_outcome 28 = .ok (.istore 4, 2) := by decide +kernel
theorem dX1_outcome_30 : decode cX1_outcome 30 = .ok (.iload_n 1, 1) := by decide +kernel
theorem dX1_outcome_31 : decode cX1_outcome 31 = .ok (.tableswitch 62 0 3 #[29, 32, 47, 49], 29) := by decide +kernel
theorem dX1_outcome_60 : decode cX1_outcome 60 = .ok (.iload 4, 2) := by decide +kernel
theorem dX1_outcome_62 : decode cX1_outcome 62 = .ok (.ireturn, 1) := by decide +kernel
theorem dX1_outcome_63 : decode cX1_outcome 63 = .ok (.aload_n 2, 1) := by decide +kernel
theorem dX1_outcome_64 : decode cX1_outcome 64 = .ok (.iload 4, 2) := by decide +kernel
theorem dX1_outcome_66 : decode cX1_outcome 66 = .ok (.iconst 0, 1) := by decide +kernel
theorem dX1_outcome_67 : decode cX1_outcome 67 = .ok (.iconst 3, 1) := by decide +kernel
theorem dX1_outcome_68 : decode cX1_outcome 68 = .ok (.getstatic 80, 3) := by decide +kernel
theorem dX1_outcome_71 : decode cX1_outcome 71 = .ok (.invokevirtual 84, 3) := by decide +kernel
theorem dX1_outcome_74 : decode cX1_outcome 74 = .ok (.bipush 100, 2) := by decide +kernel
theorem dX1_outcome_76 : decode cX1_outcome 76 = .ok (.iadd, 1) := by decide +kernel
theorem dX1_outcome_77 : decode cX1_outcome 77 = .ok (.ireturn, 1) := by decide +kernel
theorem dX1_outcome_78 : decode cX1_outcome 78 = .ok (.iload_n 3, 1) := by decide +kernel
theorem dX1_outcome_79 : decode cX1_outcome 79 = .ok (.ireturn, 1) := by decide +kernel
theorem dX1_outcome_80 : decode cX1_outcome 80 = .ok (.aload_n 2, 1) := by decide +kernel
theorem dX1_outcome_81 : decode cX1_outcome 81 = .ok (.getfield 56, 3) := by decide +kernel
theorem dX1_outcome_84 : decode cX1_outcome 84 = .ok (.ifCond .eq 7, 3) := by decide +kernel
theorem dX1_outcome_87 : decode cX1_outcome 87 = .ok (.iconst 1, 1) := by decide +kernel
theorem dX1_outcome_88 : decode cX1_outcome 88 = .ok (.goto 4, 3) := by decide +kernel
theorem dX1_outcome_91 : decode cX1_outcome 91 = .ok (.iconst 0, 1) := by decide +kernel
theorem dX1_outcome_92 : decode cX1_outcome 92 = .ok (.ireturn, 1) := by decide +kernel
theorem dX1_outcome_93 : decode cX1_outcome 93 = .ok (.aload_n 2, 1) := by decide +kernel
theorem dX1_outcome_94 : decode cX1_outcome 94 = .ok (.getfield 91, 3) := by decide +kernel
theorem dX1_outcome_97 : decode cX1_outcome 97 = .ok (.iconst 5, 1) := by decide +kernel
theorem dX1_outcome_98 : decode cX1_outcome 98 = .ok (.iaload, 1) := by decide +kernel
theorem dX1_outcome_99 : decode cX1_outcome 99 = .ok (.ireturn, 1) := by decide +kernel
theorem dX1_advice_0 : decode cX1_advice 0 = .ok (.iload_n 1, 1) := by decide +kernel
theorem dX1_advice_1 : decode cX1_advice 1 = .ok (.ifCond .lt 8, 3) := by decide +kernel
theorem dX1_advice_4 : decode cX1_advice 4 = .ok (.iload_n 1, 1) := by decide +kernel
theorem dX1_advice_5 : decode cX1_advice 5 = .ok (.iconst 1, 1) := by decide +kernel
theorem dX1_advice_6 : decode cX1_advice 6 = .ok (.if_icmp .le 6, 3) := by decide +kernel
theorem dX1_advice_9 : decode cX1_advice 9 = .ok (.ldc 55, 2) := by decide +kernel
theorem dX1_advice_11 : decode cX1_advice 11 = .ok (.ireturn, 1) := by decide +kernel
theorem dX1_advice_12 : decode cX1_advice 12 = .ok (.aload_n 0, 1) := by decide +kernel
theorem dX1_advice_13 : decode cX1_advice 13 = .ok (.getfield 10, 3) := by decide +kernel
theorem dX1_advice_16 : decode cX1_advice 16 = .ok (.invokevirtual 118, 3) := by decide +kernel
theorem dX1_advice_19 : decode cX1_advice 19 = .ok (.ifCond .ne 6, 3) := by decide +kernel
theorem dX1_advice_22 : decode cX1_advice 22 = .ok (.ldc 75, 2) := by decide +kernel
theorem dX1_advice_24 : decode cX1_advice 24 = .ok (.ireturn, 1) := by decide +kernel
theorem dX1_advice_25 : decode cX1_advice 25 = .ok (.bipush 10, 2) := by decide +kernel
theorem dX1_advice_27 : decode cX1_advice 27 = .ok (.istore_n 2, 1) := by decide +kernel
theorem dX1_advice_28 : decode cX1_advice 28 = .ok (.iconst 0, 1) := by decide +kernel
theorem dX1_advice_29 : decode cX1_advice 29 = .ok (.istore_n 3, 1) := by decide +kernel
theorem dX1_advice_30 : decode cX1_advice 30 = .ok (.iconst 0, 1) := by decide +kernel
theorem dX1_advice_31 : decode cX1_advice 31 = .ok (.istore 4, 2) := by decide +kernel
theorem dX1_advice_33 : decode cX1_advice 33 = .ok (.iload 4, 2) := by decide +kernel
theorem dX1_advice_35 : decode cX1_advice 35 = .ok (.bipush 10, 2) := by decide +kernel
theorem dX1_advice_37 : decode cX1_advice 37 = .ok (.if_icmp .ge 47, 3) := by decide +kernel
theorem dX1_advice_40 : decode cX1_advice 40 = .ok (.aload_n 0, 1) := by decide +kernel
theorem dX1_advice_41 : decode cX1_advice 41 = .ok (.getfield 10, 3) := by decide +kernel
theorem dX1_advice_44 : decode cX1_advice 44 = .ok (.iload 4, 2) := by decide +kernel
theorem dX1_advice_46 : decode cX1_advice 46 = .ok (.invokevirtual 100, 3) := by decide +kernel
theorem dX1_advice_49 : decode cX1_advice 49 = .ok (.ifCond .ne 29, 3) := by decide +kernel
theorem dX1_advice_52 : decode cX1_advice 52 = .ok (.aload_n 0, 1) := by decide +kernel
theorem dX1_advice_53 : decode cX1_advice 53 = .ok (.iload 4, 2) := by decide +kernel
theorem dX1_advice_55 : decode cX1_advice 55 = .ok (.invokevirtual 130, 3) := by decide +kernel
theorem dX1_advice_58 : decode cX1_advice 58 = .ok (.istore 5, 2) := by decide +kernel
theorem dX1_advice_60 : decode cX1_advice 60 = .ok (.iload_n 2, 1) := by decide +kernel
theorem dX1_advice_61 : decode cX1_advice 61 = .ok (.bipush 10, 2) := by decide +kernel
theorem dX1_advice_63 : decode cX1_advice 63 = .ok (.if_icmp .eq 9, 3) := by decide +kernel
theorem dX1_advice_66 : decode cX1_advice 66 = .ok (.iload 5, 2) := by decide +kernel
theorem dX1_advice_68 : decode cX1_advice 68 = .ok (.iload_n 3, 1) := by decide +kernel
theorem dX1_advice_69 : decode cX1_advice 69 = .ok (.if_icmp .le 9, 3) := by decide +kernel
theorem dX1_advice_72 : decode cX1_advice 72 = .ok (.iload 4, 2) := by decide +kernel
theorem dX1_advice_74 : decode cX1_advice 74 = .ok (.istore_n 2, 1) := by decide +kernel
theorem dX1_advice_75 : decode cX1_advice 75 = .ok (.iload 5, 2) := by decide +kernel
theorem dX1_advice_77 : decode cX1_advice 77 = .ok (.istore_n 3, 1) := by decide +kernel
theorem dX1_advice_78 : decode cX1_advice 78 = .ok (.iinc 4 1, 3) := by decide +kernel
theorem dX1_advice_81 : decode cX1_advice 81 = .ok (.goto (-48), 3) := by decide +kernel
theorem dX1_advice_84 : decode cX1_advice 84 = .ok (.aload_n 0, 1) := by decide +kernel
theorem dX1_advice_85 : decode cX1_advice 85 = .ok (.bipush 10, 2) := by decide +kernel
theorem dX1_advice_87 : decode cX1_advice 87 = .ok (.invokevirtual 130, 3) := by decide +kernel
theorem dX1_advice_90 : decode cX1_advice 90 = .ok (.istore 4, 2) := by decide +kernel
theorem dX1_advice_92 : decode cX1_advice 92 = .ok (.iload 4, 2) := by decide +kernel
theorem dX1_advice_94 : decode cX1_advice 94 = .ok (.iload_n 3, 1) := by decide +kernel
theorem dX1_advice_95 : decode cX1_advice 95 = .ok (.if_icmp .le 9, 3) := by decide +kernel
theorem dX1_advice_98 : decode cX1_advice 98 = .ok (.bipush 10, 2) := by decide +kernel
theorem dX1_advice_100 : decode cX1_advice 100 = .ok (.istore_n 2, 1) := by decide +kernel
theorem dX1_advice_101 : decode cX1_advice 101 = .ok (.iload 4, 2) := by decide +kernel
theorem dX1_advice_103 : decode cX1_advice 103 = .ok (.istore_n 3, 1) := by decide +kernel
theorem dX1_advice_104 : decode cX1_advice 104 = .ok (.iload_n 1, 1) := by decide +kernel
theorem dX1_advice_105 : decode cX1_advice 105 = .ok (.ifCond .ne 7, 3) := by decide +kernel
theorem dX1_advice_108 : decode cX1_advice 108 = .ok (.iload_n 2, 1) := by decide +kernel
theorem dX1_advice_109 : decode cX1_advice 109 = .ok (.goto 7, 3) := by decide +kernel
theorem dX1_advice_112 : decode cX1_advice 112 = .ok (.iload_n 3, 1) := by decide +kernel
theorem dX1_advice_113 : decode cX1_advice 113 = .ok (.bipush 100, 2) := by decide +kernel
theorem dX1_advice_115 : decode cX1_advice 115 = .ok (.iadd, 1) := by decide +kernel
theorem dX1_advice_116 : decode cX1_advice 116 = .ok (.ireturn, 1) := by decide +kernel
theorem dX1_wealth_0 : decode cX1_wealth 0 = .ok (.aload_n 0, 1) := by decide +kernel
theorem dX1_wealth_1 : decode cX1_wealth 1 = .ok (.getfield 10, 3) := by decide +kernel
theorem dX1_wealth_4 : decode cX1_wealth 4 = .ok (.iload_n 1, 1) := by decide +kernel
theorem dX1_wealth_5 : decode cX1_wealth 5 = .ok (.invokevirtual 64, 3) := by decide +kernel
theorem dX1_wealth_8 : decode cX1_wealth 8 = .ok (.ifCond .ne 6, 3) := by decide +kernel
theorem dX1_wealth_11 : decode cX1_wealth 11 = .ok (.ldc 55, 2) := by decide +kernel
theorem dX1_wealth_13 : decode cX1_wealth 13 = .ok (.ireturn, 1) := by decide +kernel
theorem dX1_wealth_14 : decode cX1_wealth 14 = .ok (.aload_n 0, 1) := by decide +kernel
theorem dX1_wealth_15 : decode cX1_wealth 15 = .ok (.getfield 10, 3) := by decide +kernel
theorem dX1_wealth_18 : decode cX1_wealth 18 = .ok (.iload_n 1, 1) := by decide +kernel
theorem dX1_wealth_19 : decode cX1_wealth 19 = .ok (.iconst 0, 1) := by decide +kernel
theorem dX1_wealth_20 : decode cX1_wealth 20 = .ok (.iconst 3, 1) := by decide +kernel
theorem dX1_wealth_21 : decode cX1_wealth 21 = .ok (.bipush 10, 2) := by decide +kernel
theorem dX1_wealth_23 : decode cX1_wealth 23 = .ok (.invokevirtual 76, 3) := by decide +kernel
theorem dX1_wealth_26 : decode cX1_wealth 26 = .ok (.istore_n 2, 1) := by decide +kernel
theorem dX1_wealth_27 : decode cX1_wealth 27 = .ok (.iload_n 2, 1) := by decide +kernel
theorem dX1_wealth_28 : decode cX1_wealth 28 = .ok (.ifCond .gt 6, 3) := by decide +kernel
theorem dX1_wealth_31 : decode cX1_wealth 31 = .ok (.ldc 75, 2) := by decide +kernel
theorem dX1_wealth_33 : decode cX1_wealth 33 = .ok (.ireturn, 1) := by decide +kernel
theorem dX1_wealth_34 : decode cX1_wealth 34 = .ok (.aload_n 0, 1) := by decide +kernel
theorem dX1_wealth_35 : decode cX1_wealth 35 = .ok (.getfield 10, 3) := by decide +kernel
theorem dX1_wealth_38 : decode cX1_wealth 38 = .ok (.iload_n 1, 1) := by decide +kernel
theorem dX1_wealth_39 : decode cX1_wealth 39 = .ok (.iconst 0, 1) := by decide +kernel
theorem dX1_wealth_40 : decode cX1_wealth 40 = .ok (.iconst 3, 1) := by decide +kernel
theorem dX1_wealth_41 : decode cX1_wealth 41 = .ok (.getstatic 124, 3) := by decide +kernel
theorem dX1_wealth_44 : decode cX1_wealth 44 = .ok (.invokevirtual 84, 3) := by decide +kernel
theorem dX1_wealth_47 : decode cX1_wealth 47 = .ok (.istore_n 3, 1) := by decide +kernel
theorem dX1_wealth_48 : decode cX1_wealth 48 = .ok (.iload_n 3, 1) := by decide +kernel
theorem dX1_wealth_49 : decode cX1_wealth 49 = .ok (.i2f, 1) := by decide +kernel
theorem dX1_wealth_50 : decode cX1_wealth 50 = .ok (.iload_n 2, 1) := by decide +kernel
theorem dX1_wealth_51 : decode cX1_wealth 51 = .ok (.i2f, 1) := by decide +kernel
theorem dX1_wealth_52 : decode cX1_wealth 52 = .ok (.fdiv, 1) := by decide +kernel
theorem dX1_wealth_53 : decode cX1_wealth 53 = .ok (.invokestatic 133, 3) := by decide +kernel
theorem dX1_wealth_56 : decode cX1_wealth 56 = .ok (.ireturn, 1) := by decide +kernel
theorem dX1_count_0 : decode cX1_count 0 = .ok (.iload_n 1, 1) := by decide +kernel
theorem dX1_count_1 : decode cX1_count 1 = .ok (.tableswitch 179 0 20 #[99, 107, 115, 131, 139, 150, 161, 166, 179, 179, 179, 179, 179, 179, 179, 179, 179, 179, 179, 179, 171], 99) := by decide +kernel
theorem dX1_count_100 : decode cX1_count 100 = .ok (.aload_n 0, 1) := by decide +kernel
theorem dX1_count_101 : decode cX1_count 101 = .ok (.getfield 10, 3) := by decide +kernel
theorem dX1_count_104 : decode cX1_count 104 = .ok (.getfield 137, 3) := by decide +kernel
theorem dX1_count_107 : decode cX1_count 107 = .ok (.ireturn, 1) := by decide +kernel
theorem dX1_count_108 : decode cX1_count 108 = .ok (.aload_n 0, 1) := by decide +kernel
theorem dX1_count_109 : decode cX1_count 109 = .ok (.getfield 10, 3) := by decide +kernel
theorem dX1_count_112 : decode cX1_count 112 = .ok (.getfield 140, 3) := by decide +kernel
theorem dX1_count_115 : decode cX1_count 115 = .ok (.ireturn, 1) := by decide +kernel
theorem dX1_count_116 : decode cX1_count 116 = .ok (.aload_n 0, 1) := by decide +kernel
theorem dX1_count_117 : decode cX1_count 117 = .ok (.getfield 10, 3) := by decide +kernel
theorem dX1_count_120 : decode cX1_count 120 = .ok (.getfield 56, 3) := by decide +kernel
theorem dX1_count_123 : decode cX1_count 123 = .ok (.ifCond .eq 7, 3) := by decide +kernel
theorem dX1_count_126 : decode cX1_count 126 = .ok (.iconst 1, 1) := by decide +kernel
theorem dX1_count_127 : decode cX1_count 127 = .ok (.goto 4, 3) := by decide +kernel
theorem dX1_count_130 : decode cX1_count 130 = .ok (.iconst 0, 1) := by decide +kernel
theorem dX1_count_131 : decode cX1_count 131 = .ok (.ireturn, 1) := by decide +kernel
theorem dX1_count_132 : decode cX1_count 132 = .ok (.aload_n 0, 1) := by decide +kernel
theorem dX1_count_133 : decode cX1_count 133 = .ok (.getfield 10, 3) := by decide +kernel
theorem dX1_count_136 : decode cX1_count 136 = .ok (.invokevirtual 143, 3) := by decide +kernel
theorem dX1_count_139 : decode cX1_count 139 = .ok (.ireturn, 1) := by decide +kernel
theorem dX1_count_140 : decode cX1_count 140 = .ok (.aload_n 0, 1) := by decide +kernel
theorem dX1_count_141 : decode cX1_count 141 = .ok (.getfield 10, 3) := by decide +kernel
theorem dX1_count_144 : decode cX1_count 144 = .ok (.getfield 97, 3) := by decide +kernel
theorem dX1_count_147 : decode cX1_count 147 = .ok (.invokestatic 146, 3) := by decide +kernel
theorem dX1_count_150 : decode cX1_count 150 = .ok (.ireturn, 1) := by decide +kernel
theorem dX1_count_151 : decode cX1_count 151 = .ok (.aload_n 0, 1) := by decide +kernel
theorem dX1_count_152 : decode cX1_count 152 = .ok (.getfield 10, 3) := by decide +kernel
theorem dX1_count_155 : decode cX1_count 155 = .ok (.getfield 91, 3) := by decide +kernel
theorem dX1_count_158 : decode cX1_count 158 = .ok (.invokestatic 146, 3) := by decide +kernel
theorem dX1_count_161 : decode cX1_count 161 = .ok (.ireturn, 1) := by decide +kernel
theorem dX1_count_162 : decode cX1_count 162 = .ok (.aload_n 0, 1) := by decide +kernel
theorem dX1_count_163 : decode cX1_count 163 = .ok (.getfield 150, 3) := by decide +kernel
theorem dX1_count_166 : decode cX1_count 166 = .ok (.ireturn, 1) := by decide +kernel
theorem dX1_count_167 : decode cX1_count 167 = .ok (.aload_n 0, 1) := by decide +kernel
theorem dX1_count_168 : decode cX1_count 168 = .ok (.getfield 153, 3) := by decide +kernel
theorem dX1_count_171 : decode cX1_count 171 = .ok (.ireturn, 1) := by decide +kernel
theorem dX1_count_172 : decode cX1_count 172 = .ok (.aload_n 0, 1) := by decide +kernel
theorem dX1_count_173 : decode cX1_count 173 = .ok (.getfield 10, 3) := by decide +kernel
theorem dX1_count_176 : decode cX1_count 176 = .ok (.getfield 27, 3) := by decide +kernel
theorem dX1_count_179 : decode cX1_count 179 = .ok (.ireturn, 1) := by decide +kernel
theorem dX1_count_180 : decode cX1_count 180 = .ok (.ldc 55, 2) := by decide +kernel
theorem dX1_count_182 : decode cX1_count 182 = .ok (.ireturn, 1) := by decide +kernel
theorem dX1_undo_0 : decode cX1_undo 0 = .ok (.aload_n 0, 1) := by decide +kernel
theorem dX1_undo_1 : decode cX1_undo 1 = .ok (.getfield 150, 3) := by decide +kernel
theorem dX1_undo_4 : decode cX1_undo 4 = .ok (.ifCond .le 11, 3) := by decide +kernel
theorem dX1_undo_7 : decode cX1_undo 7 = .ok (.aload_n 0, 1) := by decide +kernel
theorem dX1_undo_8 : decode cX1_undo 8 = .ok (.getfield 150, 3) := by decide +kernel
theorem dX1_undo_11 : decode cX1_undo 11 = .ok (.iconst 4, 1) := by decide +kernel
theorem dX1_undo_12 : decode cX1_undo 12 = .ok (.if_icmp .le 6, 3) := by decide +kernel
theorem dX1_undo_15 : decode cX1_undo 15 = .ok (.ldc 60, 2) := by decide +kernel
theorem dX1_undo_17 : decode cX1_undo 17 = .ok (.ireturn, 1) := by decide +kernel
theorem dX1_undo_18 : decode cX1_undo 18 = .ok (.aload_n 0, 1) := by decide +kernel
theorem dX1_undo_19 : decode cX1_undo 19 = .ok (.dup, 1) := by decide +kernel
theorem dX1_undo_20 : decode cX1_undo 20 = .ok (.getfield 150, 3) := by decide +kernel
theorem dX1_undo_23 : decode cX1_undo 23 = .ok (.iconst 1, 1) := by decide +kernel
theorem dX1_undo_24 : decode cX1_undo 24 = .ok (.isub, 1) := by decide +kernel
theorem dX1_undo_25 : decode cX1_undo 25 = .ok (.putfield 150, 3) := by decide +kernel
theorem dX1_undo_28 : decode cX1_undo 28 = .ok (.aload_n 0, 1) := by decide +kernel
theorem dX1_undo_29 : decode cX1_undo 29 = .ok (.getfield 10, 3) := by decide +kernel
theorem dX1_undo_32 : decode cX1_undo 32 = .ok (.astore_n 1, 1) := by decide +kernel
theorem dX1_undo_33 : decode cX1_undo 33 = .ok (.aload_n 0, 1) := by decide +kernel
theorem dX1_undo_34 : decode cX1_undo 34 = .ok (.aload_n 0, 1) := by decide +kernel
theorem dX1_undo_35 : decode cX1_undo 35 = .ok (.getfield 19, 3) := by decide +kernel
theorem dX1_undo_38 : decode cX1_undo 38 = .ok (.aload_n 0, 1) := by decide +kernel
theorem dX1_undo_39 : decode cX1_undo 39 = .ok (.getfield 150, 3) := by decide +kernel
theorem dX1_undo_42 : decode cX1_undo 42 = .ok (.aaload, 1) := by decide +kernel
theorem dX1_undo_43 : decode cX1_undo 43 = .ok (.putfield 10, 3) := by decide +kernel
theorem dX1_undo_46 : decode cX1_undo 46 = .ok (.aload_n 0, 1) := by decide +kernel
theorem dX1_undo_47 : decode cX1_undo 47 = .ok (.getfield 19, 3) := by decide +kernel
theorem dX1_undo_50 : decode cX1_undo 50 = .ok (.aload_n 0, 1) := by decide +kernel
theorem dX1_undo_51 : decode cX1_undo 51 = .ok (.getfield 150, 3) := by decide +kernel
theorem dX1_undo_54 : decode cX1_undo 54 = .ok (.aload_n 1, 1) := by decide +kernel
theorem dX1_undo_55 : decode cX1_undo 55 = .ok (.aastore, 1) := by decide +kernel
theorem dX1_undo_56 : decode cX1_undo 56 = .ok (.aload_n 0, 1) := by decide +kernel
theorem dX1_undo_57 : decode cX1_undo 57 = .ok (.getfield 150, 3) := by decide +kernel
theorem dX1_undo_60 : decode cX1_undo 60 = .ok (.ireturn, 1) := by decide +kernel
theorem dX1_type_0 : decode cX1_type 0 = .ok (.iload_n 1, 1) := by decide +kernel
theorem dX1_type_1 : decode cX1_type 1 = .ok (.bipush 32, 2) := by decide +kernel
theorem dX1_type_3 : decode cX1_type 3 = .ok (.if_icmp .lt 9, 3) := by decide +kernel
theorem dX1_type_6 : decode cX1_type 6 = .ok (.iload_n 1, 1) := by decide +kernel
theorem dX1_type_7 : decode cX1_type 7 = .ok (.bipush 126, 2) := by decide +kernel
theorem dX1_type_9 : decode cX1_type 9 = .ok (.if_icmp .le 6, 3) := by decide +kernel
theorem dX1_type_12 : decode cX1_type 12 = .ok (.ldc 55, 2) := by decide +kernel
theorem dX1_type_14 : decode cX1_type 14 = .ok (.ireturn, 1) := by decide +kernel
theorem dX1_type_15 : decode cX1_type 15 = .ok (.aload_n 0, 1) := by decide +kernel
theorem dX1_type_16 : decode cX1_type 16 = .ok (.getfield 153, 3) := by decide +kernel
theorem dX1_type_19 : decode cX1_type 19 = .ok (.bipush 60, 2) := by decide +kernel
theorem dX1_type_21 : decode cX1_type 21 = .ok (.if_icmp .lt 6, 3) := by decide +kernel
theorem dX1_type_24 : decode cX1_type 24 = .ok (.ldc 156, 2) := by decide +kernel
theorem dX1_type_26 : decode cX1_type 26 = .ok (.ireturn, 1) := by decide +kernel
theorem dX1_type_27 : decode cX1_type 27 = .ok (.aload_n 0, 1) := by decide +kernel
theorem dX1_type_28 : decode cX1_type 28 = .ok (.getfield 23, 3) := by decide +kernel
theorem dX1_type_31 : decode cX1_type 31 = .ok (.aload_n 0, 1) := by decide +kernel
theorem dX1_type_32 : decode cX1_type 32 = .ok (.getfield 153, 3) := by decide +kernel
theorem dX1_type_35 : decode cX1_type 35 = .ok (.iload_n 1, 1) := by decide +kernel
theorem dX1_type_36 : decode cX1_type 36 = .ok (.i2c, 1) := by decide +kernel
theorem dX1_type_37 : decode cX1_type 37 = .ok (.castore, 1) := by decide +kernel
theorem dX1_type_38 : decode cX1_type 38 = .ok (.aload_n 0, 1) := by decide +kernel
theorem dX1_type_39 : decode cX1_type 39 = .ok (.dup, 1) := by decide +kernel
theorem dX1_type_40 : decode cX1_type 40 = .ok (.getfield 153, 3) := by decide +kernel
theorem dX1_type_43 : decode cX1_type 43 = .ok (.iconst 1, 1) := by decide +kernel
theorem dX1_type_44 : decode cX1_type 44 = .ok (.iadd, 1) := by decide +kernel
theorem dX1_type_45 : decode cX1_type 45 = .ok (.putfield 153, 3) := by decide +kernel
theorem dX1_type_48 : decode cX1_type 48 = .ok (.aload_n 0, 1) := by decide +kernel
theorem dX1_type_49 : decode cX1_type 49 = .ok (.getfield 153, 3) := by decide +kernel
theorem dX1_type_52 : decode cX1_type 52 = .ok (.ireturn, 1) := by decide +kernel
theorem dX1_clearText_0 : decode cX1_clearText 0 = .ok (.aload_n 0, 1) := by decide +kernel
theorem dX1_clearText_1 : decode cX1_clearText 1 = .ok (.getfield 153, 3) := by decide +kernel
theorem dX1_clearText_4 : decode cX1_clearText 4 = .ok (.istore_n 1, 1) := by decide +kernel
theorem dX1_clearText_5 : decode cX1_clearText 5 = .ok (.aload_n 0, 1) := by decide +kernel
theorem dX1_clearText_6 : decode cX1_clearText 6 = .ok (.iconst 0, 1) := by decide +kernel
theorem dX1_clearText_7 : decode cX1_clearText 7 = .ok (.putfield 153, 3) := by decide +kernel
theorem dX1_clearText_10 : decode cX1_clearText 10 = .ok (.iload_n 1, 1) := by decide +kernel
theorem dX1_clearText_11 : decode cX1_clearText 11 = .ok (.ireturn, 1) := by decide +kernel
theorem dX1_fault_0 : decode cX1_fault 0 = .ok (.iload_n 1, 1) := by decide +kernel
theorem dX1_fault_1 : decode cX1_fault 1 = .ok (.ifCond .lt 8, 3) := by decide +kernel
theorem dX1_fault_4 : decode cX1_fault 4 = .ok (.iload_n 1, 1) := by decide +kernel
theorem dX1_fault_5 : decode cX1_fault 5 = .ok (.iconst 2, 1) := by decide +kernel
theorem dX1_fault_6 : decode cX1_fault 6 = .ok (.if_icmp .le 6, 3) := by decide +kernel
theorem dX1_fault_9 : decode cX1_fault 9 = .ok (.ldc 55, 2) := by decide +kernel
theorem dX1_fault_11 : decode cX1_fault 11 = .ok (.ireturn, 1) := by decide +kernel
theorem dX1_fault_12 : decode cX1_fault 12 = .ok (.aload_n 0, 1) := by decide +kernel
theorem dX1_fault_13 : decode cX1_fault 13 = .ok (.invokevirtual 157, 3) := by decide +kernel
theorem dX1_fault_16 : decode cX1_fault 16 = .ok (.iconst (-1), 1) := by decide +kernel
theorem dX1_fault_17 : decode cX1_fault 17 = .ok (.if_icmp .eq 6, 3) := by decide +kernel
theorem dX1_fault_20 : decode cX1_fault 20 = .ok (.ldc 75, 2) := by decide +kernel
theorem dX1_fault_22 : decode cX1_fault 22 = .ok (.ireturn, 1) := by decide +kernel
theorem dX1_fault_23 : decode cX1_fault 23 = .ok (.iload_n 1, 1) := by decide +kernel
theorem dX1_fault_24 : decode cX1_fault 24 = .ok (.ifCond .ne 8, 3) := by decide +kernel
theorem dX1_fault_27 : decode cX1_fault 27 = .ok (.aload_n 0, 1) := by decide +kernel
theorem dX1_fault_28 : decode cX1_fault 28 = .ok (.getfield 160, 3) := by decide +kernel
theorem dX1_fault_31 : decode cX1_fault 31 = .ok (.ireturn, 1) := by decide +kernel
theorem dX1_fault_32 : decode cX1_fault 32 = .ok (.iload_n 1, 1) := by decide +kernel
theorem dX1_fault_33 : decode cX1_fault 33 = .ok (.iconst 1, 1) := by decide +kernel
theorem dX1_fault_34 : decode cX1_fault 34 = .ok (.if_icmp .ne 10, 3) := by decide +kernel
theorem dX1_fault_37 : decode cX1_fault 37 = .ok (.aload_n 0, 1) := by decide +kernel
theorem dX1_fault_38 : decode cX1_fault 38 = .ok (.getfield 163, 3) := by decide +kernel
theorem dX1_fault_41 : decode cX1_fault 41 = .ok (.goto 7, 3) := by decide +kernel
theorem dX1_fault_44 : decode cX1_fault 44 = .ok (.aload_n 0, 1) := by decide +kernel
theorem dX1_fault_45 : decode cX1_fault 45 = .ok (.getfield 166, 3) := by decide +kernel
theorem dX1_fault_48 : decode cX1_fault 48 = .ok (.ireturn, 1) := by decide +kernel
theorem dX1_perform_0 : decode cX1_perform 0 = .ok (.aload_n 0, 1) := by decide +kernel
theorem dX1_perform_1 : decode cX1_perform 1 = .ok (.invokevirtual 157, 3) := by decide +kernel
theorem dX1_perform_4 : decode cX1_perform 4 = .ok (.istore_n 1, 1) := by decide +kernel
theorem dX1_perform_5 : decode cX1_perform 5 = .ok (.iload_n 1, 1) := by decide +kernel
theorem dX1_perform_6 : decode cX1_perform 6 = .ok (.iconst (-1), 1) := by decide +kernel
theorem dX1_perform_7 : decode cX1_perform 7 = .ok (.if_icmp .ne 6, 3) := by decide +kernel
theorem dX1_perform_10 : decode cX1_perform 10 = .ok (.ldc 60, 2) := by decide +kernel
theorem dX1_perform_12 : decode cX1_perform 12 = .ok (.ireturn, 1) := by decide +kernel
theorem dX1_perform_13 : decode cX1_perform 13 = .ok (.aload_n 0, 1) := by decide +kernel
theorem dX1_perform_14 : decode cX1_perform 14 = .ok (.iload_n 1, 1) := by decide +kernel
theorem dX1_perform_15 : decode cX1_perform 15 = .ok (.invokevirtual 39, 3) := by decide +kernel
theorem dX1_perform_18 : decode cX1_perform 18 = .ok (.ireturn, 1) := by decide +kernel
theorem dX1_copyOfNow_0 : decode cX1_copyOfNow 0 = .ok (.aload_n 0, 1) := by decide +kernel
theorem dX1_copyOfNow_1 : decode cX1_copyOfNow 1 = .ok (.getfield 16, 3) := by decide +kernel
theorem dX1_copyOfNow_4 : decode cX1_copyOfNow 4 = .ok (.aload_n 0, 1) := by decide +kernel
theorem dX1_copyOfNow_5 : decode cX1_copyOfNow 5 = .ok (.getfield 10, 3) := by decide +kernel
theorem dX1_copyOfNow_8 : decode cX1_copyOfNow 8 = .ok (.invokevirtual 169, 3) := by decide +kernel
theorem dX1_copyOfNow_11 : decode cX1_copyOfNow 11 = .ok (.aload_n 0, 1) := by decide +kernel
theorem dX1_copyOfNow_12 : decode cX1_copyOfNow 12 = .ok (.getfield 16, 3) := by decide +kernel
theorem dX1_copyOfNow_15 : decode cX1_copyOfNow 15 = .ok (.areturn, 1) := by decide +kernel
theorem dX1_settle_0 : decode cX1_settle 0 = .ok (.iload_n 1, 1) := by decide +kernel
theorem dX1_settle_1 : decode cX1_settle 1 = .ok (.ifCond .ge 5, 3) := by decide +kernel
theorem dX1_settle_4 : decode cX1_settle 4 = .ok (.iload_n 1, 1) := by decide +kernel
theorem dX1_settle_5 : decode cX1_settle 5 = .ok (.ireturn, 1) := by decide +kernel
theorem dX1_settle_6 : decode cX1_settle 6 = .ok (.aload_n 0, 1) := by decide +kernel
theorem dX1_settle_7 : decode cX1_settle 7 = .ok (.getfield 150, 3) := by decide +kernel
theorem dX1_settle_10 : decode cX1_settle 10 = .ok (.iconst 4, 1) := by decide +kernel
theorem dX1_settle_11 : decode cX1_settle 11 = .ok (.if_icmp .lt 7, 3) := by decide +kernel
theorem dX1_settle_14 : decode cX1_settle 14 = .ok (.aload_n 0, 1) := by decide +kernel
theorem dX1_settle_15 : decode cX1_settle 15 = .ok (.invokevirtual 173, 3) := by decide +kernel
theorem dX1_settle_18 : decode cX1_settle 18 = .ok (.aload_n 0, 1) := by decide +kernel
theorem dX1_settle_19 : decode cX1_settle 19 = .ok (.getfield 19, 3) := by decide +kernel
theorem dX1_settle_22 : decode cX1_settle 22 = .ok (.aload_n 0, 1) := by decide +kernel
theorem dX1_settle_23 : decode cX1_settle 23 = .ok (.getfield 150, 3) := by decide +kernel
theorem dX1_settle_26 : decode cX1_settle 26 = .ok (.aaload, 1) := by decide +kernel
theorem dX1_settle_27 : decode cX1_settle 27 = .ok (.astore_n 2, 1) := by decide +kernel
theorem dX1_settle_28 : decode cX1_settle 28 = .ok (.aload_n 0, 1) := by decide +kernel
theorem dX1_settle_29 : decode cX1_settle 29 = .ok (.getfield 19, 3) := by decide +kernel
theorem dX1_settle_32 : decode cX1_settle 32 = .ok (.aload_n 0, 1) := by decide +kernel
theorem dX1_settle_33 : decode cX1_settle 33 = .ok (.getfield 150, 3) := by decide +kernel
theorem dX1_settle_36 : decode cX1_settle 36 = .ok (.aload_n 0, 1) := by decide +kernel
theorem dX1_settle_37 : decode cX1_settle 37 = .ok (.getfield 10, 3) := by decide +kernel
theorem dX1_settle_40 : decode cX1_settle 40 = .ok (.aastore, 1) := by decide +kernel
theorem dX1_settle_41 : decode cX1_settle 41 = .ok (.aload_n 0, 1) := by decide +kernel
theorem dX1_settle_42 : decode cX1_settle 42 = .ok (.dup, 1) := by decide +kernel
theorem dX1_settle_43 : decode cX1_settle 43 = .ok (.getfield 150, 3) := by decide +kernel
theorem dX1_settle_46 : decode cX1_settle 46 = .ok (.iconst 1, 1) := by decide +kernel
theorem dX1_settle_47 : decode cX1_settle 47 = .ok (.iadd, 1) := by decide +kernel
theorem dX1_settle_48 : decode cX1_settle 48 = .ok (.putfield 150, 3) := by decide +kernel
theorem dX1_settle_51 : decode cX1_settle 51 = .ok (.aload_n 0, 1) := by decide +kernel
theorem dX1_settle_52 : decode cX1_settle 52 = .ok (.aload_n 0, 1) := by decide +kernel
theorem dX1_settle_53 : decode cX1_settle 53 = .ok (.getfield 16, 3) := by decide +kernel
theorem dX1_settle_56 : decode cX1_settle 56 = .ok (.putfield 10, 3) := by decide +kernel
theorem dX1_settle_59 : decode cX1_settle 59 = .ok (.aload_n 0, 1) := by decide +kernel
theorem dX1_settle_60 : decode cX1_settle 60 = .ok (.aload_n 2, 1) := by decide +kernel
theorem dX1_settle_61 : decode cX1_settle 61 = .ok (.putfield 16, 3) := by decide +kernel
theorem dX1_settle_64 : decode cX1_settle 64 = .ok (.iload_n 1, 1) := by decide +kernel
theorem dX1_settle_65 : decode cX1_settle 65 = .ok (.ireturn, 1) := by decide +kernel
theorem dX1_dropOldestState_0 : decode cX1_dropOldestState 0 = .ok (.aload_n 0, 1) := by decide +kernel
theorem dX1_dropOldestState_1 : decode cX1_dropOldestState 1 = .ok (.getfield 19, 3) := by decide +kernel
theorem dX1_dropOldestState_4 : decode cX1_dropOldestState 4 = .ok (.iconst 0, 1) := by decide +kernel
theorem dX1_dropOldestState_5 : decode cX1_dropOldestState 5 = .ok (.aaload, 1) := by decide +kernel
theorem dX1_dropOldestState_6 : decode cX1_dropOldestState 6 = .ok (.astore_n 1, 1) := by decide +kernel
theorem dX1_dropOldestState_7 : decode cX1_dropOldestState 7 = .ok (.iconst 1, 1) := by decide +kernel
theorem dX1_dropOldestState_8 : decode cX1_dropOldestState 8 = .ok (.istore_n 2, 1) := by decide +kernel
theorem dX1_dropOldestState_9 : decode cX1_dropOldestState 9 = .ok (.iload_n 2, 1) := by decide +kernel
theorem dX1_dropOldestState_10 : decode cX1_dropOldestState 10 = .ok (.iconst 4, 1) := by decide +kernel
theorem dX1_dropOldestState_11 : decode cX1_dropOldestState 11 = .ok (.if_icmp .ge 23, 3) := by decide +kernel
theorem dX1_dropOldestState_14 : decode cX1_dropOldestState 14 = .ok (.aload_n 0, 1) := by decide +kernel
theorem dX1_dropOldestState_15 : decode cX1_dropOldestState 15 = .ok (.getfield 19, 3) := by decide +kernel
theorem dX1_dropOldestState_18 : decode cX1_dropOldestState 18 = .ok (.iload_n 2, 1) := by decide +kernel
theorem dX1_dropOldestState_19 : decode cX1_dropOldestState 19 = .ok (.iconst 1, 1) := by decide +kernel
theorem dX1_dropOldestState_20 : decode cX1_dropOldestState 20 = .ok (.isub, 1) := by decide +kernel
theorem dX1_dropOldestState_21 : decode cX1_dropOldestState 21 = .ok (.aload_n 0, 1) := by decide +kernel
theorem dX1_dropOldestState_22 : decode cX1_dropOldestState 22 = .ok (.getfield 19, 3) := by decide +kernel
theorem dX1_dropOldestState_25 : decode cX1_dropOldestState 25 = .ok (.iload_n 2, 1) := by decide +kernel
theorem dX1_dropOldestState_26 : decode cX1_dropOldestState 26 = .ok (.aaload, 1) := by decide +kernel
theorem dX1_dropOldestState_27 : decode cX1_dropOldestState 27 = .ok (.aastore, 1) := by decide +kernel
theorem dX1_dropOldestState_28 : decode cX1_dropOldestState 28 = .ok (.iinc 2 1, 3) := by decide +kernel
theorem dX1_dropOldestState_31 : decode cX1_dropOldestState 31 = .ok (.goto (-22), 3) := by decide +kernel
theorem dX1_dropOldestState_34 : decode cX1_dropOldestState 34 = .ok (.aload_n 0, 1) := by decide +kernel
theorem dX1_dropOldestState_35 : decode cX1_dropOldestState 35 = .ok (.getfield 19, 3) := by decide +kernel
theorem dX1_dropOldestState_38 : decode cX1_dropOldestState 38 = .ok (.iconst 3, 1) := by decide +kernel
theorem dX1_dropOldestState_39 : decode cX1_dropOldestState 39 = .ok (.aload_n 1, 1) := by decide +kernel
theorem dX1_dropOldestState_40 : decode cX1_dropOldestState 40 = .ok (.aastore, 1) := by decide +kernel
theorem dX1_dropOldestState_41 : decode cX1_dropOldestState 41 = .ok (.aload_n 0, 1) := by decide +kernel
theorem dX1_dropOldestState_42 : decode cX1_dropOldestState 42 = .ok (.iconst 3, 1) := by decide +kernel
theorem dX1_dropOldestState_43 : decode cX1_dropOldestState 43 = .ok (.putfield 150, 3) := by decide +kernel
theorem dX1_dropOldestState_46 : decode cX1_dropOldestState 46 = .ok (.return_, 1) := by decide +kernel
theorem dX1_pointsAfter_0 : decode cX1_pointsAfter 0 = .ok (.aload_n 0, 1) := by decide +kernel
theorem dX1_pointsAfter_1 : decode cX1_pointsAfter 1 = .ok (.invokevirtual 35, 3) := by decide +kernel
theorem dX1_pointsAfter_4 : decode cX1_pointsAfter 4 = .ok (.astore_n 2, 1) := by decide +kernel
theorem dX1_pointsAfter_5 : decode cX1_pointsAfter 5 = .ok (.iload_n 1, 1) := by decide +kernel
theorem dX1_pointsAfter_6 : decode cX1_pointsAfter 6 = .ok (.bipush 10, 2) := by decide +kernel
theorem dX1_pointsAfter_8 : decode cX1_pointsAfter 8 = .ok (.if_icmp .ge 9, 3) := by decide +kernel
theorem dX1_pointsAfter_11 : decode cX1_pointsAfter 11 = .ok (.aload_n 2, 1) := by decide +kernel
theorem dX1_pointsAfter_12 : decode cX1_pointsAfter 12 = .ok (.iload_n 1, 1) := by decide +kernel
theorem dX1_pointsAfter_13 : decode cX1_pointsAfter 13 = .ok (.invokevirtual 45, 3) := by decide +kernel
theorem dX1_pointsAfter_16 : decode cX1_pointsAfter 16 = .ok (.pop, 1) := by decide +kernel
theorem dX1_pointsAfter_17 : decode cX1_pointsAfter 17 = .ok (.aload_n 2, 1) := by decide +kernel
theorem dX1_pointsAfter_18 : decode cX1_pointsAfter 18 = .ok (.bipush 60, 2) := by decide +kernel
theorem dX1_pointsAfter_20 : decode cX1_pointsAfter 20 = .ok (.invokevirtual 61, 3) := by decide +kernel
theorem dX1_pointsAfter_23 : decode cX1_pointsAfter 23 = .ok (.pop, 1) := by decide +kernel
theorem dX1_pointsAfter_24 : decode cX1_pointsAfter 24 = .ok (.aload_n 2, 1) := by decide +kernel
theorem dX1_pointsAfter_25 : decode cX1_pointsAfter 25 = .ok (.aload_n 0, 1) := by decide +kernel
theorem dX1_pointsAfter_26 : decode cX1_pointsAfter 26 = .ok (.getfield 10, 3) := by decide +kernel
theorem dX1_pointsAfter_29 : decode cX1_pointsAfter 29 = .ok (.getfield 103, 3) := by decide +kernel
theorem dX1_pointsAfter_32 : decode cX1_pointsAfter 32 = .ok (.iconst 0, 1) := by decide +kernel
theorem dX1_pointsAfter_33 : decode cX1_pointsAfter 33 = .ok (.iconst 3, 1) := by decide +kernel
theorem dX1_pointsAfter_34 : decode cX1_pointsAfter 34 = .ok (.getstatic 80, 3) := by decide +kernel
theorem dX1_pointsAfter_37 : decode cX1_pointsAfter 37 = .ok (.invokevirtual 84, 3) := by decide +kernel
theorem dX1_pointsAfter_40 : decode cX1_pointsAfter 40 = .ok (.ireturn, 1) := by decide +kernel
theorem dX1_tryText_0 : decode cX1_tryText 0 = .ok (.aload_n 0, 1) := by decide +kernel
theorem dX1_tryText_1 : decode cX1_tryText 1 = .ok (.invokevirtual 35, 3) := by decide +kernel
theorem dX1_tryText_4 : decode cX1_tryText 4 = .ok (.pop, 1) := by decide +kernel
theorem dX1_tryText_5 : decode cX1_tryText 5 = .ok (.iconst 0, 1) := by decide +kernel
theorem dX1_tryText_6 : decode cX1_tryText 6 = .ok (.istore_n 1, 1) := by decide +kernel
theorem dX1_tryText_7 : decode cX1_tryText 7 = .ok (.iconst 0, 1) := by decide +kernel
theorem dX1_tryText_8 : decode cX1_tryText 8 = .ok (.istore_n 2, 1) := by decide +kernel
theorem dX1_tryText_9 : decode cX1_tryText 9 = .ok (.iload_n 2, 1) := by decide +kernel
theorem dX1_tryText_10 : decode cX1_tryText 10 = .ok (.bipush 60, 2) := by decide +kernel
theorem dX1_tryText_12 : decode cX1_tryText 12 = .ok (.if_icmp .ge 156, 3) := by decide +kernel
theorem dX1_tryText_15 : decode cX1_tryText 15 = .ok (.iload_n 1, 1) := by decide +kernel
theorem dX1_tryText_16 : decode cX1_tryText 16 = .ok (.aload_n 0, 1) := by decide +kernel
theorem dX1_tryText_17 : decode cX1_tryText 17 = .ok (.getfield 153, 3) := by decide +kernel
theorem dX1_tryText_20 : decode cX1_tryText 20 = .ok (.if_icmp .ge 148, 3) := by decide +kernel
theorem dX1_tryText_23 : decode cX1_tryText 23 = .ok (.aload_n 0, 1) := by decide +kernel
theorem dX1_tryText_24 : decode cX1_tryText 24 = .ok (.getfield 23, 3) := by decide +kernel
theorem dX1_tryText_27 : decode cX1_tryText 27 = .ok (.iload_n 1, 1) := by decide +kernel
theorem dX1_tryText_28 : decode cX1_tryText 28 = .ok (.caload, 1) := by decide +kernel
theorem dX1_tryText_29 : decode cX1_tryText 29 = .ok (.invokestatic 176, 3) := by decide +kernel
theorem dX1_tryText_32 : decode cX1_tryText 32 = .ok (.istore_n 3, 1) := by decide +kernel
theorem dX1_tryText_33 : decode cX1_tryText 33 = .ok (.iload_n 3, 1) := by decide +kernel
theorem dX1_tryText_34 : decode cX1_tryText 34 = .ok (.ifCond .ne 22, 3) := by decide +kernel
theorem dX1_tryText_37 : decode cX1_tryText 37 = .ok (.aload_n 0, 1) := by decide +kernel
theorem dX1_tryText_38 : decode cX1_tryText 38 = .ok (.getfield 23, 3) := by decide +kernel
theorem dX1_tryText_41 : decode cX1_tryText 41 = .ok (.iload_n 1, 1) := by decide +kernel
theorem dX1_tryText_42 : decode cX1_tryText 42 = .ok (.caload, 1) := by decide +kernel
theorem dX1_tryText_43 : decode cX1_tryText 43 = .ok (.bipush 101, 2) := by decide +kernel
theorem dX1_tryText_45 : decode cX1_tryText 45 = .ok (.if_icmp .eq 11, 3) := by decide +kernel
theorem dX1_tryText_48 : decode cX1_tryText 48 = .ok (.aload_n 0, 1) := by decide +kernel
theorem dX1_tryText_49 : decode cX1_tryText 49 = .ok (.iload_n 1, 1) := by decide +kernel
theorem dX1_tryText_50 : decode cX1_tryText 50 = .ok (.iconst 1, 1) := by decide +kernel
theorem dX1_tryText_51 : decode cX1_tryText 51 = .ok (.iconst 0, 1) := by decide +kernel
theorem dX1_tryText_52 : decode cX1_tryText 52 = .ok (.invokevirtual 180, 3) := by decide +kernel
theorem dX1_tryText_55 : decode cX1_tryText 55 = .ok (.ireturn, 1) := by decide +kernel
theorem dX1_tryText_56 : decode cX1_tryText 56 = .ok (.iload_n 3, 1) := by decide +kernel
theorem dX1_tryText_57 : decode cX1_tryText 57 = .ok (.ifCond .eq 13, 3) := by decide +kernel
theorem dX1_tryText_60 : decode cX1_tryText 60 = .ok (.aload_n 0, 1) := by decide +kernel
theorem dX1_tryText_61 : decode cX1_tryText 61 = .ok (.iload_n 1, 1) := by decide +kernel
theorem dX1_tryText_62 : decode cX1_tryText 62 = .ok (.iconst 1, 1) := by decide +kernel
theorem dX1_tryText_63 : decode cX1_tryText 63 = .ok (.iadd, 1) := by decide +kernel
theorem dX1_tryText_64 : decode cX1_tryText 64 = .ok (.invokevirtual 183, 3) := by decide +kernel
theorem dX1_tryText_67 : decode cX1_tryText 67 = .ok (.goto 4, 3) := by decide +kernel
theorem dX1_tryText_70 : decode cX1_tryText 70 = .ok (.iconst 0, 1) := by decide +kernel
theorem dX1_tryText_71 : decode cX1_tryText 71 = .ok (.istore 4, 2) := by decide +kernel
theorem dX1_tryText_73 : decode cX1_tryText 73 = .ok (.iload_n 1, 1) := by decide +kernel
theorem dX1_tryText_74 : decode cX1_tryText 74 = .ok (.iconst 1, 1) := by decide +kernel
theorem dX1_tryText_75 : decode cX1_tryText 75 = .ok (.iadd, 1) := by decide +kernel
theorem dX1_tryText_76 : decode cX1_tryText 76 = .ok (.iload 4, 2) := by decide +kernel
theorem dX1_tryText_78 : decode cX1_tryText 78 = .ok (.iadd, 1) := by decide +kernel
theorem dX1_tryText_79 : decode cX1_tryText 79 = .ok (.istore 5, 2) := by decide +kernel
theorem dX1_tryText_81 : decode cX1_tryText 81 = .ok (.iload_n 3, 1) := by decide +kernel
theorem dX1_tryText_82 : decode cX1_tryText 82 = .ok (.ifCond .eq 8, 3) := by decide +kernel
theorem dX1_tryText_85 : decode cX1_tryText 85 = .ok (.iload 4, 2) := by decide +kernel
theorem dX1_tryText_87 : decode cX1_tryText 87 = .ok (.ifCond .eq 24, 3) := by decide +kernel
theorem dX1_tryText_90 : decode cX1_tryText 90 = .ok (.iload 5, 2) := by decide +kernel
theorem dX1_tryText_92 : decode cX1_tryText 92 = .ok (.aload_n 0, 1) := by decide +kernel
theorem dX1_tryText_93 : decode cX1_tryText 93 = .ok (.getfield 153, 3) := by decide +kernel
theorem dX1_tryText_96 : decode cX1_tryText 96 = .ok (.if_icmp .ge 15, 3) := by decide +kernel
theorem dX1_tryText_99 : decode cX1_tryText 99 = .ok (.aload_n 0, 1) := by decide +kernel
theorem dX1_tryText_100 : decode cX1_tryText 100 = .ok (.getfield 23, 3) := by decide +kernel
theorem dX1_tryText_103 : decode cX1_tryText 103 = .ok (.iload 5, 2) := by decide +kernel
theorem dX1_tryText_105 : decode cX1_tryText 105 = .ok (.caload, 1) := by decide +kernel
theorem dX1_tryText_106 : decode cX1_tryText 106 = .ok (.bipush 59, 2) := by decide +kernel
theorem dX1_tryText_108 : decode cX1_tryText 108 = .ok (.if_icmp .eq 14, 3) := by decide +kernel
theorem dX1_tryText_111 : decode cX1_tryText 111 = .ok (.aload_n 0, 1) := by decide +kernel
theorem dX1_tryText_112 : decode cX1_tryText 112 = .ok (.iload_n 1, 1) := by decide +kernel
theorem dX1_tryText_113 : decode cX1_tryText 113 = .ok (.iconst 1, 1) := by decide +kernel
theorem dX1_tryText_114 : decode cX1_tryText 114 = .ok (.iload 5, 2) := by decide +kernel
theorem dX1_tryText_116 : decode cX1_tryText 116 = .ok (.iload_n 1, 1) := by decide +kernel
theorem dX1_tryText_117 : decode cX1_tryText 117 = .ok (.isub, 1) := by decide +kernel
theorem dX1_tryText_118 : decode cX1_tryText 118 = .ok (.invokevirtual 180, 3) := by decide +kernel
theorem dX1_tryText_121 : decode cX1_tryText 121 = .ok (.ireturn, 1) := by decide +kernel
theorem dX1_tryText_122 : decode cX1_tryText 122 = .ok (.aload_n 0, 1) := by decide +kernel
theorem dX1_tryText_123 : decode cX1_tryText 123 = .ok (.aload_n 0, 1) := by decide +kernel
theorem dX1_tryText_124 : decode cX1_tryText 124 = .ok (.getfield 23, 3) := by decide +kernel
theorem dX1_tryText_127 : decode cX1_tryText 127 = .ok (.iload_n 1, 1) := by decide +kernel
theorem dX1_tryText_128 : decode cX1_tryText 128 = .ok (.caload, 1) := by decide +kernel
theorem dX1_tryText_129 : decode cX1_tryText 129 = .ok (.aload_n 0, 1) := by decide +kernel
theorem dX1_tryText_130 : decode cX1_tryText 130 = .ok (.iload_n 1, 1) := by decide +kernel
theorem dX1_tryText_131 : decode cX1_tryText 131 = .ok (.iconst 1, 1) := by decide +kernel
theorem dX1_tryText_132 : decode cX1_tryText 132 = .ok (.iadd, 1) := by decide +kernel
theorem dX1_tryText_133 : decode cX1_tryText 133 = .ok (.iload 5, 2) := by decide +kernel
theorem dX1_tryText_135 : decode cX1_tryText 135 = .ok (.invokevirtual 186, 3) := by decide +kernel
theorem dX1_tryText_138 : decode cX1_tryText 138 = .ok (.invokevirtual 190, 3) := by decide +kernel
theorem dX1_tryText_141 : decode cX1_tryText 141 = .ok (.istore 6, 2) := by decide +kernel
theorem dX1_tryText_143 : decode cX1_tryText 143 = .ok (.iload 6, 2) := by decide +kernel
theorem dX1_tryText_145 : decode cX1_tryText 145 = .ok (.ifCond .ge 12, 3) := by decide +kernel
theorem dX1_tryText_148 : decode cX1_tryText 148 = .ok (.aload_n 0, 1) := by decide +kernel
theorem dX1_tryText_149 : decode cX1_tryText 149 = .ok (.iload_n 1, 1) := by decide +kernel
theorem dX1_tryText_150 : decode cX1_tryText 150 = .ok (.iconst 2, 1) := by decide +kernel
theorem dX1_tryText_151 : decode cX1_tryText 151 = .ok (.iload 6, 2) := by decide +kernel
theorem dX1_tryText_153 : decode cX1_tryText 153 = .ok (.invokevirtual 180, 3) := by decide +kernel
theorem dX1_tryText_156 : decode cX1_tryText 156 = .ok (.ireturn, 1) := by decide +kernel
theorem dX1_tryText_157 : decode cX1_tryText 157 = .ok (.iload 5, 2) := by decide +kernel
theorem dX1_tryText_159 : decode cX1_tryText 159 = .ok (.iconst 1, 1) := by decide +kernel
theorem dX1_tryText_160 : decode cX1_tryText 160 = .ok (.iadd, 1) := by decide +kernel
theorem dX1_tryText_161 : decode cX1_tryText 161 = .ok (.istore_n 1, 1) := by decide +kernel
theorem dX1_tryText_162 : decode cX1_tryText 162 = .ok (.iinc 2 1, 3) := by decide +kernel
theorem dX1_tryText_165 : decode cX1_tryText 165 = .ok (.goto (-156), 3) := by decide +kernel
theorem dX1_tryText_168 : decode cX1_tryText 168 = .ok (.iload_n 2, 1) := by decide +kernel
theorem dX1_tryText_169 : decode cX1_tryText 169 = .ok (.ireturn, 1) := by decide +kernel
theorem dX1_isNumberedOrder_0 : decode cX1_isNumberedOrder 0 = .ok (.iload_n 0, 1) := by decide +kernel
theorem dX1_isNumberedOrder_1 : decode cX1_isNumberedOrder 1 = .ok (.bipush 112, 2) := by decide +kernel
theorem dX1_isNumberedOrder_3 : decode cX1_isNumberedOrder 3 = .ok (.if_icmp .eq 21, 3) := by decide +kernel
theorem dX1_isNumberedOrder_6 : decode cX1_isNumberedOrder 6 = .ok (.iload_n 0, 1) := by decide +kernel
theorem dX1_isNumberedOrder_7 : decode cX1_isNumberedOrder 7 = .ok (.bipush 98, 2) := by decide +kernel
theorem dX1_isNumberedOrder_9 : decode cX1_isNumberedOrder 9 = .ok (.if_icmp .eq 15, 3) := by decide +kernel
theorem dX1_isNumberedOrder_12 : decode cX1_isNumberedOrder 12 = .ok (.iload_n 0, 1) := by decide +kernel
theorem dX1_isNumberedOrder_13 : decode cX1_isNumberedOrder 13 = .ok (.bipush 120, 2) := by decide +kernel
theorem dX1_isNumberedOrder_15 : decode cX1_isNumberedOrder 15 = .ok (.if_icmp .eq 9, 3) := by decide +kernel
theorem dX1_isNumberedOrder_18 : decode cX1_isNumberedOrder 18 = .ok (.iload_n 0, 1) := by decide +kernel
theorem dX1_isNumberedOrder_19 : decode cX1_isNumberedOrder 19 = .ok (.bipush 103, 2) := by decide +kernel
theorem dX1_isNumberedOrder_21 : decode cX1_isNumberedOrder 21 = .ok (.if_icmp .ne 7, 3) := by decide +kernel
theorem dX1_isNumberedOrder_24 : decode cX1_isNumberedOrder 24 = .ok (.iconst 1, 1) := by decide +kernel
theorem dX1_isNumberedOrder_25 : decode cX1_isNumberedOrder 25 = .ok (.goto 4, 3) := by decide +kernel
theorem dX1_isNumberedOrder_28 : decode cX1_isNumberedOrder 28 = .ok (.iconst 0, 1) := by decide +kernel
theorem dX1_isNumberedOrder_29 : decode cX1_isNumberedOrder 29 = .ok (.ireturn, 1) := by decide +kernel
theorem dX1_digitsFrom_0 : decode cX1_digitsFrom 0 = .ok (.iconst 0, 1) := by decide +kernel
theorem dX1_digitsFrom_1 : decode cX1_digitsFrom 1 = .ok (.istore_n 2, 1) := by decide +kernel
theorem dX1_digitsFrom_2 : decode cX1_digitsFrom 2 = .ok (.iload_n 1, 1) := by decide +kernel
theorem dX1_digitsFrom_3 : decode cX1_digitsFrom 3 = .ok (.istore_n 3, 1) := by decide +kernel
theorem dX1_digitsFrom_4 : decode cX1_digitsFrom 4 = .ok (.iload_n 3, 1) := by decide +kernel
theorem dX1_digitsFrom_5 : decode cX1_digitsFrom 5 = .ok (.aload_n 0, 1) := by decide +kernel
theorem dX1_digitsFrom_6 : decode cX1_digitsFrom 6 = .ok (.getfield 153, 3) := by decide +kernel
theorem dX1_digitsFrom_9 : decode cX1_digitsFrom 9 = .ok (.if_icmp .ge 41, 3) := by decide +kernel
theorem dX1_digitsFrom_12 : decode cX1_digitsFrom 12 = .ok (.iload_n 2, 1) := by decide +kernel
theorem dX1_digitsFrom_13 : decode cX1_digitsFrom 13 = .ok (.iconst 2, 1) := by decide +kernel
theorem dX1_digitsFrom_14 : decode cX1_digitsFrom 14 = .ok (.if_icmp .ge 36, 3) := by decide +kernel
theorem dX1_digitsFrom_17 : decode cX1_digitsFrom 17 = .ok (.aload_n 0, 1) := by decide +kernel
theorem dX1_digitsFrom_18 : decode cX1_digitsFrom 18 = .ok (.getfield 23, 3) := by decide +kernel
theorem dX1_digitsFrom_21 : decode cX1_digitsFrom 21 = .ok (.iload_n 3, 1) := by decide +kernel
theorem dX1_digitsFrom_22 : decode cX1_digitsFrom 22 = .ok (.caload, 1) := by decide +kernel
theorem dX1_digitsFrom_23 : decode cX1_digitsFrom 23 = .ok (.bipush 48, 2) := by decide +kernel
theorem dX1_digitsFrom_25 : decode cX1_digitsFrom 25 = .ok (.if_icmp .lt 14, 3) := by decide +kernel
theorem dX1_digitsFrom_28 : decode cX1_digitsFrom 28 = .ok (.aload_n 0, 1) := by decide +kernel
theorem dX1_digitsFrom_29 : decode cX1_digitsFrom 29 = .ok (.getfield 23, 3) := by decide +kernel
theorem dX1_digitsFrom_32 : decode cX1_digitsFrom 32 = .ok (.iload_n 3, 1) := by decide +kernel
theorem dX1_digitsFrom_33 : decode cX1_digitsFrom 33 = .ok (.caload, 1) := by decide +kernel
theorem dX1_digitsFrom_34 : decode cX1_digitsFrom 34 = .ok (.bipush 57, 2) := by decide +kernel
theorem dX1_digitsFrom_36 : decode cX1_digitsFrom 36 = .ok (.if_icmp .le 5, 3) := by decide +kernel
theorem dX1_digitsFrom_39 : decode cX1_digitsFrom 39 = .ok (.iload_n 2, 1) := by decide +kernel
theorem dX1_digitsFrom_40 : decode cX1_digitsFrom 40 = .ok (.ireturn, 1) := by decide +kernel
theorem dX1_digitsFrom_41 : decode cX1_digitsFrom 41 = .ok (.iinc 2 1, 3) := by decide +kernel
theorem dX1_digitsFrom_44 : decode cX1_digitsFrom 44 = .ok (.iinc 3 1, 3) := by decide +kernel
theorem dX1_digitsFrom_47 : decode cX1_digitsFrom 47 = .ok (.goto (-43), 3) := by decide +kernel
theorem dX1_digitsFrom_50 : decode cX1_digitsFrom 50 = .ok (.iload_n 2, 1) := by decide +kernel
theorem dX1_digitsFrom_51 : decode cX1_digitsFrom 51 = .ok (.ireturn, 1) := by decide +kernel
theorem dX1_numberBetween_0 : decode cX1_numberBetween 0 = .ok (.iconst 0, 1) := by decide +kernel
theorem dX1_numberBetween_1 : decode cX1_numberBetween 1 = .ok (.istore_n 3, 1) := by decide +kernel
theorem dX1_numberBetween_2 : decode cX1_numberBetween 2 = .ok (.iload_n 1, 1) := by decide +kernel
theorem dX1_numberBetween_3 : decode cX1_numberBetween 3 = .ok (.istore 4, 2) := by decide +kernel
theorem dX1_numberBetween_5 : decode cX1_numberBetween 5 = .ok (.iload 4, 2) := by decide +kernel
theorem dX1_numberBetween_7 : decode cX1_numberBetween 7 = .ok (.iload_n 2, 1) := by decide +kernel
theorem dX1_numberBetween_8 : decode cX1_numberBetween 8 = .ok (.if_icmp .ge 34, 3) := by decide +kernel
theorem dX1_numberBetween_11 : decode cX1_numberBetween 11 = .ok (.iload 4, 2) := by decide +kernel
theorem dX1_numberBetween_13 : decode cX1_numberBetween 13 = .ok (.aload_n 0, 1) := by decide +kernel
theorem dX1_numberBetween_14 : decode cX1_numberBetween 14 = .ok (.getfield 153, 3) := by decide +kernel
theorem dX1_numberBetween_17 : decode cX1_numberBetween 17 = .ok (.if_icmp .ge 25, 3) := by decide +kernel
theorem dX1_numberBetween_20 : decode cX1_numberBetween 20 = .ok (.iload_n 3, 1) := by decide +kernel
theorem dX1_numberBetween_21 : decode cX1_numberBetween 21 = .ok (.bipush 10, 2) := by decide +kernel
theorem dX1_numberBetween_23 : decode cX1_numberBetween 23 = .ok (.imul, 1) := by decide +kernel
theorem dX1_numberBetween_24 : decode cX1_numberBetween 24 = .ok (.aload_n 0, 1) := by decide +kernel
theorem dX1_numberBetween_25 : decode cX1_numberBetween 25 = .ok (.getfield 23, 3) := by decide +kernel
theorem dX1_numberBetween_28 : decode cX1_numberBetween 28 = .ok (.iload 4, 2) := by decide +kernel
theorem dX1_numberBetween_30 : decode cX1_numberBetween 30 = .ok (.caload, 1) := by decide +kernel
theorem dX1_numberBetween_31 : decode cX1_numberBetween 31 = .ok (.bipush 48, 2) := by decide +kernel
theorem dX1_numberBetween_33 : decode cX1_numberBetween 33 = .ok (.isub, 1) := by decide +kernel
theorem dX1_numberBetween_34 : decode cX1_numberBetween 34 = .ok (.iadd, 1) := by decide +kernel
theorem dX1_numberBetween_35 : decode cX1_numberBetween 35 = .ok (.istore_n 3, 1) := by decide +kernel
theorem dX1_numberBetween_36 : decode cX1_numberBetween 36 = .ok (.iinc 4 1, 3) := by decide +kernel
theorem dX1_numberBetween_39 : decode cX1_numberBetween 39 = .ok (.goto (-34), 3) := by decide +kernel
theorem dX1_numberBetween_42 : decode cX1_numberBetween 42 = .ok (.iload_n 3, 1) := by decide +kernel
theorem dX1_numberBetween_43 : decode cX1_numberBetween 43 = .ok (.ireturn, 1) := by decide +kernel
theorem dX1_doOrder_0 : decode cX1_doOrder 0 = .ok (.iload_n 1, 1) := by decide +kernel
theorem dX1_doOrder_1 : decode cX1_doOrder 1 = .ok (.lookupswitch 79 #[(98, 52), (103, 70), (112, 43), (120, 61)], 43) := by decide +kernel
theorem dX1_doOrder_44 : decode cX1_doOrder 44 = .ok (.aload_n 0, 1) := by decide +kernel
theorem dX1_doOrder_45 : decode cX1_doOrder 45 = .ok (.getfield 16, 3) := by decide +kernel
theorem dX1_doOrder_48 : decode cX1_doOrder 48 = .ok (.iload_n 2, 1) := by decide +kernel
theorem dX1_doOrder_49 : decode cX1_doOrder 49 = .ok (.invokevirtual 42, 3) := by decide +kernel
theorem dX1_doOrder_52 : decode cX1_doOrder 52 = .ok (.ireturn, 1) := by decide +kernel
theorem dX1_doOrder_53 : decode cX1_doOrder 53 = .ok (.aload_n 0, 1) := by decide +kernel
theorem dX1_doOrder_54 : decode cX1_doOrder 54 = .ok (.getfield 16, 3) := by decide +kernel
theorem dX1_doOrder_57 : decode cX1_doOrder 57 = .ok (.iload_n 2, 1) := by decide +kernel
theorem dX1_doOrder_58 : decode cX1_doOrder 58 = .ok (.invokevirtual 45, 3) := by decide +kernel
theorem dX1_doOrder_61 : decode cX1_doOrder 61 = .ok (.ireturn, 1) := by decide +kernel
theorem dX1_doOrder_62 : decode cX1_doOrder 62 = .ok (.aload_n 0, 1) := by decide +kernel
theorem dX1_doOrder_63 : decode cX1_doOrder 63 = .ok (.getfield 16, 3) := by decide +kernel
theorem dX1_doOrder_66 : decode cX1_doOrder 66 = .ok (.iload_n 2, 1) := by decide +kernel
theorem dX1_doOrder_67 : decode cX1_doOrder 67 = .ok (.invokevirtual 48, 3) := by decide +kernel
theorem dX1_doOrder_70 : decode cX1_doOrder 70 = .ok (.ireturn, 1) := by decide +kernel
theorem dX1_doOrder_71 : decode cX1_doOrder 71 = .ok (.aload_n 0, 1) := by decide +kernel
theorem dX1_doOrder_72 : decode cX1_doOrder 72 = .ok (.getfield 16, 3) := by decide +kernel
theorem dX1_doOrder_75 : decode cX1_doOrder 75 = .ok (.iload_n 2, 1) := by decide +kernel
theorem dX1_doOrder_76 : decode cX1_doOrder 76 = .ok (.invokevirtual 31, 3) := by decide +kernel
theorem dX1_doOrder_79 : decode cX1_doOrder 79 = .ok (.ireturn, 1) := by decide +kernel
theorem dX1_doOrder_80 : decode cX1_doOrder 80 = .ok (.aload_n 0, 1) := by decide +kernel
theorem dX1_doOrder_81 : decode cX1_doOrder 81 = .ok (.getfield 16, 3) := by decide +kernel
theorem dX1_doOrder_84 : decode cX1_doOrder 84 = .ok (.invokevirtual 51, 3) := by decide +kernel
theorem dX1_doOrder_87 : decode cX1_doOrder 87 = .ok (.ireturn, 1) := by decide +kernel
theorem dX1_keepFault_0 : decode cX1_keepFault 0 = .ok (.aload_n 0, 1) := by decide +kernel
theorem dX1_keepFault_1 : decode cX1_keepFault 1 = .ok (.iload_n 1, 1) := by decide +kernel
theorem dX1_keepFault_2 : decode cX1_keepFault 2 = .ok (.putfield 160, 3) := by decide +kernel
theorem dX1_keepFault_5 : decode cX1_keepFault 5 = .ok (.aload_n 0, 1) := by decide +kernel
theorem dX1_keepFault_6 : decode cX1_keepFault 6 = .ok (.iload_n 2, 1) := by decide +kernel
theorem dX1_keepFault_7 : decode cX1_keepFault 7 = .ok (.putfield 163, 3) := by decide +kernel
theorem dX1_keepFault_10 : decode cX1_keepFault 10 = .ok (.aload_n 0, 1) := by decide +kernel
theorem dX1_keepFault_11 : decode cX1_keepFault 11 = .ok (.iload_n 3, 1) := by decide +kernel
theorem dX1_keepFault_12 : decode cX1_keepFault 12 = .ok (.putfield 166, 3) := by decide +kernel
theorem dX1_keepFault_15 : decode cX1_keepFault 15 = .ok (.iconst (-1), 1) := by decide +kernel
theorem dX1_keepFault_16 : decode cX1_keepFault 16 = .ok (.ireturn, 1) := by decide +kernel
theorem dX1_partAt_0 : decode cX1_partAt 0 = .ok (.iload_n 0, 1) := by decide +kernel
theorem dX1_partAt_1 : decode cX1_partAt 1 = .ok (.tableswitch 33 0 2 #[27, 29, 31], 27) := by decide +kernel
theorem dX1_partAt_28 : decode cX1_partAt 28 = .ok (.iconst 0, 1) := by decide +kernel
theorem dX1_partAt_29 : decode cX1_partAt 29 = .ok (.ireturn, 1) := by decide +kernel
theorem dX1_partAt_30 : decode cX1_partAt 30 = .ok (.iconst 2, 1) := by decide +kernel
theorem dX1_partAt_31 : decode cX1_partAt 31 = .ok (.ireturn, 1) := by decide +kernel
theorem dX1_partAt_32 : decode cX1_partAt 32 = .ok (.iconst 3, 1) := by decide +kernel
theorem dX1_partAt_33 : decode cX1_partAt 33 = .ok (.ireturn, 1) := by decide +kernel
theorem dX1_partAt_34 : decode cX1_partAt 34 = .ok (.iconst 1, 1) := by decide +kernel
theorem dX1_partAt_35 : decode cX1_partAt 35 = .ok (.ireturn, 1) := by decide +kernel
theorem dX1_sum_0 : decode cX1_sum 0 = .ok (.iconst 0, 1) := by decide +kernel
theorem dX1_sum_1 : decode cX1_sum 1 = .ok (.istore_n 1, 1) := by decide +kernel
theorem dX1_sum_2 : decode cX1_sum 2 = .ok (.iconst 0, 1) := by decide +kernel
theorem dX1_sum_3 : decode cX1_sum 3 = .ok (.istore_n 2, 1) := by decide +kernel
theorem dX1_sum_4 : decode cX1_sum 4 = .ok (.iload_n 2, 1) := by decide +kernel
theorem dX1_sum_5 : decode cX1_sum 5 = .ok (.aload_n 0, 1) := by decide +kernel
theorem dX1_sum_6 : decode cX1_sum 6 = .ok (.arraylength, 1) := by decide +kernel
theorem dX1_sum_7 : decode cX1_sum 7 = .ok (.if_icmp .ge 15, 3) := by decide +kernel
theorem dX1_sum_10 : decode cX1_sum 10 = .ok (.iload_n 1, 1) := by decide +kernel
theorem dX1_sum_11 : decode cX1_sum 11 = .ok (.aload_n 0, 1) := by decide +kernel
theorem dX1_sum_12 : decode cX1_sum 12 = .ok (.iload_n 2, 1) := by decide +kernel
theorem dX1_sum_13 : decode cX1_sum 13 = .ok (.iaload, 1) := by decide +kernel
theorem dX1_sum_14 : decode cX1_sum 14 = .ok (.iadd, 1) := by decide +kernel
theorem dX1_sum_15 : decode cX1_sum 15 = .ok (.istore_n 1, 1) := by decide +kernel
theorem dX1_sum_16 : decode cX1_sum 16 = .ok (.iinc 2 1, 3) := by decide +kernel
theorem dX1_sum_19 : decode cX1_sum 19 = .ok (.goto (-15), 3) := by decide +kernel
theorem dX1_sum_22 : decode cX1_sum 22 = .ok (.iload_n 1, 1) := by decide +kernel
theorem dX1_sum_23 : decode cX1_sum 23 = .ok (.ireturn, 1) := by decide +kernel
theorem dX1_bitsOf_0 : decode cX1_bitsOf 0 = .ok (.fload_n 0, 1) := by decide +kernel
theorem dX1_bitsOf_1 : decode cX1_bitsOf 1 = .ok (.fconst 0, 1) := by decide +kernel
theorem dX1_bitsOf_2 : decode cX1_bitsOf 2 = .ok (.fcmp .g, 1) := by decide +kernel
theorem dX1_bitsOf_3 : decode cX1_bitsOf 3 = .ok (.ifCond .gt 5, 3) := by decide +kernel
theorem dX1_bitsOf_6 : decode cX1_bitsOf 6 = .ok (.iconst 0, 1) := by decide +kernel
theorem dX1_bitsOf_7 : decode cX1_bitsOf 7 = .ok (.ireturn, 1) := by decide +kernel
theorem dX1_bitsOf_8 : decode cX1_bitsOf 8 = .ok (.fload_n 0, 1) := by decide +kernel
theorem dX1_bitsOf_9 : decode cX1_bitsOf 9 = .ok (.fstore_n 1, 1) := by decide +kernel
theorem dX1_bitsOf_10 : decode cX1_bitsOf 10 = .ok (.bipush 127, 2) := by decide +kernel
theorem dX1_bitsOf_12 : decode cX1_bitsOf 12 = .ok (.istore_n 2, 1) := by decide +kernel
theorem dX1_bitsOf_13 : decode cX1_bitsOf 13 = .ok (.iconst 0, 1) := by decide +kernel
theorem dX1_bitsOf_14 : decode cX1_bitsOf 14 = .ok (.istore_n 3, 1) := by decide +kernel
theorem dX1_bitsOf_15 : decode cX1_bitsOf 15 = .ok (.iload_n 3, 1) := by decide +kernel
theorem dX1_bitsOf_16 : decode cX1_bitsOf 16 = .ok (.bipush 126, 2) := by decide +kernel
theorem dX1_bitsOf_18 : decode cX1_bitsOf 18 = .ok (.if_icmp .ge 22, 3) := by decide +kernel
theorem dX1_bitsOf_21 : decode cX1_bitsOf 21 = .ok (.fload_n 1, 1) := by decide +kernel
theorem dX1_bitsOf_22 : decode cX1_bitsOf 22 = .ok (.fconst 1, 1) := by decide +kernel
theorem dX1_bitsOf_23 : decode cX1_bitsOf 23 = .ok (.fcmp .g, 1) := by decide +kernel
theorem dX1_bitsOf_24 : decode cX1_bitsOf 24 = .ok (.ifCond .ge 16, 3) := by decide +kernel
theorem dX1_bitsOf_27 : decode cX1_bitsOf 27 = .ok (.fload_n 1, 1) := by decide +kernel
theorem dX1_bitsOf_28 : decode cX1_bitsOf 28 = .ok (.fconst 2, 1) := by decide +kernel
theorem dX1_bitsOf_29 : decode cX1_bitsOf 29 = .ok (.fmul, 1) := by decide +kernel
theorem dX1_bitsOf_30 : decode cX1_bitsOf 30 = .ok (.fstore_n 1, 1) := by decide +kernel
theorem dX1_bitsOf_31 : decode cX1_bitsOf 31 = .ok (.iinc 2 (-1), 3) := by decide +kernel
theorem dX1_bitsOf_34 : decode cX1_bitsOf 34 = .ok (.iinc 3 1, 3) := by decide +kernel
theorem dX1_bitsOf_37 : decode cX1_bitsOf 37 = .ok (.goto (-22), 3) := by decide +kernel
theorem dX1_bitsOf_40 : decode cX1_bitsOf 40 = .ok (.iconst 0, 1) := by decide +kernel
theorem dX1_bitsOf_41 : decode cX1_bitsOf 41 = .ok (.istore_n 3, 1) := by decide +kernel
theorem dX1_bitsOf_42 : decode cX1_bitsOf 42 = .ok (.iload_n 3, 1) := by decide +kernel
theorem dX1_bitsOf_43 : decode cX1_bitsOf 43 = .ok (.bipush 127, 2) := by decide +kernel
theorem dX1_bitsOf_45 : decode cX1_bitsOf 45 = .ok (.if_icmp .ge 22, 3) := by decide +kernel
theorem dX1_bitsOf_48 : decode cX1_bitsOf 48 = .ok (.fload_n 1, 1) := by decide +kernel
theorem dX1_bitsOf_49 : decode cX1_bitsOf 49 = .ok (.fconst 2, 1) := by decide +kernel
theorem dX1_bitsOf_50 : decode cX1_bitsOf 50 = .ok (.fcmp .l, 1) := by decide +kernel
theorem dX1_bitsOf_51 : decode cX1_bitsOf 51 = .ok (.ifCond .lt 16, 3) := by decide +kernel
theorem dX1_bitsOf_54 : decode cX1_bitsOf 54 = .ok (.fload_n 1, 1) := by decide +kernel
theorem dX1_bitsOf_55 : decode cX1_bitsOf 55 = .ok (.fconst 2, 1) := by decide +kernel
theorem dX1_bitsOf_56 : decode cX1_bitsOf 56 = .ok (.fdiv, 1) := by decide +kernel
theorem dX1_bitsOf_57 : decode cX1_bitsOf 57 = .ok (.fstore_n 1, 1) := by decide +kernel
theorem dX1_bitsOf_58 : decode cX1_bitsOf 58 = .ok (.iinc 2 1, 3) := by decide +kernel
theorem dX1_bitsOf_61 : decode cX1_bitsOf 61 = .ok (.iinc 3 1, 3) := by decide +kernel
theorem dX1_bitsOf_64 : decode cX1_bitsOf 64 = .ok (.goto (-22), 3) := by decide +kernel
theorem dX1_bitsOf_67 : decode cX1_bitsOf 67 = .ok (.fload_n 1, 1) := by decide +kernel
theorem dX1_bitsOf_68 : decode cX1_bitsOf 68 = .ok (.fconst 1, 1) := by decide +kernel
theorem dX1_bitsOf_69 : decode cX1_bitsOf 69 = .ok (.fsub, 1) := by decide +kernel
theorem dX1_bitsOf_70 : decode cX1_bitsOf 70 = .ok (.ldc 193, 2) := by decide +kernel
theorem dX1_bitsOf_72 : decode cX1_bitsOf 72 = .ok (.fmul, 1) := by decide +kernel
theorem dX1_bitsOf_73 : decode cX1_bitsOf 73 = .ok (.f2i, 1) := by decide +kernel
theorem dX1_bitsOf_74 : decode cX1_bitsOf 74 = .ok (.istore_n 3, 1) := by decide +kernel
theorem dX1_bitsOf_75 : decode cX1_bitsOf 75 = .ok (.iload_n 2, 1) := by decide +kernel
theorem dX1_bitsOf_76 : decode cX1_bitsOf 76 = .ok (.bipush 23, 2) := by decide +kernel
theorem dX1_bitsOf_78 : decode cX1_bitsOf 78 = .ok (.ishl, 1) := by decide +kernel
theorem dX1_bitsOf_79 : decode cX1_bitsOf 79 = .ok (.iload_n 3, 1) := by decide +kernel
theorem dX1_bitsOf_80 : decode cX1_bitsOf 80 = .ok (.ior, 1) := by decide +kernel
theorem dX1_bitsOf_81 : decode cX1_bitsOf 81 = .ok (.ireturn, 1) := by decide +kernel
theorem dX2_init_0 : decode cX2_init 0 = .ok (.aload_n 0, 1) := by decide +kernel
theorem dX2_init_1 : decode cX2_init 1 = .ok (.invokespecial 1, 3) := by decide +kernel
theorem dX2_init_4 : decode cX2_init 4 = .ok (.aload_n 0, 1) := by decide +kernel
theorem dX2_init_5 : decode cX2_init 5 = .ok (.sipush 2670, 3) := by decide +kernel
theorem dX2_init_8 : decode cX2_init 8 = .ok (.newarray .int, 2) := by decide +kernel
theorem dX2_init_10 : decode cX2_init 10 = .ok (.putfield 7, 3) := by decide +kernel
theorem dX2_init_13 : decode cX2_init 13 = .ok (.aload_n 0, 1) := by decide +kernel
theorem dX2_init_14 : decode cX2_init 14 = .ok (.sipush 2670, 3) := by decide +kernel
theorem dX2_init_17 : decode cX2_init 17 = .ok (.newarray .int, 2) := by decide +kernel
theorem dX2_init_19 : decode cX2_init 19 = .ok (.putfield 13, 3) := by decide +kernel
theorem dX2_init_22 : decode cX2_init 22 = .ok (.aload_n 0, 1) := by decide +kernel
theorem dX2_init_23 : decode cX2_init 23 = .ok (.sipush 10680, 3) := by decide +kernel
theorem dX2_init_26 : decode cX2_init 26 = .ok (.newarray .int, 2) := by decide +kernel
theorem dX2_init_28 : decode cX2_init 28 = .ok (.putfield 16, 3) := by decide +kernel
theorem dX2_init_31 : decode cX2_init 31 = .ok (.aload_n 0, 1) := by decide +kernel
theorem dX2_init_32 : decode cX2_init 32 = .ok (.bipush 60, 2) := by decide +kernel
theorem dX2_init_34 : decode cX2_init 34 = .ok (.newarray .int, 2) := by decide +kernel
theorem dX2_init_36 : decode cX2_init 36 = .ok (.putfield 19, 3) := by decide +kernel
theorem dX2_init_39 : decode cX2_init 39 = .ok (.aload_n 0, 1) := by decide +kernel
theorem dX2_init_40 : decode cX2_init 40 = .ok (.getfield 7, 3) := by decide +kernel
theorem dX2_init_43 : decode cX2_init 43 = .ok (.bipush 9, 2) := by decide +kernel
theorem dX2_init_45 : decode cX2_init 45 = .ok (.iconst 1, 1) := by decide +kernel
theorem dX2_init_46 : decode cX2_init 46 = .ok (.iastore, 1) := by decide +kernel
theorem dX2_init_47 : decode cX2_init 47 = .ok (.aload_n 0, 1) := by decide +kernel
theorem dX2_init_48 : decode cX2_init 48 = .ok (.iconst 2, 1) := by decide +kernel
theorem dX2_init_49 : decode cX2_init 49 = .ok (.invokevirtual 22, 3) := by decide +kernel
theorem dX2_init_52 : decode cX2_init 52 = .ok (.pop, 1) := by decide +kernel
theorem dX2_init_53 : decode cX2_init 53 = .ok (.return_, 1) := by decide +kernel
theorem dX2_in_0 : decode cX2_in 0 = .ok (.iload_n 0, 1) := by decide +kernel
theorem dX2_in_1 : decode cX2_in 1 = .ok (.iload_n 1, 1) := by decide +kernel
theorem dX2_in_2 : decode cX2_in 2 = .ok (.if_icmp .lt 12, 3) := by decide +kernel
theorem dX2_in_5 : decode cX2_in 5 = .ok (.iload_n 0, 1) := by decide +kernel
theorem dX2_in_6 : decode cX2_in 6 = .ok (.iload_n 2, 1) := by decide +kernel
theorem dX2_in_7 : decode cX2_in 7 = .ok (.if_icmp .gt 7, 3) := by decide +kernel
theorem dX2_in_10 : decode cX2_in 10 = .ok (.iconst 1, 1) := by decide +kernel
theorem dX2_in_11 : decode cX2_in 11 = .ok (.goto 4, 3) := by decide +kernel
theorem dX2_in_14 : decode cX2_in 14 = .ok (.iconst 0, 1) := by decide +kernel
theorem dX2_in_15 : decode cX2_in 15 = .ok (.ireturn, 1) := by decide +kernel
theorem dX2_price_0 : decode cX2_price 0 = .ok (.iload_n 0, 1) := by decide +kernel
theorem dX2_price_1 : decode cX2_price 1 = .ok (.tableswitch 65 1 9 #[51, 53, 56, 58, 65, 61, 61, 63, 51], 51) := by decide +kernel
theorem dX2_price_52 : decode cX2_price 52 = .ok (.iconst 3, 1) := by decide +kernel
theorem dX2_price_53 : decode cX2_price 53 = .ok (.ireturn, 1) := by decide +kernel
theorem dX2_price_54 : decode cX2_price 54 = .ok (.bipush 6, 2) := by decide +kernel
theorem dX2_price_56 : decode cX2_price 56 = .ok (.ireturn, 1) := by decide +kernel
theorem dX2_price_57 : decode cX2_price 57 = .ok (.iconst 2, 1) := by decide +kernel
theorem dX2_price_58 : decode cX2_price 58 = .ok (.ireturn, 1) := by decide +kernel
theorem dX2_price_59 : decode cX2_price 59 = .ok (.bipush 8, 2) := by decide +kernel
theorem dX2_price_61 : decode cX2_price 61 = .ok (.ireturn, 1) := by decide +kernel
theorem dX2_price_62 : decode cX2_price 62 = .ok (.iconst 5, 1) := by decide +kernel
theorem dX2_price_63 : decode cX2_price 63 = .ok (.ireturn, 1) := by decide +kernel
theorem dX2_price_64 : decode cX2_price 64 = .ok (.iconst 4, 1) := by decide +kernel
theorem dX2_price_65 : decode cX2_price 65 = .ok (.ireturn, 1) := by decide +kernel
theorem dX2_price_66 : decode cX2_price 66 = .ok (.iconst 0, 1) := by decide +kernel
theorem dX2_price_67 : decode cX2_price 67 = .ok (.ireturn, 1) := by decide +kernel
theorem dX2_coins_0 : decode cX2_coins 0 = .ok (.iload_n 0, 1) := by decide +kernel
theorem dX2_coins_1 : decode cX2_coins 1 = .ok (.iconst 3, 1) := by decide +kernel
theorem dX2_coins_2 : decode cX2_coins 2 = .ok (.if_icmp .ge 9, 3) := by decide +kernel
theorem dX2_coins_5 : decode cX2_coins 5 = .ok (.iload_n 0, 1) := by decide +kernel
theorem dX2_coins_6 : decode cX2_coins 6 = .ok (.iconst 1, 1) := by decide +kernel
theorem dX2_coins_7 : decode cX2_coins 7 = .ok (.iadd, 1) := by decide +kernel
theorem dX2_coins_8 : decode cX2_coins 8 = .ok (.goto 14, 3) := by decide +kernel
theorem dX2_coins_11 : decode cX2_coins 11 = .ok (.iload_n 0, 1) := by decide +kernel
theorem dX2_coins_12 : decode cX2_coins 12 = .ok (.bipush 7, 2) := by decide +kernel
theorem dX2_coins_14 : decode cX2_coins 14 = .ok (.if_icmp .ne 7, 3) := by decide +kernel
theorem dX2_coins_17 : decode cX2_coins 17 = .ok (.iconst 1, 1) := by decide +kernel
theorem dX2_coins_18 : decode cX2_coins 18 = .ok (.goto 4, 3) := by decide +kernel
theorem dX2_coins_21 : decode cX2_coins 21 = .ok (.iconst 0, 1) := by decide +kernel
theorem dX2_coins_22 : decode cX2_coins 22 = .ok (.ireturn, 1) := by decide +kernel
theorem dX2_cards_0 : decode cX2_cards 0 = .ok (.iload_n 0, 1) := by decide +kernel
theorem dX2_cards_1 : decode cX2_cards 1 = .ok (.bipush 6, 2) := by decide +kernel
theorem dX2_cards_3 : decode cX2_cards 3 = .ok (.if_icmp .eq 9, 3) := by decide +kernel
theorem dX2_cards_6 : decode cX2_cards 6 = .ok (.iload_n 0, 1) := by decide +kernel
theorem dX2_cards_7 : decode cX2_cards 7 = .ok (.bipush 9, 2) := by decide +kernel
theorem dX2_cards_9 : decode cX2_cards 9 = .ok (.if_icmp .ne 7, 3) := by decide +kernel
theorem dX2_cards_12 : decode cX2_cards 12 = .ok (.iconst 2, 1) := by decide +kernel
theorem dX2_cards_13 : decode cX2_cards 13 = .ok (.goto 14, 3) := by decide +kernel
theorem dX2_cards_16 : decode cX2_cards 16 = .ok (.iload_n 0, 1) := by decide +kernel
theorem dX2_cards_17 : decode cX2_cards 17 = .ok (.bipush 7, 2) := by decide +kernel
theorem dX2_cards_19 : decode cX2_cards 19 = .ok (.if_icmp .ne 7, 3) := by decide +kernel
theorem dX2_cards_22 : decode cX2_cards 22 = .ok (.iconst 1, 1) := by decide +kernel
theorem dX2_cards_23 : decode cX2_cards 23 = .ok (.goto 4, 3) := by decide +kernel
theorem dX2_cards_26 : decode cX2_cards 26 = .ok (.iconst 0, 1) := by decide +kernel
theorem dX2_cards_27 : decode cX2_cards 27 = .ok (.ireturn, 1) := by decide +kernel
theorem dX2_pointsOf_0 : decode cX2_pointsOf 0 = .ok (.iload_n 0, 1) := by decide +kernel
theorem dX2_pointsOf_1 : decode cX2_pointsOf 1 = .ok (.iconst 3, 1) := by decide +kernel
theorem dX2_pointsOf_2 : decode cX2_pointsOf 2 = .ok (.if_icmp .ne 7, 3) := by decide +kernel
theorem dX2_pointsOf_5 : decode cX2_pointsOf 5 = .ok (.iconst 1, 1) := by decide +kernel
theorem dX2_pointsOf_6 : decode cX2_pointsOf 6 = .ok (.goto 23, 3) := by decide +kernel
theorem dX2_pointsOf_9 : decode cX2_pointsOf 9 = .ok (.iload_n 0, 1) := by decide +kernel
theorem dX2_pointsOf_10 : decode cX2_pointsOf 10 = .ok (.iconst 4, 1) := by decide +kernel
theorem dX2_pointsOf_11 : decode cX2_pointsOf 11 = .ok (.if_icmp .ne 8, 3) := by decide +kernel
theorem dX2_pointsOf_14 : decode cX2_pointsOf 14 = .ok (.bipush 6, 2) := by decide +kernel
theorem dX2_pointsOf_16 : decode cX2_pointsOf 16 = .ok (.goto 13, 3) := by decide +kernel
theorem dX2_pointsOf_19 : decode cX2_pointsOf 19 = .ok (.iload_n 0, 1) := by decide +kernel
theorem dX2_pointsOf_20 : decode cX2_pointsOf 20 = .ok (.iconst 5, 1) := by decide +kernel
theorem dX2_pointsOf_21 : decode cX2_pointsOf 21 = .ok (.if_icmp .ne 7, 3) := by decide +kernel
theorem dX2_pointsOf_24 : decode cX2_pointsOf 24 = .ok (.iconst (-1), 1) := by decide +kernel
theorem dX2_pointsOf_25 : decode cX2_pointsOf 25 = .ok (.goto 4, 3) := by decide +kernel
theorem dX2_pointsOf_28 : decode cX2_pointsOf 28 = .ok (.iconst 0, 1) := by decide +kernel
theorem dX2_pointsOf_29 : decode cX2_pointsOf 29 = .ok (.ireturn, 1) := by decide +kernel
theorem dX2_inPile_0 : decode cX2_inPile 0 = .ok (.iload_n 0, 1) := by decide +kernel
theorem dX2_inPile_1 : decode cX2_inPile 1 = .ok (.tableswitch 57 0 5 #[39, 42, 45, 48, 51, 54], 39) := by decide +kernel
theorem dX2_inPile_40 : decode cX2_inPile 40 = .ok (.bipush 60, 2) := by decide +kernel
theorem dX2_inPile_42 : decode cX2_inPile 42 = .ok (.ireturn, 1) := by decide +kernel
theorem dX2_inPile_43 : decode cX2_inPile 43 = .ok (.bipush 20, 2) := by decide +kernel
theorem dX2_inPile_45 : decode cX2_inPile 45 = .ok (.ireturn, 1) := by decide +kernel
theorem dX2_inPile_46 : decode cX2_inPile 46 = .ok (.bipush 12, 2) := by decide +kernel
theorem dX2_inPile_48 : decode cX2_inPile 48 = .ok (.ireturn, 1) := by decide +kernel
theorem dX2_inPile_49 : decode cX2_inPile 49 = .ok (.bipush 24, 2) := by decide +kernel
theorem dX2_inPile_51 : decode cX2_inPile 51 = .ok (.ireturn, 1) := by decide +kernel
theorem dX2_inPile_52 : decode cX2_inPile 52 = .ok (.bipush 6, 2) := by decide +kernel
theorem dX2_inPile_54 : decode cX2_inPile 54 = .ok (.ireturn, 1) := by decide +kernel
theorem dX2_inPile_55 : decode cX2_inPile 55 = .ok (.bipush 10, 2) := by decide +kernel
theorem dX2_inPile_57 : decode cX2_inPile 57 = .ok (.ireturn, 1) := by decide +kernel
theorem dX2_inPile_58 : decode cX2_inPile 58 = .ok (.bipush 8, 2) := by decide +kernel
theorem dX2_inPile_60 : decode cX2_inPile 60 = .ok (.ireturn, 1) := by decide +kernel
theorem dX2_placeOf_0 : decode cX2_placeOf 0 = .ok (.bipush 30, 2) := by decide +kernel
theorem dX2_placeOf_2 : decode cX2_placeOf 2 = .ok (.sipush 165, 3) := by decide +kernel
theorem dX2_placeOf_5 : decode cX2_placeOf 5 = .ok (.iconst 4, 1) := by decide +kernel
theorem dX2_placeOf_6 : decode cX2_placeOf 6 = .ok (.iload_n 0, 1) := by decide +kernel
theorem dX2_placeOf_7 : decode cX2_placeOf 7 = .ok (.imul, 1) := by decide +kernel
theorem dX2_placeOf_8 : decode cX2_placeOf 8 = .ok (.iload_n 1, 1) := by decide +kernel
theorem dX2_placeOf_9 : decode cX2_placeOf 9 = .ok (.iadd, 1) := by decide +kernel
theorem dX2_placeOf_10 : decode cX2_placeOf 10 = .ok (.imul, 1) := by decide +kernel
theorem dX2_placeOf_11 : decode cX2_placeOf 11 = .ok (.iadd, 1) := by decide +kernel
theorem dX2_placeOf_12 : decode cX2_placeOf 12 = .ok (.ireturn, 1) := by decide +kernel
theorem dX2_manyAt_0 : decode cX2_manyAt 0 = .ok (.aload_n 0, 1) := by decide +kernel
theorem dX2_manyAt_1 : decode cX2_manyAt 1 = .ok (.getfield 7, 3) := by decide +kernel
theorem dX2_manyAt_4 : decode cX2_manyAt 4 = .ok (.iload_n 1, 1) := by decide +kernel
theorem dX2_manyAt_5 : decode cX2_manyAt 5 = .ok (.iload_n 2, 1) := by decide +kernel
theorem dX2_manyAt_6 : decode cX2_manyAt 6 = .ok (.invokestatic 26, 3) := by decide +kernel
theorem dX2_manyAt_9 : decode cX2_manyAt 9 = .ok (.iaload, 1) := by decide +kernel
theorem dX2_manyAt_10 : decode cX2_manyAt 10 = .ok (.ireturn, 1) := by decide +kernel
theorem dX2_put_0 : decode cX2_put 0 = .ok (.iload_n 1, 1) := by decide +kernel
theorem dX2_put_1 : decode cX2_put 1 = .ok (.iload_n 2, 1) := by decide +kernel
theorem dX2_put_2 : decode cX2_put 2 = .ok (.invokestatic 26, 3) := by decide +kernel
theorem dX2_put_5 : decode cX2_put 5 = .ok (.istore 4, 2) := by decide +kernel
theorem dX2_put_7 : decode cX2_put 7 = .ok (.aload_n 0, 1) := by decide +kernel
theorem dX2_put_8 : decode cX2_put 8 = .ok (.getfield 7, 3) := by decide +kernel
theorem dX2_put_11 : decode cX2_put 11 = .ok (.iload 4, 2) := by decide +kernel
theorem dX2_put_13 : decode cX2_put 13 = .ok (.dup2, 1) := by decide +kernel
theorem dX2_put_14 : decode cX2_put 14 = .ok (.iaload, 1) := by decide +kernel
theorem dX2_put_15 : decode cX2_put 15 = .ok (.iconst 1, 1) := by decide +kernel
theorem dX2_put_16 : decode cX2_put 16 = .ok (.iadd, 1) := by decide +kernel
theorem dX2_put_17 : decode cX2_put 17 = .ok (.iastore, 1) := by decide +kernel
theorem dX2_put_18 : decode cX2_put 18 = .ok (.aload_n 0, 1) := by decide +kernel
theorem dX2_put_19 : decode cX2_put 19 = .ok (.getfield 7, 3) := by decide +kernel
theorem dX2_put_22 : decode cX2_put 22 = .ok (.iload 4, 2) := by decide +kernel
theorem dX2_put_24 : decode cX2_put 24 = .ok (.aload_n 0, 1) := by decide +kernel
theorem dX2_put_25 : decode cX2_put 25 = .ok (.getfield 7, 3) := by decide +kernel
theorem dX2_put_28 : decode cX2_put 28 = .ok (.iload 4, 2) := by decide +kernel
theorem dX2_put_30 : decode cX2_put 30 = .ok (.iaload, 1) := by decide +kernel
theorem dX2_put_31 : decode cX2_put 31 = .ok (.iadd, 1) := by decide +kernel
theorem dX2_put_32 : decode cX2_put 32 = .ok (.iload_n 3, 1) := by decide +kernel
theorem dX2_put_33 : decode cX2_put 33 = .ok (.iastore, 1) := by decide +kernel
theorem dX2_put_34 : decode cX2_put 34 = .ok (.return_, 1) := by decide +kernel
theorem dX2_take_0 : decode cX2_take 0 = .ok (.iload_n 1, 1) := by decide +kernel
theorem dX2_take_1 : decode cX2_take 1 = .ok (.iload_n 2, 1) := by decide +kernel
theorem dX2_take_2 : decode cX2_take 2 = .ok (.invokestatic 26, 3) := by decide +kernel
theorem dX2_take_5 : decode cX2_take 5 = .ok (.istore 4, 2) := by decide +kernel
theorem dX2_take_7 : decode cX2_take 7 = .ok (.aload_n 0, 1) := by decide +kernel
theorem dX2_take_8 : decode cX2_take 8 = .ok (.getfield 7, 3) := by decide +kernel
theorem dX2_take_11 : decode cX2_take 11 = .ok (.iload 4, 2) := by decide +kernel
theorem dX2_take_13 : decode cX2_take 13 = .ok (.iconst 1, 1) := by decide +kernel
theorem dX2_take_14 : decode cX2_take 14 = .ok (.iadd, 1) := by decide +kernel
theorem dX2_take_15 : decode cX2_take 15 = .ok (.iload_n 3, 1) := by decide +kernel
theorem dX2_take_16 : decode cX2_take 16 = .ok (.iadd, 1) := by decide +kernel
theorem dX2_take_17 : decode cX2_take 17 = .ok (.iaload, 1) := by decide +kernel
theorem dX2_take_18 : decode cX2_take 18 = .ok (.istore 5, 2) := by decide +kernel
theorem dX2_take_20 : decode cX2_take 20 = .ok (.aload_n 0, 1) := by decide +kernel
theorem dX2_take_21 : decode cX2_take 21 = .ok (.getfield 7, 3) := by decide +kernel
theorem dX2_take_24 : decode cX2_take 24 = .ok (.iload 4, 2) := by decide +kernel
theorem dX2_take_26 : decode cX2_take 26 = .ok (.dup2, 1) := by decide +kernel
theorem dX2_take_27 : decode cX2_take 27 = .ok (.iaload, 1) := by decide +kernel
theorem dX2_take_28 : decode cX2_take 28 = .ok (.iconst 1, 1) := by decide +kernel
theorem dX2_take_29 : decode cX2_take 29 = .ok (.isub, 1) := by decide +kernel
theorem dX2_take_30 : decode cX2_take 30 = .ok (.iastore, 1) := by decide +kernel
theorem dX2_take_31 : decode cX2_take 31 = .ok (.iload 4, 2) := by decide +kernel
theorem dX2_take_33 : decode cX2_take 33 = .ok (.iconst 1, 1) := by decide +kernel
theorem dX2_take_34 : decode cX2_take 34 = .ok (.iadd, 1) := by decide +kernel
theorem dX2_take_35 : decode cX2_take 35 = .ok (.iload_n 3, 1) := by decide +kernel
theorem dX2_take_36 : decode cX2_take 36 = .ok (.iadd, 1) := by decide +kernel
theorem dX2_take_37 : decode cX2_take 37 = .ok (.istore 6, 2) := by decide +kernel
theorem dX2_take_39 : decode cX2_take 39 = .ok (.iload 6, 2) := by decide +kernel
theorem dX2_take_41 : decode cX2_take 41 = .ok (.iload 4, 2) := by decide +kernel
theorem dX2_take_43 : decode cX2_take 43 = .ok (.aload_n 0, 1) := by decide +kernel
theorem dX2_take_44 : decode cX2_take 44 = .ok (.getfield 7, 3) := by decide +kernel
theorem dX2_take_47 : decode cX2_take 47 = .ok (.iload 4, 2) := by decide +kernel
theorem dX2_take_49 : decode cX2_take 49 = .ok (.iaload, 1) := by decide +kernel
theorem dX2_take_50 : decode cX2_take 50 = .ok (.iadd, 1) := by decide +kernel
theorem dX2_take_51 : decode cX2_take 51 = .ok (.if_icmp .gt 25, 3) := by decide +kernel
theorem dX2_take_54 : decode cX2_take 54 = .ok (.aload_n 0, 1) := by decide +kernel
theorem dX2_take_55 : decode cX2_take 55 = .ok (.getfield 7, 3) := by decide +kernel
theorem dX2_take_58 : decode cX2_take 58 = .ok (.iload 6, 2) := by decide +kernel
theorem dX2_take_60 : decode cX2_take 60 = .ok (.aload_n 0, 1) := by decide +kernel
theorem dX2_take_61 : decode cX2_take 61 = .ok (.getfield 7, 3) := by decide +kernel
theorem dX2_take_64 : decode cX2_take 64 = .ok (.iload 6, 2) := by decide +kernel
theorem dX2_take_66 : decode cX2_take 66 = .ok (.iconst 1, 1) := by decide +kernel
theorem dX2_take_67 : decode cX2_take 67 = .ok (.iadd, 1) := by decide +kernel
theorem dX2_take_68 : decode cX2_take 68 = .ok (.iaload, 1) := by decide +kernel
theorem dX2_take_69 : decode cX2_take 69 = .ok (.iastore, 1) := by decide +kernel
theorem dX2_take_70 : decode cX2_take 70 = .ok (.iinc 6 1, 3) := by decide +kernel
theorem dX2_take_73 : decode cX2_take 73 = .ok (.goto (-34), 3) := by decide +kernel
theorem dX2_take_76 : decode cX2_take 76 = .ok (.iload 5, 2) := by decide +kernel
theorem dX2_take_78 : decode cX2_take 78 = .ok (.ireturn, 1) := by decide +kernel
theorem dX2_moveAll_0 : decode cX2_moveAll 0 = .ok (.iload_n 1, 1) := by decide +kernel
theorem dX2_moveAll_1 : decode cX2_moveAll 1 = .ok (.iload_n 2, 1) := by decide +kernel
theorem dX2_moveAll_2 : decode cX2_moveAll 2 = .ok (.invokestatic 26, 3) := by decide +kernel
theorem dX2_moveAll_5 : decode cX2_moveAll 5 = .ok (.istore 4, 2) := by decide +kernel
theorem dX2_moveAll_7 : decode cX2_moveAll 7 = .ok (.iconst 1, 1) := by decide +kernel
theorem dX2_moveAll_8 : decode cX2_moveAll 8 = .ok (.istore 5, 2) := by decide +kernel
theorem dX2_moveAll_10 : decode cX2_moveAll 10 = .ok (.iload 5, 2) := by decide +kernel
theorem dX2_moveAll_12 : decode cX2_moveAll 12 = .ok (.aload_n 0, 1) := by decide +kernel
theorem dX2_moveAll_13 : decode cX2_moveAll 13 = .ok (.getfield 7, 3) := by decide +kernel
theorem dX2_moveAll_16 : decode cX2_moveAll 16 = .ok (.iload 4, 2) := by decide +kernel
theorem dX2_moveAll_18 : decode cX2_moveAll 18 = .ok (.iaload, 1) := by decide +kernel
theorem dX2_moveAll_19 : decode cX2_moveAll 19 = .ok (.if_icmp .gt 25, 3) := by decide +kernel
theorem dX2_moveAll_22 : decode cX2_moveAll 22 = .ok (.aload_n 0, 1) := by decide +kernel
theorem dX2_moveAll_23 : decode cX2_moveAll 23 = .ok (.iload_n 1, 1) := by decide +kernel
theorem dX2_moveAll_24 : decode cX2_moveAll 24 = .ok (.iload_n 3, 1) := by decide +kernel
theorem dX2_moveAll_25 : decode cX2_moveAll 25 = .ok (.aload_n 0, 1) := by decide +kernel
theorem dX2_moveAll_26 : decode cX2_moveAll 26 = .ok (.getfield 7, 3) := by decide +kernel
theorem dX2_moveAll_29 : decode cX2_moveAll 29 = .ok (.iload 4, 2) := by decide +kernel
theorem dX2_moveAll_31 : decode cX2_moveAll 31 = .ok (.iload 5, 2) := by decide +kernel
theorem dX2_moveAll_33 : decode cX2_moveAll 33 = .ok (.iadd, 1) := by decide +kernel
theorem dX2_moveAll_34 : decode cX2_moveAll 34 = .ok (.iaload, 1) := by decide +kernel
theorem dX2_moveAll_35 : decode cX2_moveAll 35 = .ok (.invokevirtual 30, 3) := by decide +kernel
theorem dX2_moveAll_38 : decode cX2_moveAll 38 = .ok (.iinc 5 1, 3) := by decide +kernel
theorem dX2_moveAll_41 : decode cX2_moveAll 41 = .ok (.goto (-31), 3) := by decide +kernel
theorem dX2_moveAll_44 : decode cX2_moveAll 44 = .ok (.aload_n 0, 1) := by decide +kernel
theorem dX2_moveAll_45 : decode cX2_moveAll 45 = .ok (.getfield 7, 3) := by decide +kernel
theorem dX2_moveAll_48 : decode cX2_moveAll 48 = .ok (.iload 4, 2) := by decide +kernel
theorem dX2_moveAll_50 : decode cX2_moveAll 50 = .ok (.iconst 0, 1) := by decide +kernel
theorem dX2_moveAll_51 : decode cX2_moveAll 51 = .ok (.iastore, 1) := by decide +kernel
theorem dX2_moveAll_52 : decode cX2_moveAll 52 = .ok (.return_, 1) := by decide +kernel
theorem dX2_draw_0 : decode cX2_draw 0 = .ok (.iconst 0, 1) := by decide +kernel
theorem dX2_draw_1 : decode cX2_draw 1 = .ok (.istore_n 3, 1) := by decide +kernel
theorem dX2_draw_2 : decode cX2_draw 2 = .ok (.iload_n 3, 1) := by decide +kernel
theorem dX2_draw_3 : decode cX2_draw 3 = .ok (.iload_n 2, 1) := by decide +kernel
theorem dX2_draw_4 : decode cX2_draw 4 = .ok (.if_icmp .ge 47, 3) := by decide +kernel
theorem dX2_draw_7 : decode cX2_draw 7 = .ok (.aload_n 0, 1) := by decide +kernel
theorem dX2_draw_8 : decode cX2_draw 8 = .ok (.iload_n 1, 1) := by decide +kernel
theorem dX2_draw_9 : decode cX2_draw 9 = .ok (.iconst 0, 1) := by decide +kernel
theorem dX2_draw_10 : decode cX2_draw 10 = .ok (.invokevirtual 34, 3) := by decide +kernel
theorem dX2_draw_13 : decode cX2_draw 13 = .ok (.ifCond .ne 10, 3) := by decide +kernel
theorem dX2_draw_16 : decode cX2_draw 16 = .ok (.aload_n 0, 1) := by decide +kernel
theorem dX2_draw_17 : decode cX2_draw 17 = .ok (.iload_n 1, 1) := by decide +kernel
theorem dX2_draw_18 : decode cX2_draw 18 = .ok (.iconst 3, 1) := by decide +kernel
theorem dX2_draw_19 : decode cX2_draw 19 = .ok (.iconst 0, 1) := by decide +kernel
theorem dX2_draw_20 : decode cX2_draw 20 = .ok (.invokevirtual 37, 3) := by decide +kernel
theorem dX2_draw_23 : decode cX2_draw 23 = .ok (.aload_n 0, 1) := by decide +kernel
theorem dX2_draw_24 : decode cX2_draw 24 = .ok (.iload_n 1, 1) := by decide +kernel
theorem dX2_draw_25 : decode cX2_draw 25 = .ok (.iconst 0, 1) := by decide +kernel
theorem dX2_draw_26 : decode cX2_draw 26 = .ok (.invokevirtual 34, 3) := by decide +kernel
theorem dX2_draw_29 : decode cX2_draw 29 = .ok (.ifCond .le 16, 3) := by decide +kernel
theorem dX2_draw_32 : decode cX2_draw 32 = .ok (.aload_n 0, 1) := by decide +kernel
theorem dX2_draw_33 : decode cX2_draw 33 = .ok (.iload_n 1, 1) := by decide +kernel
theorem dX2_draw_34 : decode cX2_draw 34 = .ok (.iconst 1, 1) := by decide +kernel
theorem dX2_draw_35 : decode cX2_draw 35 = .ok (.aload_n 0, 1) := by decide +kernel
theorem dX2_draw_36 : decode cX2_draw 36 = .ok (.iload_n 1, 1) := by decide +kernel
theorem dX2_draw_37 : decode cX2_draw 37 = .ok (.iconst 0, 1) := by decide +kernel
theorem dX2_draw_38 : decode cX2_draw 38 = .ok (.iconst 0, 1) := by decide +kernel
theorem dX2_draw_39 : decode cX2_draw 39 = .ok (.invokevirtual 40, 3) := by decide +kernel
theorem dX2_draw_42 : decode cX2_draw 42 = .ok (.invokevirtual 30, 3) := by decide +kernel
theorem dX2_draw_45 : decode cX2_draw 45 = .ok (.iinc 3 1, 3) := by decide +kernel
theorem dX2_draw_48 : decode cX2_draw 48 = .ok (.goto (-46), 3) := by decide +kernel
theorem dX2_draw_51 : decode cX2_draw 51 = .ok (.return_, 1) := by decide +kernel
theorem dX2_know_0 : decode cX2_know 0 = .ok (.aload_n 0, 1) := by decide +kernel
theorem dX2_know_1 : decode cX2_know 1 = .ok (.getfield 44, 3) := by decide +kernel
theorem dX2_know_4 : decode cX2_know 4 = .ok (.iconst 4, 1) := by decide +kernel
theorem dX2_know_5 : decode cX2_know 5 = .ok (.if_icmp .ne 44, 3) := by decide +kernel
theorem dX2_know_8 : decode cX2_know 8 = .ok (.iconst 0, 1) := by decide +kernel
theorem dX2_know_9 : decode cX2_know 9 = .ok (.istore_n 1, 1) := by decide +kernel
theorem dX2_know_10 : decode cX2_know 10 = .ok (.iload_n 1, 1) := by decide +kernel
theorem dX2_know_11 : decode cX2_know 11 = .ok (.sipush 8010, 3) := by decide +kernel
theorem dX2_know_14 : decode cX2_know 14 = .ok (.if_icmp .ge 25, 3) := by decide +kernel
theorem dX2_know_17 : decode cX2_know 17 = .ok (.aload_n 0, 1) := by decide +kernel
theorem dX2_know_18 : decode cX2_know 18 = .ok (.getfield 16, 3) := by decide +kernel
theorem dX2_know_21 : decode cX2_know 21 = .ok (.iload_n 1, 1) := by decide +kernel
theorem dX2_know_22 : decode cX2_know 22 = .ok (.aload_n 0, 1) := by decide +kernel
theorem dX2_know_23 : decode cX2_know 23 = .ok (.getfield 16, 3) := by decide +kernel
theorem dX2_know_26 : decode cX2_know 26 = .ok (.sipush 2670, 3) := by decide +kernel
theorem dX2_know_29 : decode cX2_know 29 = .ok (.iload_n 1, 1) := by decide +kernel
theorem dX2_know_30 : decode cX2_know 30 = .ok (.iadd, 1) := by decide +kernel
theorem dX2_know_31 : decode cX2_know 31 = .ok (.iaload, 1) := by decide +kernel
theorem dX2_know_32 : decode cX2_know 32 = .ok (.iastore, 1) := by decide +kernel
theorem dX2_know_33 : decode cX2_know 33 = .ok (.iinc 1 1, 3) := by decide +kernel
theorem dX2_know_36 : decode cX2_know 36 = .ok (.goto (-26), 3) := by decide +kernel
theorem dX2_know_39 : decode cX2_know 39 = .ok (.aload_n 0, 1) := by decide +kernel
theorem dX2_know_40 : decode cX2_know 40 = .ok (.dup, 1) := by decide +kernel
theorem dX2_know_41 : decode cX2_know 41 = .ok (.getfield 44, 3) := by decide +kernel
theorem dX2_know_44 : decode cX2_know 44 = .ok (.iconst 1, 1) := by decide +kernel
theorem dX2_know_45 : decode cX2_know 45 = .ok (.isub, 1) := by decide +kernel
theorem dX2_know_46 : decode cX2_know 46 = .ok (.putfield 44, 3) := by decide +kernel
theorem dX2_know_49 : decode cX2_know 49 = .ok (.iconst 0, 1) := by decide +kernel
theorem dX2_know_50 : decode cX2_know 50 = .ok (.istore_n 1, 1) := by decide +kernel
theorem dX2_know_51 : decode cX2_know 51 = .ok (.iload_n 1, 1) := by decide +kernel
theorem dX2_know_52 : decode cX2_know 52 = .ok (.sipush 2670, 3) := by decide +kernel
theorem dX2_know_55 : decode cX2_know 55 = .ok (.if_icmp .ge 30, 3) := by decide +kernel
theorem dX2_know_58 : decode cX2_know 58 = .ok (.aload_n 0, 1) := by decide +kernel
theorem dX2_know_59 : decode cX2_know 59 = .ok (.getfield 16, 3) := by decide +kernel
theorem dX2_know_62 : decode cX2_know 62 = .ok (.sipush 2670, 3) := by decide +kernel
theorem dX2_know_65 : decode cX2_know 65 = .ok (.aload_n 0, 1) := by decide +kernel
theorem dX2_know_66 : decode cX2_know 66 = .ok (.getfield 44, 3) := by decide +kernel
theorem dX2_know_69 : decode cX2_know 69 = .ok (.imul, 1) := by decide +kernel
theorem dX2_know_70 : decode cX2_know 70 = .ok (.iload_n 1, 1) := by decide +kernel
theorem dX2_know_71 : decode cX2_know 71 = .ok (.iadd, 1) := by decide +kernel
theorem dX2_know_72 : decode cX2_know 72 = .ok (.aload_n 0, 1) := by decide +kernel
theorem dX2_know_73 : decode cX2_know 73 = .ok (.getfield 7, 3) := by decide +kernel
theorem dX2_know_76 : decode cX2_know 76 = .ok (.iload_n 1, 1) := by decide +kernel
theorem dX2_know_77 : decode cX2_know 77 = .ok (.iaload, 1) := by decide +kernel
theorem dX2_know_78 : decode cX2_know 78 = .ok (.iastore, 1) := by decide +kernel
theorem dX2_know_79 : decode cX2_know 79 = .ok (.iinc 1 1, 3) := by decide +kernel
theorem dX2_know_82 : decode cX2_know 82 = .ok (.goto (-31), 3) := by decide +kernel
theorem dX2_know_85 : decode cX2_know 85 = .ok (.aload_n 0, 1) := by decide +kernel
theorem dX2_know_86 : decode cX2_know 86 = .ok (.dup, 1) := by decide +kernel
theorem dX2_know_87 : decode cX2_know 87 = .ok (.getfield 44, 3) := by decide +kernel
theorem dX2_know_90 : decode cX2_know 90 = .ok (.iconst 1, 1) := by decide +kernel
theorem dX2_know_91 : decode cX2_know 91 = .ok (.iadd, 1) := by decide +kernel
theorem dX2_know_92 : decode cX2_know 92 = .ok (.putfield 44, 3) := by decide +kernel
theorem dX2_know_95 : decode cX2_know 95 = .ok (.return_, 1) := by decide +kernel
theorem dX2_putAside_0 : decode cX2_putAside 0 = .ok (.iconst 0, 1) := by decide +kernel
theorem dX2_putAside_1 : decode cX2_putAside 1 = .ok (.istore_n 1, 1) := by decide +kernel
theorem dX2_putAside_2 : decode cX2_putAside 2 = .ok (.iload_n 1, 1) := by decide +kernel
theorem dX2_putAside_3 : decode cX2_putAside 3 = .ok (.sipush 2670, 3) := by decide +kernel
theorem dX2_putAside_6 : decode cX2_putAside 6 = .ok (.if_icmp .ge 21, 3) := by decide +kernel
theorem dX2_putAside_9 : decode cX2_putAside 9 = .ok (.aload_n 0, 1) := by decide +kernel
theorem dX2_putAside_10 : decode cX2_putAside 10 = .ok (.getfield 13, 3) := by decide +kernel
theorem dX2_putAside_13 : decode cX2_putAside 13 = .ok (.iload_n 1, 1) := by decide +kernel
theorem dX2_putAside_14 : decode cX2_putAside 14 = .ok (.aload_n 0, 1) := by decide +kernel
theorem dX2_putAside_15 : decode cX2_putAside 15 = .ok (.getfield 7, 3) := by decide +kernel
theorem dX2_putAside_18 : decode cX2_putAside 18 = .ok (.iload_n 1, 1) := by decide +kernel
theorem dX2_putAside_19 : decode cX2_putAside 19 = .ok (.iaload, 1) := by decide +kernel
theorem dX2_putAside_20 : decode cX2_putAside 20 = .ok (.iastore, 1) := by decide +kernel
theorem dX2_putAside_21 : decode cX2_putAside 21 = .ok (.iinc 1 1, 3) := by decide +kernel
theorem dX2_putAside_24 : decode cX2_putAside 24 = .ok (.goto (-22), 3) := by decide +kernel
theorem dX2_putAside_27 : decode cX2_putAside 27 = .ok (.return_, 1) := by decide +kernel
theorem dX2_putBack_0 : decode cX2_putBack 0 = .ok (.iconst 0, 1) := by decide +kernel
theorem dX2_putBack_1 : decode cX2_putBack 1 = .ok (.istore_n 1, 1) := by decide +kernel
theorem dX2_putBack_2 : decode cX2_putBack 2 = .ok (.iload_n 1, 1) := by decide +kernel
theorem dX2_putBack_3 : decode cX2_putBack 3 = .ok (.sipush 2670, 3) := by decide +kernel
theorem dX2_putBack_6 : decode cX2_putBack 6 = .ok (.if_icmp .ge 21, 3) := by decide +kernel
theorem dX2_putBack_9 : decode cX2_putBack 9 = .ok (.aload_n 0, 1) := by decide +kernel
theorem dX2_putBack_10 : decode cX2_putBack 10 = .ok (.getfield 7, 3) := by decide +kernel
theorem dX2_putBack_13 : decode cX2_putBack 13 = .ok (.iload_n 1, 1) := by decide +kernel
theorem dX2_putBack_14 : decode cX2_putBack 14 = .ok (.aload_n 0, 1) := by decide +kernel
theorem dX2_putBack_15 : decode cX2_putBack 15 = .ok (.getfield 13, 3) := by decide +kernel
theorem dX2_putBack_18 : decode cX2_putBack 18 = .ok (.iload_n 1, 1) := by decide +kernel
theorem dX2_putBack_19 : decode cX2_putBack 19 = .ok (.iaload, 1) := by decide +kernel
theorem dX2_putBack_20 : decode cX2_putBack 20 = .ok (.iastore, 1) := by decide +kernel
theorem dX2_putBack_21 : decode cX2_putBack 21 = .ok (.iinc 1 1, 3) := by decide +kernel
theorem dX2_putBack_24 : decode cX2_putBack 24 = .ok (.goto (-22), 3) := by decide +kernel
theorem dX2_putBack_27 : decode cX2_putBack 27 = .ok (.return_, 1) := by decide +kernel
theorem dX2_isInHand_0 : decode cX2_isInHand 0 = .ok (.iload_n 1, 1) := by decide +kernel
theorem dX2_isInHand_1 : decode cX2_isInHand 1 = .ok (.iconst 0, 1) := by decide +kernel
theorem dX2_isInHand_2 : decode cX2_isInHand 2 = .ok (.aload_n 0, 1) := by decide +kernel
theorem dX2_isInHand_3 : decode cX2_isInHand 3 = .ok (.aload_n 0, 1) := by decide +kernel
theorem dX2_isInHand_4 : decode cX2_isInHand 4 = .ok (.getfield 7, 3) := by decide +kernel
theorem dX2_isInHand_7 : decode cX2_isInHand 7 = .ok (.iconst 1, 1) := by decide +kernel
theorem dX2_isInHand_8 : decode cX2_isInHand 8 = .ok (.iaload, 1) := by decide +kernel
theorem dX2_isInHand_9 : decode cX2_isInHand 9 = .ok (.iconst 1, 1) := by decide +kernel
theorem dX2_isInHand_10 : decode cX2_isInHand 10 = .ok (.invokevirtual 34, 3) := by decide +kernel
theorem dX2_isInHand_13 : decode cX2_isInHand 13 = .ok (.iconst 1, 1) := by decide +kernel
theorem dX2_isInHand_14 : decode cX2_isInHand 14 = .ok (.isub, 1) := by decide +kernel
theorem dX2_isInHand_15 : decode cX2_isInHand 15 = .ok (.invokestatic 48, 3) := by decide +kernel
theorem dX2_isInHand_18 : decode cX2_isInHand 18 = .ok (.ireturn, 1) := by decide +kernel
theorem dX2_inHand_0 : decode cX2_inHand 0 = .ok (.aload_n 0, 1) := by decide +kernel
theorem dX2_inHand_1 : decode cX2_inHand 1 = .ok (.getfield 7, 3) := by decide +kernel
theorem dX2_inHand_4 : decode cX2_inHand 4 = .ok (.aload_n 0, 1) := by decide +kernel
theorem dX2_inHand_5 : decode cX2_inHand 5 = .ok (.getfield 7, 3) := by decide +kernel
theorem dX2_inHand_8 : decode cX2_inHand 8 = .ok (.iconst 1, 1) := by decide +kernel
theorem dX2_inHand_9 : decode cX2_inHand 9 = .ok (.iaload, 1) := by decide +kernel
theorem dX2_inHand_10 : decode cX2_inHand 10 = .ok (.iconst 1, 1) := by decide +kernel
theorem dX2_inHand_11 : decode cX2_inHand 11 = .ok (.invokestatic 26, 3) := by decide +kernel
theorem dX2_inHand_14 : decode cX2_inHand 14 = .ok (.iconst 1, 1) := by decide +kernel
theorem dX2_inHand_15 : decode cX2_inHand 15 = .ok (.iadd, 1) := by decide +kernel
theorem dX2_inHand_16 : decode cX2_inHand 16 = .ok (.iload_n 1, 1) := by decide +kernel
theorem dX2_inHand_17 : decode cX2_inHand 17 = .ok (.iadd, 1) := by decide +kernel
theorem dX2_inHand_18 : decode cX2_inHand 18 = .ok (.iaload, 1) := by decide +kernel
theorem dX2_inHand_19 : decode cX2_inHand 19 = .ok (.ireturn, 1) := by decide +kernel
theorem dX2_begins_0 : decode cX2_begins 0 = .ok (.aload_n 0, 1) := by decide +kernel
theorem dX2_begins_1 : decode cX2_begins 1 = .ok (.getfield 7, 3) := by decide +kernel
theorem dX2_begins_4 : decode cX2_begins 4 = .ok (.bipush 9, 2) := by decide +kernel
theorem dX2_begins_6 : decode cX2_begins 6 = .ok (.iaload, 1) := by decide +kernel
theorem dX2_begins_7 : decode cX2_begins 7 = .ok (.istore_n 2, 1) := by decide +kernel
theorem dX2_begins_8 : decode cX2_begins 8 = .ok (.iconst 0, 1) := by decide +kernel
theorem dX2_begins_9 : decode cX2_begins 9 = .ok (.istore_n 3, 1) := by decide +kernel
theorem dX2_begins_10 : decode cX2_begins 10 = .ok (.iload_n 3, 1) := by decide +kernel
theorem dX2_begins_11 : decode cX2_begins 11 = .ok (.sipush 2670, 3) := by decide +kernel
theorem dX2_begins_14 : decode cX2_begins 14 = .ok (.if_icmp .ge 16, 3) := by decide +kernel
theorem dX2_begins_17 : decode cX2_begins 17 = .ok (.aload_n 0, 1) := by decide +kernel
theorem dX2_begins_18 : decode cX2_begins 18 = .ok (.getfield 7, 3) := by decide +kernel
theorem dX2_begins_21 : decode cX2_begins 21 = .ok (.iload_n 3, 1) := by decide +kernel
theorem dX2_begins_22 : decode cX2_begins 22 = .ok (.iconst 0, 1) := by decide +kernel
theorem dX2_begins_23 : decode cX2_begins 23 = .ok (.iastore, 1) := by decide +kernel
theorem dX2_begins_24 : decode cX2_begins 24 = .ok (.iinc 3 1, 3) := by decide +kernel
theorem dX2_begins_27 : decode cX2_begins 27 = .ok (.goto (-17), 3) := by decide +kernel
theorem dX2_begins_30 : decode cX2_begins 30 = .ok (.aload_n 0, 1) := by decide +kernel
theorem dX2_begins_31 : decode cX2_begins 31 = .ok (.getfield 7, 3) := by decide +kernel
theorem dX2_begins_34 : decode cX2_begins 34 = .ok (.bipush 9, 2) := by decide +kernel
theorem dX2_begins_36 : decode cX2_begins 36 = .ok (.iload_n 2, 1) := by decide +kernel
theorem dX2_begins_37 : decode cX2_begins 37 = .ok (.iastore, 1) := by decide +kernel
theorem dX2_begins_38 : decode cX2_begins 38 = .ok (.aload_n 0, 1) := by decide +kernel
theorem dX2_begins_39 : decode cX2_begins 39 = .ok (.getfield 7, 3) := by decide +kernel
theorem dX2_begins_42 : decode cX2_begins 42 = .ok (.iconst 0, 1) := by decide +kernel
theorem dX2_begins_43 : decode cX2_begins 43 = .ok (.iload_n 1, 1) := by decide +kernel
theorem dX2_begins_44 : decode cX2_begins 44 = .ok (.iastore, 1) := by decide +kernel
theorem dX2_begins_45 : decode cX2_begins 45 = .ok (.aload_n 0, 1) := by decide +kernel
theorem dX2_begins_46 : decode cX2_begins 46 = .ok (.getfield 7, 3) := by decide +kernel
theorem dX2_begins_49 : decode cX2_begins 49 = .ok (.iconst 3, 1) := by decide +kernel
theorem dX2_begins_50 : decode cX2_begins 50 = .ok (.iconst 1, 1) := by decide +kernel
theorem dX2_begins_51 : decode cX2_begins 51 = .ok (.iastore, 1) := by decide +kernel
theorem dX2_begins_52 : decode cX2_begins 52 = .ok (.aload_n 0, 1) := by decide +kernel
theorem dX2_begins_53 : decode cX2_begins 53 = .ok (.getfield 7, 3) := by decide +kernel
theorem dX2_begins_56 : decode cX2_begins 56 = .ok (.iconst 4, 1) := by decide +kernel
theorem dX2_begins_57 : decode cX2_begins 57 = .ok (.iconst 1, 1) := by decide +kernel
theorem dX2_begins_58 : decode cX2_begins 58 = .ok (.iastore, 1) := by decide +kernel
theorem dX2_begins_59 : decode cX2_begins 59 = .ok (.iconst 0, 1) := by decide +kernel
theorem dX2_begins_60 : decode cX2_begins 60 = .ok (.istore_n 3, 1) := by decide +kernel
theorem dX2_begins_61 : decode cX2_begins 61 = .ok (.iload_n 3, 1) := by decide +kernel
theorem dX2_begins_62 : decode cX2_begins 62 = .ok (.bipush 10, 2) := by decide +kernel
theorem dX2_begins_64 : decode cX2_begins 64 = .ok (.if_icmp .ge 22, 3) := by decide +kernel
theorem dX2_begins_67 : decode cX2_begins 67 = .ok (.aload_n 0, 1) := by decide +kernel
theorem dX2_begins_68 : decode cX2_begins 68 = .ok (.getfield 7, 3) := by decide +kernel
theorem dX2_begins_71 : decode cX2_begins 71 = .ok (.bipush 10, 2) := by decide +kernel
theorem dX2_begins_73 : decode cX2_begins 73 = .ok (.iload_n 3, 1) := by decide +kernel
theorem dX2_begins_74 : decode cX2_begins 74 = .ok (.iadd, 1) := by decide +kernel
theorem dX2_begins_75 : decode cX2_begins 75 = .ok (.iload_n 3, 1) := by decide +kernel
theorem dX2_begins_76 : decode cX2_begins 76 = .ok (.invokestatic 52, 3) := by decide +kernel
theorem dX2_begins_79 : decode cX2_begins 79 = .ok (.iastore, 1) := by decide +kernel
theorem dX2_begins_80 : decode cX2_begins 80 = .ok (.iinc 3 1, 3) := by decide +kernel
theorem dX2_begins_83 : decode cX2_begins 83 = .ok (.goto (-22), 3) := by decide +kernel
theorem dX2_begins_86 : decode cX2_begins 86 = .ok (.iconst 0, 1) := by decide +kernel
theorem dX2_begins_87 : decode cX2_begins 87 = .ok (.istore_n 3, 1) := by decide +kernel
theorem dX2_begins_88 : decode cX2_begins 88 = .ok (.iload_n 3, 1) := by decide +kernel
theorem dX2_begins_89 : decode cX2_begins 89 = .ok (.iload_n 1, 1) := by decide +kernel
theorem dX2_begins_90 : decode cX2_begins 90 = .ok (.if_icmp .ge 68, 3) := by decide +kernel
theorem dX2_begins_93 : decode cX2_begins 93 = .ok (.iconst 0, 1) := by decide +kernel
theorem dX2_begins_94 : decode cX2_begins 94 = .ok (.istore 4, 2) := by decide +kernel
theorem dX2_begins_96 : decode cX2_begins 96 = .ok (.iload 4, 2) := by decide +kernel
theorem dX2_begins_98 : decode cX2_begins 98 = .ok (.bipush 10, 2) := by decide +kernel
theorem dX2_begins_100 : decode cX2_begins 100 = .ok (.if_icmp .ge 46, 3) := by decide +kernel
theorem dX2_begins_103 : decode cX2_begins 103 = .ok (.iload 4, 2) := by decide +kernel
theorem dX2_begins_105 : decode cX2_begins 105 = .ok (.iconst 3, 1) := by decide +kernel
theorem dX2_begins_106 : decode cX2_begins 106 = .ok (.irem, 1) := by decide +kernel
theorem dX2_begins_107 : decode cX2_begins 107 = .ok (.iconst 2, 1) := by decide +kernel
theorem dX2_begins_108 : decode cX2_begins 108 = .ok (.if_icmp .ne 7, 3) := by decide +kernel
theorem dX2_begins_111 : decode cX2_begins 111 = .ok (.iconst 3, 1) := by decide +kernel
theorem dX2_begins_112 : decode cX2_begins 112 = .ok (.goto 4, 3) := by decide +kernel
theorem dX2_begins_115 : decode cX2_begins 115 = .ok (.iconst 0, 1) := by decide +kernel
theorem dX2_begins_116 : decode cX2_begins 116 = .ok (.istore 5, 2) := by decide +kernel
theorem dX2_begins_118 : decode cX2_begins 118 = .ok (.aload_n 0, 1) := by decide +kernel
theorem dX2_begins_119 : decode cX2_begins 119 = .ok (.getfield 7, 3) := by decide +kernel
theorem dX2_begins_122 : decode cX2_begins 122 = .ok (.bipush 10, 2) := by decide +kernel
theorem dX2_begins_124 : decode cX2_begins 124 = .ok (.iload 5, 2) := by decide +kernel
theorem dX2_begins_126 : decode cX2_begins 126 = .ok (.iadd, 1) := by decide +kernel
theorem dX2_begins_127 : decode cX2_begins 127 = .ok (.dup2, 1) := by decide +kernel
theorem dX2_begins_128 : decode cX2_begins 128 = .ok (.iaload, 1) := by decide +kernel
theorem dX2_begins_129 : decode cX2_begins 129 = .ok (.iconst 1, 1) := by decide +kernel
theorem dX2_begins_130 : decode cX2_begins 130 = .ok (.isub, 1) := by decide +kernel
theorem dX2_begins_131 : decode cX2_begins 131 = .ok (.iastore, 1) := by decide +kernel
theorem dX2_begins_132 : decode cX2_begins 132 = .ok (.aload_n 0, 1) := by decide +kernel
theorem dX2_begins_133 : decode cX2_begins 133 = .ok (.iload_n 3, 1) := by decide +kernel
theorem dX2_begins_134 : decode cX2_begins 134 = .ok (.iconst 0, 1) := by decide +kernel
theorem dX2_begins_135 : decode cX2_begins 135 = .ok (.iload 5, 2) := by decide +kernel
theorem dX2_begins_137 : decode cX2_begins 137 = .ok (.invokevirtual 30, 3) := by decide +kernel
theorem dX2_begins_140 : decode cX2_begins 140 = .ok (.iinc 4 1, 3) := by decide +kernel
theorem dX2_begins_143 : decode cX2_begins 143 = .ok (.goto (-47), 3) := by decide +kernel
theorem dX2_begins_146 : decode cX2_begins 146 = .ok (.aload_n 0, 1) := by decide +kernel
theorem dX2_begins_147 : decode cX2_begins 147 = .ok (.iload_n 3, 1) := by decide +kernel
theorem dX2_begins_148 : decode cX2_begins 148 = .ok (.iconst 5, 1) := by decide +kernel
theorem dX2_begins_149 : decode cX2_begins 149 = .ok (.invokevirtual 55, 3) := by decide +kernel
theorem dX2_begins_152 : decode cX2_begins 152 = .ok (.iinc 3 1, 3) := by decide +kernel
theorem dX2_begins_155 : decode cX2_begins 155 = .ok (.goto (-67), 3) := by decide +kernel
theorem dX2_begins_158 : decode cX2_begins 158 = .ok (.aload_n 0, 1) := by decide +kernel
theorem dX2_begins_159 : decode cX2_begins 159 = .ok (.getfield 7, 3) := by decide +kernel
theorem dX2_begins_162 : decode cX2_begins 162 = .ok (.bipush 10, 2) := by decide +kernel
theorem dX2_begins_164 : decode cX2_begins 164 = .ok (.iaload, 1) := by decide +kernel
theorem dX2_begins_165 : decode cX2_begins 165 = .ok (.ireturn, 1) := by decide +kernel
theorem dX2_playFault_0 : decode cX2_playFault 0 = .ok (.aload_n 0, 1) := by decide +kernel
theorem dX2_playFault_1 : decode cX2_playFault 1 = .ok (.iload_n 1, 1) := by decide +kernel
theorem dX2_playFault_2 : decode cX2_playFault 2 = .ok (.invokevirtual 59, 3) := by decide +kernel
theorem dX2_playFault_5 : decode cX2_playFault 5 = .ok (.ifCond .ne 6, 3) := by decide +kernel
theorem dX2_playFault_8 : decode cX2_playFault 8 = .ok (.ldc 63, 2) := by decide +kernel
theorem dX2_playFault_10 : decode cX2_playFault 10 = .ok (.ireturn, 1) := by decide +kernel
theorem dX2_playFault_11 : decode cX2_playFault 11 = .ok (.aload_n 0, 1) := by decide +kernel
theorem dX2_playFault_12 : decode cX2_playFault 12 = .ok (.iload_n 1, 1) := by decide +kernel
theorem dX2_playFault_13 : decode cX2_playFault 13 = .ok (.invokevirtual 64, 3) := by decide +kernel
theorem dX2_playFault_16 : decode cX2_playFault 16 = .ok (.istore_n 2, 1) := by decide +kernel
theorem dX2_playFault_17 : decode cX2_playFault 17 = .ok (.iload_n 2, 1) := by decide +kernel
theorem dX2_playFault_18 : decode cX2_playFault 18 = .ok (.iconst 3, 1) := by decide +kernel
theorem dX2_playFault_19 : decode cX2_playFault 19 = .ok (.if_icmp .lt 17, 3) := by decide +kernel
theorem dX2_playFault_22 : decode cX2_playFault 22 = .ok (.iload_n 2, 1) := by decide +kernel
theorem dX2_playFault_23 : decode cX2_playFault 23 = .ok (.iconst 5, 1) := by decide +kernel
theorem dX2_playFault_24 : decode cX2_playFault 24 = .ok (.if_icmp .le 16, 3) := by decide +kernel
theorem dX2_playFault_27 : decode cX2_playFault 27 = .ok (.aload_n 0, 1) := by decide +kernel
theorem dX2_playFault_28 : decode cX2_playFault 28 = .ok (.getfield 7, 3) := by decide +kernel
theorem dX2_playFault_31 : decode cX2_playFault 31 = .ok (.iconst 4, 1) := by decide +kernel
theorem dX2_playFault_32 : decode cX2_playFault 32 = .ok (.iaload, 1) := by decide +kernel
theorem dX2_playFault_33 : decode cX2_playFault 33 = .ok (.ifCond .le 7, 3) := by decide +kernel
theorem dX2_playFault_36 : decode cX2_playFault 36 = .ok (.iconst 1, 1) := by decide +kernel
theorem dX2_playFault_37 : decode cX2_playFault 37 = .ok (.goto 4, 3) := by decide +kernel
theorem dX2_playFault_40 : decode cX2_playFault 40 = .ok (.iconst 0, 1) := by decide +kernel
theorem dX2_playFault_41 : decode cX2_playFault 41 = .ok (.istore_n 3, 1) := by decide +kernel
theorem dX2_playFault_42 : decode cX2_playFault 42 = .ok (.iload_n 3, 1) := by decide +kernel
theorem dX2_playFault_43 : decode cX2_playFault 43 = .ok (.ifCond .eq 17, 3) := by decide +kernel
theorem dX2_playFault_46 : decode cX2_playFault 46 = .ok (.aload_n 0, 1) := by decide +kernel
theorem dX2_playFault_47 : decode cX2_playFault 47 = .ok (.getfield 7, 3) := by decide +kernel
theorem dX2_playFault_50 : decode cX2_playFault 50 = .ok (.bipush 8, 2) := by decide +kernel
theorem dX2_playFault_52 : decode cX2_playFault 52 = .ok (.iaload, 1) := by decide +kernel
theorem dX2_playFault_53 : decode cX2_playFault 53 = .ok (.ifCond .ne 7, 3) := by decide +kernel
theorem dX2_playFault_56 : decode cX2_playFault 56 = .ok (.iconst 0, 1) := by decide +kernel
theorem dX2_playFault_57 : decode cX2_playFault 57 = .ok (.goto 5, 3) := by decide +kernel
theorem dX2_playFault_60 : decode cX2_playFault 60 = .ok (.ldc 67, 2) := by decide +kernel
theorem dX2_playFault_62 : decode cX2_playFault 62 = .ok (.ireturn, 1) := by decide +kernel
theorem dX2_plays_0 : decode cX2_plays 0 = .ok (.aload_n 0, 1) := by decide +kernel
theorem dX2_plays_1 : decode cX2_plays 1 = .ok (.getfield 7, 3) := by decide +kernel
theorem dX2_plays_4 : decode cX2_plays 4 = .ok (.iconst 1, 1) := by decide +kernel
theorem dX2_plays_5 : decode cX2_plays 5 = .ok (.iaload, 1) := by decide +kernel
theorem dX2_plays_6 : decode cX2_plays 6 = .ok (.istore_n 2, 1) := by decide +kernel
theorem dX2_plays_7 : decode cX2_plays 7 = .ok (.aload_n 0, 1) := by decide +kernel
theorem dX2_plays_8 : decode cX2_plays 8 = .ok (.iload_n 2, 1) := by decide +kernel
theorem dX2_plays_9 : decode cX2_plays 9 = .ok (.iconst 1, 1) := by decide +kernel
theorem dX2_plays_10 : decode cX2_plays 10 = .ok (.iload_n 1, 1) := by decide +kernel
theorem dX2_plays_11 : decode cX2_plays 11 = .ok (.invokevirtual 40, 3) := by decide +kernel
theorem dX2_plays_14 : decode cX2_plays 14 = .ok (.istore_n 3, 1) := by decide +kernel
theorem dX2_plays_15 : decode cX2_plays 15 = .ok (.aload_n 0, 1) := by decide +kernel
theorem dX2_plays_16 : decode cX2_plays 16 = .ok (.iload_n 2, 1) := by decide +kernel
theorem dX2_plays_17 : decode cX2_plays 17 = .ok (.iconst 2, 1) := by decide +kernel
theorem dX2_plays_18 : decode cX2_plays 18 = .ok (.iload_n 3, 1) := by decide +kernel
theorem dX2_plays_19 : decode cX2_plays 19 = .ok (.invokevirtual 30, 3) := by decide +kernel
theorem dX2_plays_22 : decode cX2_plays 22 = .ok (.aload_n 0, 1) := by decide +kernel
theorem dX2_plays_23 : decode cX2_plays 23 = .ok (.getfield 7, 3) := by decide +kernel
theorem dX2_plays_26 : decode cX2_plays 26 = .ok (.iconst 4, 1) := by decide +kernel
theorem dX2_plays_27 : decode cX2_plays 27 = .ok (.dup2, 1) := by decide +kernel
theorem dX2_plays_28 : decode cX2_plays 28 = .ok (.iaload, 1) := by decide +kernel
theorem dX2_plays_29 : decode cX2_plays 29 = .ok (.iload_n 3, 1) := by decide +kernel
theorem dX2_plays_30 : decode cX2_plays 30 = .ok (.iconst 5, 1) := by decide +kernel
theorem dX2_plays_31 : decode cX2_plays 31 = .ok (.if_icmp .le 7, 3) := by decide +kernel
theorem dX2_plays_34 : decode cX2_plays 34 = .ok (.iconst 1, 1) := by decide +kernel
theorem dX2_plays_35 : decode cX2_plays 35 = .ok (.goto 4, 3) := by decide +kernel
theorem dX2_plays_38 : decode cX2_plays 38 = .ok (.iconst 0, 1) := by decide +kernel
theorem dX2_plays_39 : decode cX2_plays 39 = .ok (.isub, 1) := by decide +kernel
theorem dX2_plays_40 : decode cX2_plays 40 = .ok (.iastore, 1) := by decide +kernel
theorem dX2_plays_41 : decode cX2_plays 41 = .ok (.aload_n 0, 1) := by decide +kernel
theorem dX2_plays_42 : decode cX2_plays 42 = .ok (.getfield 7, 3) := by decide +kernel
theorem dX2_plays_45 : decode cX2_plays 45 = .ok (.iconst 2, 1) := by decide +kernel
theorem dX2_plays_46 : decode cX2_plays 46 = .ok (.dup2, 1) := by decide +kernel
theorem dX2_plays_47 : decode cX2_plays 47 = .ok (.iaload, 1) := by decide +kernel
theorem dX2_plays_48 : decode cX2_plays 48 = .ok (.iload_n 3, 1) := by decide +kernel
theorem dX2_plays_49 : decode cX2_plays 49 = .ok (.invokestatic 68, 3) := by decide +kernel
theorem dX2_plays_52 : decode cX2_plays 52 = .ok (.iadd, 1) := by decide +kernel
theorem dX2_plays_53 : decode cX2_plays 53 = .ok (.iastore, 1) := by decide +kernel
theorem dX2_plays_54 : decode cX2_plays 54 = .ok (.aload_n 0, 1) := by decide +kernel
theorem dX2_plays_55 : decode cX2_plays 55 = .ok (.iload_n 2, 1) := by decide +kernel
theorem dX2_plays_56 : decode cX2_plays 56 = .ok (.iload_n 3, 1) := by decide +kernel
theorem dX2_plays_57 : decode cX2_plays 57 = .ok (.invokestatic 71, 3) := by decide +kernel
theorem dX2_plays_60 : decode cX2_plays 60 = .ok (.invokevirtual 55, 3) := by decide +kernel
theorem dX2_plays_63 : decode cX2_plays 63 = .ok (.aload_n 0, 1) := by decide +kernel
theorem dX2_plays_64 : decode cX2_plays 64 = .ok (.getfield 7, 3) := by decide +kernel
theorem dX2_plays_67 : decode cX2_plays 67 = .ok (.iconst 3, 1) := by decide +kernel
theorem dX2_plays_68 : decode cX2_plays 68 = .ok (.dup2, 1) := by decide +kernel
theorem dX2_plays_69 : decode cX2_plays 69 = .ok (.iaload, 1) := by decide +kernel
theorem dX2_plays_70 : decode cX2_plays 70 = .ok (.iload_n 3, 1) := by decide +kernel
theorem dX2_plays_71 : decode cX2_plays 71 = .ok (.bipush 7, 2) := by decide +kernel
theorem dX2_plays_73 : decode cX2_plays 73 = .ok (.if_icmp .ne 7, 3) := by decide +kernel
theorem dX2_plays_76 : decode cX2_plays 76 = .ok (.iconst 1, 1) := by decide +kernel
theorem dX2_plays_77 : decode cX2_plays 77 = .ok (.goto 4, 3) := by decide +kernel
theorem dX2_plays_80 : decode cX2_plays 80 = .ok (.iconst 0, 1) := by decide +kernel
theorem dX2_plays_81 : decode cX2_plays 81 = .ok (.iadd, 1) := by decide +kernel
theorem dX2_plays_82 : decode cX2_plays 82 = .ok (.iastore, 1) := by decide +kernel
theorem dX2_plays_83 : decode cX2_plays 83 = .ok (.aload_n 0, 1) := by decide +kernel
theorem dX2_plays_84 : decode cX2_plays 84 = .ok (.getfield 7, 3) := by decide +kernel
theorem dX2_plays_87 : decode cX2_plays 87 = .ok (.iconst 4, 1) := by decide +kernel
theorem dX2_plays_88 : decode cX2_plays 88 = .ok (.dup2, 1) := by decide +kernel
theorem dX2_plays_89 : decode cX2_plays 89 = .ok (.iaload, 1) := by decide +kernel
theorem dX2_plays_90 : decode cX2_plays 90 = .ok (.iload_n 3, 1) := by decide +kernel
theorem dX2_plays_91 : decode cX2_plays 91 = .ok (.bipush 6, 2) := by decide +kernel
theorem dX2_plays_93 : decode cX2_plays 93 = .ok (.if_icmp .le 7, 3) := by decide +kernel
theorem dX2_plays_96 : decode cX2_plays 96 = .ok (.iconst 1, 1) := by decide +kernel
theorem dX2_plays_97 : decode cX2_plays 97 = .ok (.goto 4, 3) := by decide +kernel
theorem dX2_plays_100 : decode cX2_plays 100 = .ok (.iconst 0, 1) := by decide +kernel
theorem dX2_plays_101 : decode cX2_plays 101 = .ok (.iadd, 1) := by decide +kernel
theorem dX2_plays_102 : decode cX2_plays 102 = .ok (.iastore, 1) := by decide +kernel
theorem dX2_plays_103 : decode cX2_plays 103 = .ok (.iconst 1, 1) := by decide +kernel
theorem dX2_plays_104 : decode cX2_plays 104 = .ok (.istore 4, 2) := by decide +kernel
theorem dX2_plays_106 : decode cX2_plays 106 = .ok (.iload 4, 2) := by decide +kernel
theorem dX2_plays_108 : decode cX2_plays 108 = .ok (.aload_n 0, 1) := by decide +kernel
theorem dX2_plays_109 : decode cX2_plays 109 = .ok (.getfield 7, 3) := by decide +kernel
theorem dX2_plays_112 : decode cX2_plays 112 = .ok (.iconst 0, 1) := by decide +kernel
theorem dX2_plays_113 : decode cX2_plays 113 = .ok (.iaload, 1) := by decide +kernel
theorem dX2_plays_114 : decode cX2_plays 114 = .ok (.if_icmp .ge 53, 3) := by decide +kernel
theorem dX2_plays_117 : decode cX2_plays 117 = .ok (.iload_n 3, 1) := by decide +kernel
theorem dX2_plays_118 : decode cX2_plays 118 = .ok (.bipush 6, 2) := by decide +kernel
theorem dX2_plays_120 : decode cX2_plays 120 = .ok (.if_icmp .ne 47, 3) := by decide +kernel
theorem dX2_plays_123 : decode cX2_plays 123 = .ok (.aload_n 0, 1) := by decide +kernel
theorem dX2_plays_124 : decode cX2_plays 124 = .ok (.getfield 7, 3) := by decide +kernel
theorem dX2_plays_127 : decode cX2_plays 127 = .ok (.bipush 15, 2) := by decide +kernel
theorem dX2_plays_129 : decode cX2_plays 129 = .ok (.iaload, 1) := by decide +kernel
theorem dX2_plays_130 : decode cX2_plays 130 = .ok (.ifCond .le 31, 3) := by decide +kernel
theorem dX2_plays_133 : decode cX2_plays 133 = .ok (.aload_n 0, 1) := by decide +kernel
theorem dX2_plays_134 : decode cX2_plays 134 = .ok (.getfield 7, 3) := by decide +kernel
theorem dX2_plays_137 : decode cX2_plays 137 = .ok (.bipush 15, 2) := by decide +kernel
theorem dX2_plays_139 : decode cX2_plays 139 = .ok (.dup2, 1) := by decide +kernel
theorem dX2_plays_140 : decode cX2_plays 140 = .ok (.iaload, 1) := by decide +kernel
theorem dX2_plays_141 : decode cX2_plays 141 = .ok (.iconst 1, 1) := by decide +kernel
theorem dX2_plays_142 : decode cX2_plays 142 = .ok (.isub, 1) := by decide +kernel
theorem dX2_plays_143 : decode cX2_plays 143 = .ok (.iastore, 1) := by decide +kernel
theorem dX2_plays_144 : decode cX2_plays 144 = .ok (.aload_n 0, 1) := by decide +kernel
theorem dX2_plays_145 : decode cX2_plays 145 = .ok (.iload_n 2, 1) := by decide +kernel
theorem dX2_plays_146 : decode cX2_plays 146 = .ok (.iload 4, 2) := by decide +kernel
theorem dX2_plays_148 : decode cX2_plays 148 = .ok (.iadd, 1) := by decide +kernel
theorem dX2_plays_149 : decode cX2_plays 149 = .ok (.aload_n 0, 1) := by decide +kernel
theorem dX2_plays_150 : decode cX2_plays 150 = .ok (.getfield 7, 3) := by decide +kernel
theorem dX2_plays_153 : decode cX2_plays 153 = .ok (.iconst 0, 1) := by decide +kernel
theorem dX2_plays_154 : decode cX2_plays 154 = .ok (.iaload, 1) := by decide +kernel
theorem dX2_plays_155 : decode cX2_plays 155 = .ok (.irem, 1) := by decide +kernel
theorem dX2_plays_156 : decode cX2_plays 156 = .ok (.iconst 3, 1) := by decide +kernel
theorem dX2_plays_157 : decode cX2_plays 157 = .ok (.iconst 5, 1) := by decide +kernel
theorem dX2_plays_158 : decode cX2_plays 158 = .ok (.invokevirtual 30, 3) := by decide +kernel
theorem dX2_plays_161 : decode cX2_plays 161 = .ok (.iinc 4 1, 3) := by decide +kernel
theorem dX2_plays_164 : decode cX2_plays 164 = .ok (.goto (-58), 3) := by decide +kernel
theorem dX2_plays_167 : decode cX2_plays 167 = .ok (.aload_n 0, 1) := by decide +kernel
theorem dX2_plays_168 : decode cX2_plays 168 = .ok (.getfield 7, 3) := by decide +kernel
theorem dX2_plays_171 : decode cX2_plays 171 = .ok (.iconst 5, 1) := by decide +kernel
theorem dX2_plays_172 : decode cX2_plays 172 = .ok (.dup2, 1) := by decide +kernel
theorem dX2_plays_173 : decode cX2_plays 173 = .ok (.iaload, 1) := by decide +kernel
theorem dX2_plays_174 : decode cX2_plays 174 = .ok (.iload_n 3, 1) := by decide +kernel
theorem dX2_plays_175 : decode cX2_plays 175 = .ok (.bipush 8, 2) := by decide +kernel
theorem dX2_plays_177 : decode cX2_plays 177 = .ok (.if_icmp .ne 7, 3) := by decide +kernel
theorem dX2_plays_180 : decode cX2_plays 180 = .ok (.iconst 1, 1) := by decide +kernel
theorem dX2_plays_181 : decode cX2_plays 181 = .ok (.goto 4, 3) := by decide +kernel
theorem dX2_plays_184 : decode cX2_plays 184 = .ok (.iconst 0, 1) := by decide +kernel
theorem dX2_plays_185 : decode cX2_plays 185 = .ok (.iadd, 1) := by decide +kernel
theorem dX2_plays_186 : decode cX2_plays 186 = .ok (.iastore, 1) := by decide +kernel
theorem dX2_plays_187 : decode cX2_plays 187 = .ok (.iload_n 3, 1) := by decide +kernel
theorem dX2_plays_188 : decode cX2_plays 188 = .ok (.ireturn, 1) := by decide +kernel
theorem dX2_isInRow_0 : decode cX2_isInRow 0 = .ok (.iload_n 1, 1) := by decide +kernel
theorem dX2_isInRow_1 : decode cX2_isInRow 1 = .ok (.aload_n 0, 1) := by decide +kernel
theorem dX2_isInRow_2 : decode cX2_isInRow 2 = .ok (.getfield 7, 3) := by decide +kernel
theorem dX2_isInRow_5 : decode cX2_isInRow 5 = .ok (.bipush 6, 2) := by decide +kernel
theorem dX2_isInRow_7 : decode cX2_isInRow 7 = .ok (.iaload, 1) := by decide +kernel
theorem dX2_isInRow_8 : decode cX2_isInRow 8 = .ok (.isub, 1) := by decide +kernel
theorem dX2_isInRow_9 : decode cX2_isInRow 9 = .ok (.bipush 10, 2) := by decide +kernel
theorem dX2_isInRow_11 : decode cX2_isInRow 11 = .ok (.iadd, 1) := by decide +kernel
theorem dX2_isInRow_12 : decode cX2_isInRow 12 = .ok (.bipush 10, 2) := by decide +kernel
theorem dX2_isInRow_14 : decode cX2_isInRow 14 = .ok (.irem, 1) := by decide +kernel
theorem dX2_isInRow_15 : decode cX2_isInRow 15 = .ok (.bipush 6, 2) := by decide +kernel
theorem dX2_isInRow_17 : decode cX2_isInRow 17 = .ok (.if_icmp .ge 7, 3) := by decide +kernel
theorem dX2_isInRow_20 : decode cX2_isInRow 20 = .ok (.iconst 1, 1) := by decide +kernel
theorem dX2_isInRow_21 : decode cX2_isInRow 21 = .ok (.goto 4, 3) := by decide +kernel
theorem dX2_isInRow_24 : decode cX2_isInRow 24 = .ok (.iconst 0, 1) := by decide +kernel
theorem dX2_isInRow_25 : decode cX2_isInRow 25 = .ok (.ireturn, 1) := by decide +kernel
theorem dX2_whyNot_0 : decode cX2_whyNot 0 = .ok (.aload_n 0, 1) := by decide +kernel
theorem dX2_whyNot_1 : decode cX2_whyNot 1 = .ok (.getfield 7, 3) := by decide +kernel
theorem dX2_whyNot_4 : decode cX2_whyNot 4 = .ok (.bipush 8, 2) := by decide +kernel
theorem dX2_whyNot_6 : decode cX2_whyNot 6 = .ok (.iaload, 1) := by decide +kernel
theorem dX2_whyNot_7 : decode cX2_whyNot 7 = .ok (.iconst 1, 1) := by decide +kernel
theorem dX2_whyNot_8 : decode cX2_whyNot 8 = .ok (.if_icmp .ne 7, 3) := by decide +kernel
theorem dX2_whyNot_11 : decode cX2_whyNot 11 = .ok (.iconst 1, 1) := by decide +kernel
theorem dX2_whyNot_12 : decode cX2_whyNot 12 = .ok (.goto 62, 3) := by decide +kernel
theorem dX2_whyNot_15 : decode cX2_whyNot 15 = .ok (.aload_n 0, 1) := by decide +kernel
theorem dX2_whyNot_16 : decode cX2_whyNot 16 = .ok (.iload_n 1, 1) := by decide +kernel
theorem dX2_whyNot_17 : decode cX2_whyNot 17 = .ok (.invokevirtual 74, 3) := by decide +kernel
theorem dX2_whyNot_20 : decode cX2_whyNot 20 = .ok (.ifCond .ne 7, 3) := by decide +kernel
theorem dX2_whyNot_23 : decode cX2_whyNot 23 = .ok (.iconst 2, 1) := by decide +kernel
theorem dX2_whyNot_24 : decode cX2_whyNot 24 = .ok (.goto 50, 3) := by decide +kernel
theorem dX2_whyNot_27 : decode cX2_whyNot 27 = .ok (.aload_n 0, 1) := by decide +kernel
theorem dX2_whyNot_28 : decode cX2_whyNot 28 = .ok (.getfield 7, 3) := by decide +kernel
theorem dX2_whyNot_31 : decode cX2_whyNot 31 = .ok (.bipush 10, 2) := by decide +kernel
theorem dX2_whyNot_33 : decode cX2_whyNot 33 = .ok (.iload_n 1, 1) := by decide +kernel
theorem dX2_whyNot_34 : decode cX2_whyNot 34 = .ok (.iadd, 1) := by decide +kernel
theorem dX2_whyNot_35 : decode cX2_whyNot 35 = .ok (.iaload, 1) := by decide +kernel
theorem dX2_whyNot_36 : decode cX2_whyNot 36 = .ok (.ifCond .ne 7, 3) := by decide +kernel
theorem dX2_whyNot_39 : decode cX2_whyNot 39 = .ok (.iconst 3, 1) := by decide +kernel
theorem dX2_whyNot_40 : decode cX2_whyNot 40 = .ok (.goto 34, 3) := by decide +kernel
theorem dX2_whyNot_43 : decode cX2_whyNot 43 = .ok (.aload_n 0, 1) := by decide +kernel
theorem dX2_whyNot_44 : decode cX2_whyNot 44 = .ok (.getfield 7, 3) := by decide +kernel
theorem dX2_whyNot_47 : decode cX2_whyNot 47 = .ok (.iconst 3, 1) := by decide +kernel
theorem dX2_whyNot_48 : decode cX2_whyNot 48 = .ok (.iaload, 1) := by decide +kernel
theorem dX2_whyNot_49 : decode cX2_whyNot 49 = .ok (.ifCond .ne 7, 3) := by decide +kernel
theorem dX2_whyNot_52 : decode cX2_whyNot 52 = .ok (.iconst 4, 1) := by decide +kernel
theorem dX2_whyNot_53 : decode cX2_whyNot 53 = .ok (.goto 21, 3) := by decide +kernel
theorem dX2_whyNot_56 : decode cX2_whyNot 56 = .ok (.aload_n 0, 1) := by decide +kernel
theorem dX2_whyNot_57 : decode cX2_whyNot 57 = .ok (.getfield 7, 3) := by decide +kernel
theorem dX2_whyNot_60 : decode cX2_whyNot 60 = .ok (.iconst 2, 1) := by decide +kernel
theorem dX2_whyNot_61 : decode cX2_whyNot 61 = .ok (.iaload, 1) := by decide +kernel
theorem dX2_whyNot_62 : decode cX2_whyNot 62 = .ok (.iload_n 1, 1) := by decide +kernel
theorem dX2_whyNot_63 : decode cX2_whyNot 63 = .ok (.invokestatic 77, 3) := by decide +kernel
theorem dX2_whyNot_66 : decode cX2_whyNot 66 = .ok (.if_icmp .ge 7, 3) := by decide +kernel
theorem dX2_whyNot_69 : decode cX2_whyNot 69 = .ok (.iconst 5, 1) := by decide +kernel
theorem dX2_whyNot_70 : decode cX2_whyNot 70 = .ok (.goto 4, 3) := by decide +kernel
theorem dX2_whyNot_73 : decode cX2_whyNot 73 = .ok (.iconst 0, 1) := by decide +kernel
theorem dX2_whyNot_74 : decode cX2_whyNot 74 = .ok (.ireturn, 1) := by decide +kernel
theorem dX2_buyFault_0 : decode cX2_buyFault 0 = .ok (.iload_n 1, 1) := by decide +kernel
theorem dX2_buyFault_1 : decode cX2_buyFault 1 = .ok (.iconst 0, 1) := by decide +kernel
theorem dX2_buyFault_2 : decode cX2_buyFault 2 = .ok (.bipush 9, 2) := by decide +kernel
theorem dX2_buyFault_4 : decode cX2_buyFault 4 = .ok (.invokestatic 48, 3) := by decide +kernel
theorem dX2_buyFault_7 : decode cX2_buyFault 7 = .ok (.ifCond .ne 8, 3) := by decide +kernel
theorem dX2_buyFault_10 : decode cX2_buyFault 10 = .ok (.ldc 63, 2) := by decide +kernel
theorem dX2_buyFault_12 : decode cX2_buyFault 12 = .ok (.goto 17, 3) := by decide +kernel
theorem dX2_buyFault_15 : decode cX2_buyFault 15 = .ok (.aload_n 0, 1) := by decide +kernel
theorem dX2_buyFault_16 : decode cX2_buyFault 16 = .ok (.iload_n 1, 1) := by decide +kernel
theorem dX2_buyFault_17 : decode cX2_buyFault 17 = .ok (.invokevirtual 80, 3) := by decide +kernel
theorem dX2_buyFault_20 : decode cX2_buyFault 20 = .ok (.ifCond .le 8, 3) := by decide +kernel
theorem dX2_buyFault_23 : decode cX2_buyFault 23 = .ok (.ldc 67, 2) := by decide +kernel
theorem dX2_buyFault_25 : decode cX2_buyFault 25 = .ok (.goto 4, 3) := by decide +kernel
theorem dX2_buyFault_28 : decode cX2_buyFault 28 = .ok (.iconst 0, 1) := by decide +kernel
theorem dX2_buyFault_29 : decode cX2_buyFault 29 = .ok (.ireturn, 1) := by decide +kernel
theorem dX2_buys_0 : decode cX2_buys 0 = .ok (.aload_n 0, 1) := by decide +kernel
theorem dX2_buys_1 : decode cX2_buys 1 = .ok (.getfield 7, 3) := by decide +kernel
theorem dX2_buys_4 : decode cX2_buys 4 = .ok (.iconst 2, 1) := by decide +kernel
theorem dX2_buys_5 : decode cX2_buys 5 = .ok (.dup2, 1) := by decide +kernel
theorem dX2_buys_6 : decode cX2_buys 6 = .ok (.iaload, 1) := by decide +kernel
theorem dX2_buys_7 : decode cX2_buys 7 = .ok (.iload_n 1, 1) := by decide +kernel
theorem dX2_buys_8 : decode cX2_buys 8 = .ok (.invokestatic 77, 3) := by decide +kernel
theorem dX2_buys_11 : decode cX2_buys 11 = .ok (.isub, 1) := by decide +kernel
theorem dX2_buys_12 : decode cX2_buys 12 = .ok (.iastore, 1) := by decide +kernel
theorem dX2_buys_13 : decode cX2_buys 13 = .ok (.aload_n 0, 1) := by decide +kernel
theorem dX2_buys_14 : decode cX2_buys 14 = .ok (.getfield 7, 3) := by decide +kernel
theorem dX2_buys_17 : decode cX2_buys 17 = .ok (.iconst 3, 1) := by decide +kernel
theorem dX2_buys_18 : decode cX2_buys 18 = .ok (.dup2, 1) := by decide +kernel
theorem dX2_buys_19 : decode cX2_buys 19 = .ok (.iaload, 1) := by decide +kernel
theorem dX2_buys_20 : decode cX2_buys 20 = .ok (.iconst 1, 1) := by decide +kernel
theorem dX2_buys_21 : decode cX2_buys 21 = .ok (.isub, 1) := by decide +kernel
theorem dX2_buys_22 : decode cX2_buys 22 = .ok (.iastore, 1) := by decide +kernel
theorem dX2_buys_23 : decode cX2_buys 23 = .ok (.aload_n 0, 1) := by decide +kernel
theorem dX2_buys_24 : decode cX2_buys 24 = .ok (.getfield 7, 3) := by decide +kernel
theorem dX2_buys_27 : decode cX2_buys 27 = .ok (.bipush 10, 2) := by decide +kernel
theorem dX2_buys_29 : decode cX2_buys 29 = .ok (.iload_n 1, 1) := by decide +kernel
theorem dX2_buys_30 : decode cX2_buys 30 = .ok (.iadd, 1) := by decide +kernel
theorem dX2_buys_31 : decode cX2_buys 31 = .ok (.dup2, 1) := by decide +kernel
theorem dX2_buys_32 : decode cX2_buys 32 = .ok (.iaload, 1) := by decide +kernel
theorem dX2_buys_33 : decode cX2_buys 33 = .ok (.iconst 1, 1) := by decide +kernel
theorem dX2_buys_34 : decode cX2_buys 34 = .ok (.isub, 1) := by decide +kernel
theorem dX2_buys_35 : decode cX2_buys 35 = .ok (.iastore, 1) := by decide +kernel
theorem dX2_buys_36 : decode cX2_buys 36 = .ok (.aload_n 0, 1) := by decide +kernel
theorem dX2_buys_37 : decode cX2_buys 37 = .ok (.aload_n 0, 1) := by decide +kernel
theorem dX2_buys_38 : decode cX2_buys 38 = .ok (.getfield 7, 3) := by decide +kernel
theorem dX2_buys_41 : decode cX2_buys 41 = .ok (.iconst 1, 1) := by decide +kernel
theorem dX2_buys_42 : decode cX2_buys 42 = .ok (.iaload, 1) := by decide +kernel
theorem dX2_buys_43 : decode cX2_buys 43 = .ok (.iconst 3, 1) := by decide +kernel
theorem dX2_buys_44 : decode cX2_buys 44 = .ok (.iload_n 1, 1) := by decide +kernel
theorem dX2_buys_45 : decode cX2_buys 45 = .ok (.invokevirtual 30, 3) := by decide +kernel
theorem dX2_buys_48 : decode cX2_buys 48 = .ok (.aload_n 0, 1) := by decide +kernel
theorem dX2_buys_49 : decode cX2_buys 49 = .ok (.getfield 7, 3) := by decide +kernel
theorem dX2_buys_52 : decode cX2_buys 52 = .ok (.bipush 10, 2) := by decide +kernel
theorem dX2_buys_54 : decode cX2_buys 54 = .ok (.iload_n 1, 1) := by decide +kernel
theorem dX2_buys_55 : decode cX2_buys 55 = .ok (.iadd, 1) := by decide +kernel
theorem dX2_buys_56 : decode cX2_buys 56 = .ok (.iaload, 1) := by decide +kernel
theorem dX2_buys_57 : decode cX2_buys 57 = .ok (.ireturn, 1) := by decide +kernel
theorem dX2_scrapFault_0 : decode cX2_scrapFault 0 = .ok (.aload_n 0, 1) := by decide +kernel
theorem dX2_scrapFault_1 : decode cX2_scrapFault 1 = .ok (.iload_n 1, 1) := by decide +kernel
theorem dX2_scrapFault_2 : decode cX2_scrapFault 2 = .ok (.invokevirtual 59, 3) := by decide +kernel
theorem dX2_scrapFault_5 : decode cX2_scrapFault 5 = .ok (.ifCond .ne 8, 3) := by decide +kernel
theorem dX2_scrapFault_8 : decode cX2_scrapFault 8 = .ok (.ldc 63, 2) := by decide +kernel
theorem dX2_scrapFault_10 : decode cX2_scrapFault 10 = .ok (.goto 29, 3) := by decide +kernel
theorem dX2_scrapFault_13 : decode cX2_scrapFault 13 = .ok (.aload_n 0, 1) := by decide +kernel
theorem dX2_scrapFault_14 : decode cX2_scrapFault 14 = .ok (.getfield 7, 3) := by decide +kernel
theorem dX2_scrapFault_17 : decode cX2_scrapFault 17 = .ok (.iconst 5, 1) := by decide +kernel
theorem dX2_scrapFault_18 : decode cX2_scrapFault 18 = .ok (.iaload, 1) := by decide +kernel
theorem dX2_scrapFault_19 : decode cX2_scrapFault 19 = .ok (.ifCond .eq 14, 3) := by decide +kernel
theorem dX2_scrapFault_22 : decode cX2_scrapFault 22 = .ok (.aload_n 0, 1) := by decide +kernel
theorem dX2_scrapFault_23 : decode cX2_scrapFault 23 = .ok (.getfield 7, 3) := by decide +kernel
theorem dX2_scrapFault_26 : decode cX2_scrapFault 26 = .ok (.bipush 8, 2) := by decide +kernel
theorem dX2_scrapFault_28 : decode cX2_scrapFault 28 = .ok (.iaload, 1) := by decide +kernel
theorem dX2_scrapFault_29 : decode cX2_scrapFault 29 = .ok (.iconst 1, 1) := by decide +kernel
theorem dX2_scrapFault_30 : decode cX2_scrapFault 30 = .ok (.if_icmp .ne 8, 3) := by decide +kernel
theorem dX2_scrapFault_33 : decode cX2_scrapFault 33 = .ok (.ldc 67, 2) := by decide +kernel
theorem dX2_scrapFault_35 : decode cX2_scrapFault 35 = .ok (.goto 4, 3) := by decide +kernel
theorem dX2_scrapFault_38 : decode cX2_scrapFault 38 = .ok (.iconst 0, 1) := by decide +kernel
theorem dX2_scrapFault_39 : decode cX2_scrapFault 39 = .ok (.ireturn, 1) := by decide +kernel
theorem dX2_scraps_0 : decode cX2_scraps 0 = .ok (.aload_n 0, 1) := by decide +kernel
theorem dX2_scraps_1 : decode cX2_scraps 1 = .ok (.aload_n 0, 1) := by decide +kernel
theorem dX2_scraps_2 : decode cX2_scraps 2 = .ok (.getfield 7, 3) := by decide +kernel
theorem dX2_scraps_5 : decode cX2_scraps 5 = .ok (.iconst 1, 1) := by decide +kernel
theorem dX2_scraps_6 : decode cX2_scraps 6 = .ok (.iaload, 1) := by decide +kernel
theorem dX2_scraps_7 : decode cX2_scraps 7 = .ok (.iconst 1, 1) := by decide +kernel
theorem dX2_scraps_8 : decode cX2_scraps 8 = .ok (.iload_n 1, 1) := by decide +kernel
theorem dX2_scraps_9 : decode cX2_scraps 9 = .ok (.invokevirtual 40, 3) := by decide +kernel
theorem dX2_scraps_12 : decode cX2_scraps 12 = .ok (.istore_n 2, 1) := by decide +kernel
theorem dX2_scraps_13 : decode cX2_scraps 13 = .ok (.aload_n 0, 1) := by decide +kernel
theorem dX2_scraps_14 : decode cX2_scraps 14 = .ok (.getfield 7, 3) := by decide +kernel
theorem dX2_scraps_17 : decode cX2_scraps 17 = .ok (.iconst 5, 1) := by decide +kernel
theorem dX2_scraps_18 : decode cX2_scraps 18 = .ok (.dup2, 1) := by decide +kernel
theorem dX2_scraps_19 : decode cX2_scraps 19 = .ok (.iaload, 1) := by decide +kernel
theorem dX2_scraps_20 : decode cX2_scraps 20 = .ok (.iconst 1, 1) := by decide +kernel
theorem dX2_scraps_21 : decode cX2_scraps 21 = .ok (.isub, 1) := by decide +kernel
theorem dX2_scraps_22 : decode cX2_scraps 22 = .ok (.iastore, 1) := by decide +kernel
theorem dX2_scraps_23 : decode cX2_scraps 23 = .ok (.aload_n 0, 1) := by decide +kernel
theorem dX2_scraps_24 : decode cX2_scraps 24 = .ok (.getfield 7, 3) := by decide +kernel
theorem dX2_scraps_27 : decode cX2_scraps 27 = .ok (.bipush 20, 2) := by decide +kernel
theorem dX2_scraps_29 : decode cX2_scraps 29 = .ok (.iload_n 2, 1) := by decide +kernel
theorem dX2_scraps_30 : decode cX2_scraps 30 = .ok (.iadd, 1) := by decide +kernel
theorem dX2_scraps_31 : decode cX2_scraps 31 = .ok (.dup2, 1) := by decide +kernel
theorem dX2_scraps_32 : decode cX2_scraps 32 = .ok (.iaload, 1) := by decide +kernel
theorem dX2_scraps_33 : decode cX2_scraps 33 = .ok (.iconst 1, 1) := by decide +kernel
theorem dX2_scraps_34 : decode cX2_scraps 34 = .ok (.iadd, 1) := by decide +kernel
theorem dX2_scraps_35 : decode cX2_scraps 35 = .ok (.iastore, 1) := by decide +kernel
theorem dX2_scraps_36 : decode cX2_scraps 36 = .ok (.iload_n 2, 1) := by decide +kernel
theorem dX2_scraps_37 : decode cX2_scraps 37 = .ok (.ireturn, 1) := by decide +kernel
theorem dX2_emptyPiles_0 : decode cX2_emptyPiles 0 = .ok (.iconst 0, 1) := by decide +kernel
theorem dX2_emptyPiles_1 : decode cX2_emptyPiles 1 = .ok (.istore_n 1, 1) := by decide +kernel
theorem dX2_emptyPiles_2 : decode cX2_emptyPiles 2 = .ok (.iconst 0, 1) := by decide +kernel
theorem dX2_emptyPiles_3 : decode cX2_emptyPiles 3 = .ok (.istore_n 2, 1) := by decide +kernel
theorem dX2_emptyPiles_4 : decode cX2_emptyPiles 4 = .ok (.iload_n 2, 1) := by decide +kernel
theorem dX2_emptyPiles_5 : decode cX2_emptyPiles 5 = .ok (.bipush 10, 2) := by decide +kernel
theorem dX2_emptyPiles_7 : decode cX2_emptyPiles 7 = .ok (.if_icmp .ge 29, 3) := by decide +kernel
theorem dX2_emptyPiles_10 : decode cX2_emptyPiles 10 = .ok (.iload_n 1, 1) := by decide +kernel
theorem dX2_emptyPiles_11 : decode cX2_emptyPiles 11 = .ok (.aload_n 0, 1) := by decide +kernel
theorem dX2_emptyPiles_12 : decode cX2_emptyPiles 12 = .ok (.getfield 7, 3) := by decide +kernel
theorem dX2_emptyPiles_15 : decode cX2_emptyPiles 15 = .ok (.bipush 10, 2) := by decide +kernel
theorem dX2_emptyPiles_17 : decode cX2_emptyPiles 17 = .ok (.iload_n 2, 1) := by decide +kernel
theorem dX2_emptyPiles_18 : decode cX2_emptyPiles 18 = .ok (.iadd, 1) := by decide +kernel
theorem dX2_emptyPiles_19 : decode cX2_emptyPiles 19 = .ok (.iaload, 1) := by decide +kernel
theorem dX2_emptyPiles_20 : decode cX2_emptyPiles 20 = .ok (.ifCond .ne 7, 3) := by decide +kernel
theorem dX2_emptyPiles_23 : decode cX2_emptyPiles 23 = .ok (.iconst 1, 1) := by decide +kernel
theorem dX2_emptyPiles_24 : decode cX2_emptyPiles 24 = .ok (.goto 4, 3) := by decide +kernel
theorem dX2_emptyPiles_27 : decode cX2_emptyPiles 27 = .ok (.iconst 0, 1) := by decide +kernel
theorem dX2_emptyPiles_28 : decode cX2_emptyPiles 28 = .ok (.iadd, 1) := by decide +kernel
theorem dX2_emptyPiles_29 : decode cX2_emptyPiles 29 = .ok (.istore_n 1, 1) := by decide +kernel
theorem dX2_emptyPiles_30 : decode cX2_emptyPiles 30 = .ok (.iinc 2 1, 3) := by decide +kernel
theorem dX2_emptyPiles_33 : decode cX2_emptyPiles 33 = .ok (.goto (-29), 3) := by decide +kernel
theorem dX2_emptyPiles_36 : decode cX2_emptyPiles 36 = .ok (.iload_n 1, 1) := by decide +kernel
theorem dX2_emptyPiles_37 : decode cX2_emptyPiles 37 = .ok (.ireturn, 1) := by decide +kernel
theorem dX2_ends_0 : decode cX2_ends 0 = .ok (.aload_n 0, 1) := by decide +kernel
theorem dX2_ends_1 : decode cX2_ends 1 = .ok (.getfield 7, 3) := by decide +kernel
theorem dX2_ends_4 : decode cX2_ends 4 = .ok (.iconst 1, 1) := by decide +kernel
theorem dX2_ends_5 : decode cX2_ends 5 = .ok (.iaload, 1) := by decide +kernel
theorem dX2_ends_6 : decode cX2_ends 6 = .ok (.istore_n 1, 1) := by decide +kernel
theorem dX2_ends_7 : decode cX2_ends 7 = .ok (.aload_n 0, 1) := by decide +kernel
theorem dX2_ends_8 : decode cX2_ends 8 = .ok (.iload_n 1, 1) := by decide +kernel
theorem dX2_ends_9 : decode cX2_ends 9 = .ok (.iconst 1, 1) := by decide +kernel
theorem dX2_ends_10 : decode cX2_ends 10 = .ok (.iconst 3, 1) := by decide +kernel
theorem dX2_ends_11 : decode cX2_ends 11 = .ok (.invokevirtual 37, 3) := by decide +kernel
theorem dX2_ends_14 : decode cX2_ends 14 = .ok (.aload_n 0, 1) := by decide +kernel
theorem dX2_ends_15 : decode cX2_ends 15 = .ok (.iload_n 1, 1) := by decide +kernel
theorem dX2_ends_16 : decode cX2_ends 16 = .ok (.iconst 2, 1) := by decide +kernel
theorem dX2_ends_17 : decode cX2_ends 17 = .ok (.iconst 3, 1) := by decide +kernel
theorem dX2_ends_18 : decode cX2_ends 18 = .ok (.invokevirtual 37, 3) := by decide +kernel
theorem dX2_ends_21 : decode cX2_ends 21 = .ok (.aload_n 0, 1) := by decide +kernel
theorem dX2_ends_22 : decode cX2_ends 22 = .ok (.iload_n 1, 1) := by decide +kernel
theorem dX2_ends_23 : decode cX2_ends 23 = .ok (.iconst 5, 1) := by decide +kernel
theorem dX2_ends_24 : decode cX2_ends 24 = .ok (.invokevirtual 55, 3) := by decide +kernel
theorem dX2_ends_27 : decode cX2_ends 27 = .ok (.aload_n 0, 1) := by decide +kernel
theorem dX2_ends_28 : decode cX2_ends 28 = .ok (.getfield 7, 3) := by decide +kernel
theorem dX2_ends_31 : decode cX2_ends 31 = .ok (.bipush 6, 2) := by decide +kernel
theorem dX2_ends_33 : decode cX2_ends 33 = .ok (.aload_n 0, 1) := by decide +kernel
theorem dX2_ends_34 : decode cX2_ends 34 = .ok (.getfield 7, 3) := by decide +kernel
theorem dX2_ends_37 : decode cX2_ends 37 = .ok (.bipush 6, 2) := by decide +kernel
theorem dX2_ends_39 : decode cX2_ends 39 = .ok (.iaload, 1) := by decide +kernel
theorem dX2_ends_40 : decode cX2_ends 40 = .ok (.aload_n 0, 1) := by decide +kernel
theorem dX2_ends_41 : decode cX2_ends 41 = .ok (.getfield 7, 3) := by decide +kernel
theorem dX2_ends_44 : decode cX2_ends 44 = .ok (.bipush 9, 2) := by decide +kernel
theorem dX2_ends_46 : decode cX2_ends 46 = .ok (.iaload, 1) := by decide +kernel
theorem dX2_ends_47 : decode cX2_ends 47 = .ok (.iadd, 1) := by decide +kernel
theorem dX2_ends_48 : decode cX2_ends 48 = .ok (.bipush 10, 2) := by decide +kernel
theorem dX2_ends_50 : decode cX2_ends 50 = .ok (.irem, 1) := by decide +kernel
theorem dX2_ends_51 : decode cX2_ends 51 = .ok (.iastore, 1) := by decide +kernel
theorem dX2_ends_52 : decode cX2_ends 52 = .ok (.aload_n 0, 1) := by decide +kernel
theorem dX2_ends_53 : decode cX2_ends 53 = .ok (.getfield 7, 3) := by decide +kernel
theorem dX2_ends_56 : decode cX2_ends 56 = .ok (.iconst 1, 1) := by decide +kernel
theorem dX2_ends_57 : decode cX2_ends 57 = .ok (.iload_n 1, 1) := by decide +kernel
theorem dX2_ends_58 : decode cX2_ends 58 = .ok (.iconst 1, 1) := by decide +kernel
theorem dX2_ends_59 : decode cX2_ends 59 = .ok (.iadd, 1) := by decide +kernel
theorem dX2_ends_60 : decode cX2_ends 60 = .ok (.aload_n 0, 1) := by decide +kernel
theorem dX2_ends_61 : decode cX2_ends 61 = .ok (.getfield 7, 3) := by decide +kernel
theorem dX2_ends_64 : decode cX2_ends 64 = .ok (.iconst 0, 1) := by decide +kernel
theorem dX2_ends_65 : decode cX2_ends 65 = .ok (.iaload, 1) := by decide +kernel
theorem dX2_ends_66 : decode cX2_ends 66 = .ok (.irem, 1) := by decide +kernel
theorem dX2_ends_67 : decode cX2_ends 67 = .ok (.iastore, 1) := by decide +kernel
theorem dX2_ends_68 : decode cX2_ends 68 = .ok (.aload_n 0, 1) := by decide +kernel
theorem dX2_ends_69 : decode cX2_ends 69 = .ok (.getfield 7, 3) := by decide +kernel
theorem dX2_ends_72 : decode cX2_ends 72 = .ok (.iconst 2, 1) := by decide +kernel
theorem dX2_ends_73 : decode cX2_ends 73 = .ok (.iconst 0, 1) := by decide +kernel
theorem dX2_ends_74 : decode cX2_ends 74 = .ok (.iastore, 1) := by decide +kernel
theorem dX2_ends_75 : decode cX2_ends 75 = .ok (.aload_n 0, 1) := by decide +kernel
theorem dX2_ends_76 : decode cX2_ends 76 = .ok (.getfield 7, 3) := by decide +kernel
theorem dX2_ends_79 : decode cX2_ends 79 = .ok (.iconst 3, 1) := by decide +kernel
theorem dX2_ends_80 : decode cX2_ends 80 = .ok (.iconst 1, 1) := by decide +kernel
theorem dX2_ends_81 : decode cX2_ends 81 = .ok (.iastore, 1) := by decide +kernel
theorem dX2_ends_82 : decode cX2_ends 82 = .ok (.aload_n 0, 1) := by decide +kernel
theorem dX2_ends_83 : decode cX2_ends 83 = .ok (.getfield 7, 3) := by decide +kernel
theorem dX2_ends_86 : decode cX2_ends 86 = .ok (.iconst 4, 1) := by decide +kernel
theorem dX2_ends_87 : decode cX2_ends 87 = .ok (.iconst 1, 1) := by decide +kernel
theorem dX2_ends_88 : decode cX2_ends 88 = .ok (.iastore, 1) := by decide +kernel
theorem dX2_ends_89 : decode cX2_ends 89 = .ok (.aload_n 0, 1) := by decide +kernel
theorem dX2_ends_90 : decode cX2_ends 90 = .ok (.getfield 7, 3) := by decide +kernel
theorem dX2_ends_93 : decode cX2_ends 93 = .ok (.iconst 5, 1) := by decide +kernel
theorem dX2_ends_94 : decode cX2_ends 94 = .ok (.iconst 0, 1) := by decide +kernel
theorem dX2_ends_95 : decode cX2_ends 95 = .ok (.iastore, 1) := by decide +kernel
theorem dX2_ends_96 : decode cX2_ends 96 = .ok (.aload_n 0, 1) := by decide +kernel
theorem dX2_ends_97 : decode cX2_ends 97 = .ok (.getfield 7, 3) := by decide +kernel
theorem dX2_ends_100 : decode cX2_ends 100 = .ok (.bipush 7, 2) := by decide +kernel
theorem dX2_ends_102 : decode cX2_ends 102 = .ok (.dup2, 1) := by decide +kernel
theorem dX2_ends_103 : decode cX2_ends 103 = .ok (.iaload, 1) := by decide +kernel
theorem dX2_ends_104 : decode cX2_ends 104 = .ok (.iconst 1, 1) := by decide +kernel
theorem dX2_ends_105 : decode cX2_ends 105 = .ok (.iadd, 1) := by decide +kernel
theorem dX2_ends_106 : decode cX2_ends 106 = .ok (.iastore, 1) := by decide +kernel
theorem dX2_ends_107 : decode cX2_ends 107 = .ok (.aload_n 0, 1) := by decide +kernel
theorem dX2_ends_108 : decode cX2_ends 108 = .ok (.getfield 7, 3) := by decide +kernel
theorem dX2_ends_111 : decode cX2_ends 111 = .ok (.bipush 8, 2) := by decide +kernel
theorem dX2_ends_113 : decode cX2_ends 113 = .ok (.aload_n 0, 1) := by decide +kernel
theorem dX2_ends_114 : decode cX2_ends 114 = .ok (.getfield 7, 3) := by decide +kernel
theorem dX2_ends_117 : decode cX2_ends 117 = .ok (.bipush 14, 2) := by decide +kernel
theorem dX2_ends_119 : decode cX2_ends 119 = .ok (.iaload, 1) := by decide +kernel
theorem dX2_ends_120 : decode cX2_ends 120 = .ok (.ifCond .eq 11, 3) := by decide +kernel
theorem dX2_ends_123 : decode cX2_ends 123 = .ok (.aload_n 0, 1) := by decide +kernel
theorem dX2_ends_124 : decode cX2_ends 124 = .ok (.invokevirtual 83, 3) := by decide +kernel
theorem dX2_ends_127 : decode cX2_ends 127 = .ok (.iconst 2, 1) := by decide +kernel
theorem dX2_ends_128 : decode cX2_ends 128 = .ok (.if_icmp .le 7, 3) := by decide +kernel
theorem dX2_ends_131 : decode cX2_ends 131 = .ok (.iconst 1, 1) := by decide +kernel
theorem dX2_ends_132 : decode cX2_ends 132 = .ok (.goto 4, 3) := by decide +kernel
theorem dX2_ends_135 : decode cX2_ends 135 = .ok (.iconst 0, 1) := by decide +kernel
theorem dX2_ends_136 : decode cX2_ends 136 = .ok (.iastore, 1) := by decide +kernel
theorem dX2_ends_137 : decode cX2_ends 137 = .ok (.aload_n 0, 1) := by decide +kernel
theorem dX2_ends_138 : decode cX2_ends 138 = .ok (.getfield 7, 3) := by decide +kernel
theorem dX2_ends_141 : decode cX2_ends 141 = .ok (.iconst 1, 1) := by decide +kernel
theorem dX2_ends_142 : decode cX2_ends 142 = .ok (.iaload, 1) := by decide +kernel
theorem dX2_ends_143 : decode cX2_ends 143 = .ok (.ireturn, 1) := by decide +kernel
theorem dX2_firstOf_0 : decode cX2_firstOf 0 = .ok (.iconst 0, 1) := by decide +kernel
theorem dX2_firstOf_1 : decode cX2_firstOf 1 = .ok (.istore_n 2, 1) := by decide +kernel
theorem dX2_firstOf_2 : decode cX2_firstOf 2 = .ok (.iload_n 2, 1) := by decide +kernel
theorem dX2_firstOf_3 : decode cX2_firstOf 3 = .ok (.aload_n 0, 1) := by decide +kernel
theorem dX2_firstOf_4 : decode cX2_firstOf 4 = .ok (.aload_n 0, 1) := by decide +kernel
theorem dX2_firstOf_5 : decode cX2_firstOf 5 = .ok (.getfield 7, 3) := by decide +kernel
theorem dX2_firstOf_8 : decode cX2_firstOf 8 = .ok (.iconst 1, 1) := by decide +kernel
theorem dX2_firstOf_9 : decode cX2_firstOf 9 = .ok (.iaload, 1) := by decide +kernel
theorem dX2_firstOf_10 : decode cX2_firstOf 10 = .ok (.iconst 1, 1) := by decide +kernel
theorem dX2_firstOf_11 : decode cX2_firstOf 11 = .ok (.invokevirtual 34, 3) := by decide +kernel
theorem dX2_firstOf_14 : decode cX2_firstOf 14 = .ok (.if_icmp .ge 36, 3) := by decide +kernel
theorem dX2_firstOf_17 : decode cX2_firstOf 17 = .ok (.iload_n 1, 1) := by decide +kernel
theorem dX2_firstOf_18 : decode cX2_firstOf 18 = .ok (.ifCond .eq 15, 3) := by decide +kernel
theorem dX2_firstOf_21 : decode cX2_firstOf 21 = .ok (.aload_n 0, 1) := by decide +kernel
theorem dX2_firstOf_22 : decode cX2_firstOf 22 = .ok (.iload_n 2, 1) := by decide +kernel
theorem dX2_firstOf_23 : decode cX2_firstOf 23 = .ok (.invokevirtual 64, 3) := by decide +kernel
theorem dX2_firstOf_26 : decode cX2_firstOf 26 = .ok (.iconst 3, 1) := by decide +kernel
theorem dX2_firstOf_27 : decode cX2_firstOf 27 = .ok (.if_icmp .ge 17, 3) := by decide +kernel
theorem dX2_firstOf_30 : decode cX2_firstOf 30 = .ok (.goto 12, 3) := by decide +kernel
theorem dX2_firstOf_33 : decode cX2_firstOf 33 = .ok (.aload_n 0, 1) := by decide +kernel
theorem dX2_firstOf_34 : decode cX2_firstOf 34 = .ok (.iload_n 2, 1) := by decide +kernel
theorem dX2_firstOf_35 : decode cX2_firstOf 35 = .ok (.invokevirtual 64, 3) := by decide +kernel
theorem dX2_firstOf_38 : decode cX2_firstOf 38 = .ok (.iconst 5, 1) := by decide +kernel
theorem dX2_firstOf_39 : decode cX2_firstOf 39 = .ok (.if_icmp .le 5, 3) := by decide +kernel
theorem dX2_firstOf_42 : decode cX2_firstOf 42 = .ok (.iload_n 2, 1) := by decide +kernel
theorem dX2_firstOf_43 : decode cX2_firstOf 43 = .ok (.ireturn, 1) := by decide +kernel
theorem dX2_firstOf_44 : decode cX2_firstOf 44 = .ok (.iinc 2 1, 3) := by decide +kernel
theorem dX2_firstOf_47 : decode cX2_firstOf 47 = .ok (.goto (-45), 3) := by decide +kernel
theorem dX2_firstOf_50 : decode cX2_firstOf 50 = .ok (.iconst (-1), 1) := by decide +kernel
theorem dX2_firstOf_51 : decode cX2_firstOf 51 = .ok (.ireturn, 1) := by decide +kernel
theorem dX2_dearest_0 : decode cX2_dearest 0 = .ok (.iconst (-1), 1) := by decide +kernel
theorem dX2_dearest_1 : decode cX2_dearest 1 = .ok (.istore_n 1, 1) := by decide +kernel
theorem dX2_dearest_2 : decode cX2_dearest 2 = .ok (.iconst 0, 1) := by decide +kernel
theorem dX2_dearest_3 : decode cX2_dearest 3 = .ok (.istore_n 2, 1) := by decide +kernel
theorem dX2_dearest_4 : decode cX2_dearest 4 = .ok (.iload_n 2, 1) := by decide +kernel
theorem dX2_dearest_5 : decode cX2_dearest 5 = .ok (.bipush 10, 2) := by decide +kernel
theorem dX2_dearest_7 : decode cX2_dearest 7 = .ok (.if_icmp .ge 55, 3) := by decide +kernel
theorem dX2_dearest_10 : decode cX2_dearest 10 = .ok (.iload_n 2, 1) := by decide +kernel
theorem dX2_dearest_11 : decode cX2_dearest 11 = .ok (.invokestatic 77, 3) := by decide +kernel
theorem dX2_dearest_14 : decode cX2_dearest 14 = .ok (.ifCond .le 15, 3) := by decide +kernel
theorem dX2_dearest_17 : decode cX2_dearest 17 = .ok (.aload_n 0, 1) := by decide +kernel
theorem dX2_dearest_18 : decode cX2_dearest 18 = .ok (.iload_n 2, 1) := by decide +kernel
theorem dX2_dearest_19 : decode cX2_dearest 19 = .ok (.invokevirtual 80, 3) := by decide +kernel
theorem dX2_dearest_22 : decode cX2_dearest 22 = .ok (.ifCond .ne 7, 3) := by decide +kernel
theorem dX2_dearest_25 : decode cX2_dearest 25 = .ok (.iconst 1, 1) := by decide +kernel
theorem dX2_dearest_26 : decode cX2_dearest 26 = .ok (.goto 4, 3) := by decide +kernel
theorem dX2_dearest_29 : decode cX2_dearest 29 = .ok (.iconst 0, 1) := by decide +kernel
theorem dX2_dearest_30 : decode cX2_dearest 30 = .ok (.istore_n 3, 1) := by decide +kernel
theorem dX2_dearest_31 : decode cX2_dearest 31 = .ok (.iload_n 3, 1) := by decide +kernel
theorem dX2_dearest_32 : decode cX2_dearest 32 = .ok (.ifCond .eq 22, 3) := by decide +kernel
theorem dX2_dearest_35 : decode cX2_dearest 35 = .ok (.iload_n 1, 1) := by decide +kernel
theorem dX2_dearest_36 : decode cX2_dearest 36 = .ok (.ifCond .lt 14, 3) := by decide +kernel
theorem dX2_dearest_39 : decode cX2_dearest 39 = .ok (.iload_n 2, 1) := by decide +kernel
theorem dX2_dearest_40 : decode cX2_dearest 40 = .ok (.invokestatic 77, 3) := by decide +kernel
theorem dX2_dearest_43 : decode cX2_dearest 43 = .ok (.iload_n 1, 1) := by decide +kernel
theorem dX2_dearest_44 : decode cX2_dearest 44 = .ok (.invokestatic 77, 3) := by decide +kernel
theorem dX2_dearest_47 : decode cX2_dearest 47 = .ok (.if_icmp .lt 7, 3) := by decide +kernel
theorem dX2_dearest_50 : decode cX2_dearest 50 = .ok (.iload_n 2, 1) := by decide +kernel
theorem dX2_dearest_51 : decode cX2_dearest 51 = .ok (.goto 4, 3) := by decide +kernel
theorem dX2_dearest_54 : decode cX2_dearest 54 = .ok (.iload_n 1, 1) := by decide +kernel
theorem dX2_dearest_55 : decode cX2_dearest 55 = .ok (.istore_n 1, 1) := by decide +kernel
theorem dX2_dearest_56 : decode cX2_dearest 56 = .ok (.iinc 2 1, 3) := by decide +kernel
theorem dX2_dearest_59 : decode cX2_dearest 59 = .ok (.goto (-55), 3) := by decide +kernel
theorem dX2_dearest_62 : decode cX2_dearest 62 = .ok (.iload_n 1, 1) := by decide +kernel
theorem dX2_dearest_63 : decode cX2_dearest 63 = .ok (.ireturn, 1) := by decide +kernel
theorem dX2_goOn_0 : decode cX2_goOn 0 = .ok (.aload_n 0, 1) := by decide +kernel
theorem dX2_goOn_1 : decode cX2_goOn 1 = .ok (.getfield 7, 3) := by decide +kernel
theorem dX2_goOn_4 : decode cX2_goOn 4 = .ok (.iconst 4, 1) := by decide +kernel
theorem dX2_goOn_5 : decode cX2_goOn 5 = .ok (.iaload, 1) := by decide +kernel
theorem dX2_goOn_6 : decode cX2_goOn 6 = .ok (.ifCond .le 24, 3) := by decide +kernel
theorem dX2_goOn_9 : decode cX2_goOn 9 = .ok (.aload_n 0, 1) := by decide +kernel
theorem dX2_goOn_10 : decode cX2_goOn 10 = .ok (.iconst 0, 1) := by decide +kernel
theorem dX2_goOn_11 : decode cX2_goOn 11 = .ok (.invokevirtual 87, 3) := by decide +kernel
theorem dX2_goOn_14 : decode cX2_goOn 14 = .ok (.ifCond .lt 16, 3) := by decide +kernel
theorem dX2_goOn_17 : decode cX2_goOn 17 = .ok (.aload_n 0, 1) := by decide +kernel
theorem dX2_goOn_18 : decode cX2_goOn 18 = .ok (.aload_n 0, 1) := by decide +kernel
theorem dX2_goOn_19 : decode cX2_goOn 19 = .ok (.iconst 0, 1) := by decide +kernel
theorem dX2_goOn_20 : decode cX2_goOn 20 = .ok (.invokevirtual 87, 3) := by decide +kernel
theorem dX2_goOn_23 : decode cX2_goOn 23 = .ok (.invokevirtual 91, 3) := by decide +kernel
theorem dX2_goOn_26 : decode cX2_goOn 26 = .ok (.istore_n 1, 1) := by decide +kernel
theorem dX2_goOn_27 : decode cX2_goOn 27 = .ok (.goto (-27), 3) := by decide +kernel
theorem dX2_goOn_30 : decode cX2_goOn 30 = .ok (.aload_n 0, 1) := by decide +kernel
theorem dX2_goOn_31 : decode cX2_goOn 31 = .ok (.iconst 1, 1) := by decide +kernel
theorem dX2_goOn_32 : decode cX2_goOn 32 = .ok (.invokevirtual 87, 3) := by decide +kernel
theorem dX2_goOn_35 : decode cX2_goOn 35 = .ok (.ifCond .lt 16, 3) := by decide +kernel
theorem dX2_goOn_38 : decode cX2_goOn 38 = .ok (.aload_n 0, 1) := by decide +kernel
theorem dX2_goOn_39 : decode cX2_goOn 39 = .ok (.aload_n 0, 1) := by decide +kernel
theorem dX2_goOn_40 : decode cX2_goOn 40 = .ok (.iconst 1, 1) := by decide +kernel
theorem dX2_goOn_41 : decode cX2_goOn 41 = .ok (.invokevirtual 87, 3) := by decide +kernel
theorem dX2_goOn_44 : decode cX2_goOn 44 = .ok (.invokevirtual 91, 3) := by decide +kernel
theorem dX2_goOn_47 : decode cX2_goOn 47 = .ok (.istore_n 1, 1) := by decide +kernel
theorem dX2_goOn_48 : decode cX2_goOn 48 = .ok (.goto (-18), 3) := by decide +kernel
theorem dX2_goOn_51 : decode cX2_goOn 51 = .ok (.aload_n 0, 1) := by decide +kernel
theorem dX2_goOn_52 : decode cX2_goOn 52 = .ok (.invokevirtual 94, 3) := by decide +kernel
theorem dX2_goOn_55 : decode cX2_goOn 55 = .ok (.ifCond .lt 15, 3) := by decide +kernel
theorem dX2_goOn_58 : decode cX2_goOn 58 = .ok (.aload_n 0, 1) := by decide +kernel
theorem dX2_goOn_59 : decode cX2_goOn 59 = .ok (.aload_n 0, 1) := by decide +kernel
theorem dX2_goOn_60 : decode cX2_goOn 60 = .ok (.invokevirtual 94, 3) := by decide +kernel
theorem dX2_goOn_63 : decode cX2_goOn 63 = .ok (.invokevirtual 97, 3) := by decide +kernel
theorem dX2_goOn_66 : decode cX2_goOn 66 = .ok (.istore_n 1, 1) := by decide +kernel
theorem dX2_goOn_67 : decode cX2_goOn 67 = .ok (.goto (-16), 3) := by decide +kernel
theorem dX2_goOn_70 : decode cX2_goOn 70 = .ok (.aload_n 0, 1) := by decide +kernel
theorem dX2_goOn_71 : decode cX2_goOn 71 = .ok (.invokevirtual 100, 3) := by decide +kernel
theorem dX2_goOn_74 : decode cX2_goOn 74 = .ok (.istore_n 1, 1) := by decide +kernel
theorem dX2_goOn_75 : decode cX2_goOn 75 = .ok (.return_, 1) := by decide +kernel
theorem dX2_goesOn_0 : decode cX2_goesOn 0 = .ok (.iconst 0, 1) := by decide +kernel
theorem dX2_goesOn_1 : decode cX2_goesOn 1 = .ok (.istore_n 2, 1) := by decide +kernel
theorem dX2_goesOn_2 : decode cX2_goesOn 2 = .ok (.iload_n 2, 1) := by decide +kernel
theorem dX2_goesOn_3 : decode cX2_goesOn 3 = .ok (.iload_n 1, 1) := by decide +kernel
theorem dX2_goesOn_4 : decode cX2_goesOn 4 = .ok (.if_icmp .ge 23, 3) := by decide +kernel
theorem dX2_goesOn_7 : decode cX2_goesOn 7 = .ok (.aload_n 0, 1) := by decide +kernel
theorem dX2_goesOn_8 : decode cX2_goesOn 8 = .ok (.getfield 7, 3) := by decide +kernel
theorem dX2_goesOn_11 : decode cX2_goesOn 11 = .ok (.bipush 8, 2) := by decide +kernel
theorem dX2_goesOn_13 : decode cX2_goesOn 13 = .ok (.iaload, 1) := by decide +kernel
theorem dX2_goesOn_14 : decode cX2_goesOn 14 = .ok (.ifCond .ne 13, 3) := by decide +kernel
theorem dX2_goesOn_17 : decode cX2_goesOn 17 = .ok (.aload_n 0, 1) := by decide +kernel
theorem dX2_goesOn_18 : decode cX2_goesOn 18 = .ok (.invokevirtual 103, 3) := by decide +kernel
theorem dX2_goesOn_21 : decode cX2_goesOn 21 = .ok (.iinc 2 1, 3) := by decide +kernel
theorem dX2_goesOn_24 : decode cX2_goesOn 24 = .ok (.goto (-22), 3) := by decide +kernel
theorem dX2_goesOn_27 : decode cX2_goesOn 27 = .ok (.iload_n 2, 1) := by decide +kernel
theorem dX2_goesOn_28 : decode cX2_goesOn 28 = .ok (.ireturn, 1) := by decide +kernel
theorem dX2_begin_0 : decode cX2_begin 0 = .ok (.iload_n 1, 1) := by decide +kernel
theorem dX2_begin_1 : decode cX2_begin 1 = .ok (.iconst 2, 1) := by decide +kernel
theorem dX2_begin_2 : decode cX2_begin 2 = .ok (.iconst 4, 1) := by decide +kernel
theorem dX2_begin_3 : decode cX2_begin 3 = .ok (.invokestatic 48, 3) := by decide +kernel
theorem dX2_begin_6 : decode cX2_begin 6 = .ok (.ifCond .ne 6, 3) := by decide +kernel
theorem dX2_begin_9 : decode cX2_begin 9 = .ok (.ldc 63, 2) := by decide +kernel
theorem dX2_begin_11 : decode cX2_begin 11 = .ok (.ireturn, 1) := by decide +kernel
theorem dX2_begin_12 : decode cX2_begin 12 = .ok (.aload_n 0, 1) := by decide +kernel
theorem dX2_begin_13 : decode cX2_begin 13 = .ok (.invokevirtual 106, 3) := by decide +kernel
theorem dX2_begin_16 : decode cX2_begin 16 = .ok (.aload_n 0, 1) := by decide +kernel
theorem dX2_begin_17 : decode cX2_begin 17 = .ok (.iload_n 1, 1) := by decide +kernel
theorem dX2_begin_18 : decode cX2_begin 18 = .ok (.invokevirtual 22, 3) := by decide +kernel
theorem dX2_begin_21 : decode cX2_begin 21 = .ok (.ireturn, 1) := by decide +kernel
theorem dX2_play_0 : decode cX2_play 0 = .ok (.aload_n 0, 1) := by decide +kernel
theorem dX2_play_1 : decode cX2_play 1 = .ok (.iload_n 1, 1) := by decide +kernel
theorem dX2_play_2 : decode cX2_play 2 = .ok (.invokevirtual 109, 3) := by decide +kernel
theorem dX2_play_5 : decode cX2_play 5 = .ok (.istore_n 2, 1) := by decide +kernel
theorem dX2_play_6 : decode cX2_play 6 = .ok (.iload_n 2, 1) := by decide +kernel
theorem dX2_play_7 : decode cX2_play 7 = .ok (.ifCond .ge 5, 3) := by decide +kernel
theorem dX2_play_10 : decode cX2_play 10 = .ok (.iload_n 2, 1) := by decide +kernel
theorem dX2_play_11 : decode cX2_play 11 = .ok (.ireturn, 1) := by decide +kernel
theorem dX2_play_12 : decode cX2_play 12 = .ok (.aload_n 0, 1) := by decide +kernel
theorem dX2_play_13 : decode cX2_play 13 = .ok (.invokevirtual 106, 3) := by decide +kernel
theorem dX2_play_16 : decode cX2_play 16 = .ok (.aload_n 0, 1) := by decide +kernel
theorem dX2_play_17 : decode cX2_play 17 = .ok (.iload_n 1, 1) := by decide +kernel
theorem dX2_play_18 : decode cX2_play 18 = .ok (.invokevirtual 91, 3) := by decide +kernel
theorem dX2_play_21 : decode cX2_play 21 = .ok (.ireturn, 1) := by decide +kernel
theorem dX2_buy_0 : decode cX2_buy 0 = .ok (.aload_n 0, 1) := by decide +kernel
theorem dX2_buy_1 : decode cX2_buy 1 = .ok (.iload_n 1, 1) := by decide +kernel
theorem dX2_buy_2 : decode cX2_buy 2 = .ok (.invokevirtual 112, 3) := by decide +kernel
theorem dX2_buy_5 : decode cX2_buy 5 = .ok (.istore_n 2, 1) := by decide +kernel
theorem dX2_buy_6 : decode cX2_buy 6 = .ok (.iload_n 2, 1) := by decide +kernel
theorem dX2_buy_7 : decode cX2_buy 7 = .ok (.ifCond .ge 5, 3) := by decide +kernel
theorem dX2_buy_10 : decode cX2_buy 10 = .ok (.iload_n 2, 1) := by decide +kernel
theorem dX2_buy_11 : decode cX2_buy 11 = .ok (.ireturn, 1) := by decide +kernel
theorem dX2_buy_12 : decode cX2_buy 12 = .ok (.aload_n 0, 1) := by decide +kernel
theorem dX2_buy_13 : decode cX2_buy 13 = .ok (.invokevirtual 106, 3) := by decide +kernel
theorem dX2_buy_16 : decode cX2_buy 16 = .ok (.aload_n 0, 1) := by decide +kernel
theorem dX2_buy_17 : decode cX2_buy 17 = .ok (.iload_n 1, 1) := by decide +kernel
theorem dX2_buy_18 : decode cX2_buy 18 = .ok (.invokevirtual 97, 3) := by decide +kernel
theorem dX2_buy_21 : decode cX2_buy 21 = .ok (.ireturn, 1) := by decide +kernel
theorem dX2_scrap_0 : decode cX2_scrap 0 = .ok (.aload_n 0, 1) := by decide +kernel
theorem dX2_scrap_1 : decode cX2_scrap 1 = .ok (.iload_n 1, 1) := by decide +kernel
theorem dX2_scrap_2 : decode cX2_scrap 2 = .ok (.invokevirtual 115, 3) := by decide +kernel
theorem dX2_scrap_5 : decode cX2_scrap 5 = .ok (.istore_n 2, 1) := by decide +kernel
theorem dX2_scrap_6 : decode cX2_scrap 6 = .ok (.iload_n 2, 1) := by decide +kernel
theorem dX2_scrap_7 : decode cX2_scrap 7 = .ok (.ifCond .ge 5, 3) := by decide +kernel
theorem dX2_scrap_10 : decode cX2_scrap 10 = .ok (.iload_n 2, 1) := by decide +kernel
theorem dX2_scrap_11 : decode cX2_scrap 11 = .ok (.ireturn, 1) := by decide +kernel
theorem dX2_scrap_12 : decode cX2_scrap 12 = .ok (.aload_n 0, 1) := by decide +kernel
theorem dX2_scrap_13 : decode cX2_scrap 13 = .ok (.invokevirtual 106, 3) := by decide +kernel
theorem dX2_scrap_16 : decode cX2_scrap 16 = .ok (.aload_n 0, 1) := by decide +kernel
theorem dX2_scrap_17 : decode cX2_scrap 17 = .ok (.iload_n 1, 1) := by decide +kernel
theorem dX2_scrap_18 : decode cX2_scrap 18 = .ok (.invokevirtual 118, 3) := by decide +kernel
theorem dX2_scrap_21 : decode cX2_scrap 21 = .ok (.ireturn, 1) := by decide +kernel
theorem dX2_end_0 : decode cX2_end 0 = .ok (.aload_n 0, 1) := by decide +kernel
theorem dX2_end_1 : decode cX2_end 1 = .ok (.getfield 7, 3) := by decide +kernel
theorem dX2_end_4 : decode cX2_end 4 = .ok (.bipush 8, 2) := by decide +kernel
theorem dX2_end_6 : decode cX2_end 6 = .ok (.iaload, 1) := by decide +kernel
theorem dX2_end_7 : decode cX2_end 7 = .ok (.iconst 1, 1) := by decide +kernel
theorem dX2_end_8 : decode cX2_end 8 = .ok (.if_icmp .ne 6, 3) := by decide +kernel
theorem dX2_end_11 : decode cX2_end 11 = .ok (.ldc 67, 2) := by decide +kernel
theorem dX2_end_13 : decode cX2_end 13 = .ok (.ireturn, 1) := by decide +kernel
theorem dX2_end_14 : decode cX2_end 14 = .ok (.aload_n 0, 1) := by decide +kernel
theorem dX2_end_15 : decode cX2_end 15 = .ok (.invokevirtual 106, 3) := by decide +kernel
theorem dX2_end_18 : decode cX2_end 18 = .ok (.aload_n 0, 1) := by decide +kernel
theorem dX2_end_19 : decode cX2_end 19 = .ok (.invokevirtual 100, 3) := by decide +kernel
theorem dX2_end_22 : decode cX2_end 22 = .ok (.ireturn, 1) := by decide +kernel
theorem dX2_alike_0 : decode cX2_alike 0 = .ok (.iload_n 1, 1) := by decide +kernel
theorem dX2_alike_1 : decode cX2_alike 1 = .ok (.iconst 1, 1) := by decide +kernel
theorem dX2_alike_2 : decode cX2_alike 2 = .ok (.bipush 20, 2) := by decide +kernel
theorem dX2_alike_4 : decode cX2_alike 4 = .ok (.invokestatic 48, 3) := by decide +kernel
theorem dX2_alike_7 : decode cX2_alike 7 = .ok (.ifCond .ne 6, 3) := by decide +kernel
theorem dX2_alike_10 : decode cX2_alike 10 = .ok (.ldc 63, 2) := by decide +kernel
theorem dX2_alike_12 : decode cX2_alike 12 = .ok (.ireturn, 1) := by decide +kernel
theorem dX2_alike_13 : decode cX2_alike 13 = .ok (.aload_n 0, 1) := by decide +kernel
theorem dX2_alike_14 : decode cX2_alike 14 = .ok (.getfield 7, 3) := by decide +kernel
theorem dX2_alike_17 : decode cX2_alike 17 = .ok (.bipush 8, 2) := by decide +kernel
theorem dX2_alike_19 : decode cX2_alike 19 = .ok (.iaload, 1) := by decide +kernel
theorem dX2_alike_20 : decode cX2_alike 20 = .ok (.iconst 1, 1) := by decide +kernel
theorem dX2_alike_21 : decode cX2_alike 21 = .ok (.if_icmp .ne 6, 3) := by decide +kernel
theorem dX2_alike_24 : decode cX2_alike 24 = .ok (.ldc 67, 2) := by decide +kernel
theorem dX2_alike_26 : decode cX2_alike 26 = .ok (.ireturn, 1) := by decide +kernel
theorem dX2_alike_27 : decode cX2_alike 27 = .ok (.aload_n 0, 1) := by decide +kernel
theorem dX2_alike_28 : decode cX2_alike 28 = .ok (.invokevirtual 106, 3) := by decide +kernel
theorem dX2_alike_31 : decode cX2_alike 31 = .ok (.aload_n 0, 1) := by decide +kernel
theorem dX2_alike_32 : decode cX2_alike 32 = .ok (.iload_n 1, 1) := by decide +kernel
theorem dX2_alike_33 : decode cX2_alike 33 = .ok (.invokevirtual 121, 3) := by decide +kernel
theorem dX2_alike_36 : decode cX2_alike 36 = .ok (.ireturn, 1) := by decide +kernel
theorem dX2_set_0 : decode cX2_set 0 = .ok (.iload_n 1, 1) := by decide +kernel
theorem dX2_set_1 : decode cX2_set 1 = .ok (.ifCond .ne 13, 3) := by decide +kernel
theorem dX2_set_4 : decode cX2_set 4 = .ok (.iload_n 2, 1) := by decide +kernel
theorem dX2_set_5 : decode cX2_set 5 = .ok (.iconst 0, 1) := by decide +kernel
theorem dX2_set_6 : decode cX2_set 6 = .ok (.bipush 9, 2) := by decide +kernel
theorem dX2_set_8 : decode cX2_set 8 = .ok (.invokestatic 48, 3) := by decide +kernel
theorem dX2_set_11 : decode cX2_set 11 = .ok (.ifCond .ne 6, 3) := by decide +kernel
theorem dX2_set_14 : decode cX2_set 14 = .ok (.ldc 63, 2) := by decide +kernel
theorem dX2_set_16 : decode cX2_set 16 = .ok (.ireturn, 1) := by decide +kernel
theorem dX2_set_17 : decode cX2_set 17 = .ok (.aload_n 0, 1) := by decide +kernel
theorem dX2_set_18 : decode cX2_set 18 = .ok (.invokevirtual 106, 3) := by decide +kernel
theorem dX2_set_21 : decode cX2_set 21 = .ok (.aload_n 0, 1) := by decide +kernel
theorem dX2_set_22 : decode cX2_set 22 = .ok (.getfield 7, 3) := by decide +kernel
theorem dX2_set_25 : decode cX2_set 25 = .ok (.bipush 9, 2) := by decide +kernel
theorem dX2_set_27 : decode cX2_set 27 = .ok (.iaload, 1) := by decide +kernel
theorem dX2_set_28 : decode cX2_set 28 = .ok (.istore_n 3, 1) := by decide +kernel
theorem dX2_set_29 : decode cX2_set 29 = .ok (.aload_n 0, 1) := by decide +kernel
theorem dX2_set_30 : decode cX2_set 30 = .ok (.getfield 7, 3) := by decide +kernel
theorem dX2_set_33 : decode cX2_set 33 = .ok (.bipush 9, 2) := by decide +kernel
theorem dX2_set_35 : decode cX2_set 35 = .ok (.iload_n 2, 1) := by decide +kernel
theorem dX2_set_36 : decode cX2_set 36 = .ok (.iastore, 1) := by decide +kernel
theorem dX2_set_37 : decode cX2_set 37 = .ok (.iload_n 3, 1) := by decide +kernel
theorem dX2_set_38 : decode cX2_set 38 = .ok (.ireturn, 1) := by decide +kernel
theorem dX2_isPlayer_0 : decode cX2_isPlayer 0 = .ok (.iload_n 1, 1) := by decide +kernel
theorem dX2_isPlayer_1 : decode cX2_isPlayer 1 = .ok (.iconst 0, 1) := by decide +kernel
theorem dX2_isPlayer_2 : decode cX2_isPlayer 2 = .ok (.aload_n 0, 1) := by decide +kernel
theorem dX2_isPlayer_3 : decode cX2_isPlayer 3 = .ok (.getfield 7, 3) := by decide +kernel
theorem dX2_isPlayer_6 : decode cX2_isPlayer 6 = .ok (.iconst 0, 1) := by decide +kernel
theorem dX2_isPlayer_7 : decode cX2_isPlayer 7 = .ok (.iaload, 1) := by decide +kernel
theorem dX2_isPlayer_8 : decode cX2_isPlayer 8 = .ok (.iconst 1, 1) := by decide +kernel
theorem dX2_isPlayer_9 : decode cX2_isPlayer 9 = .ok (.isub, 1) := by decide +kernel
theorem dX2_isPlayer_10 : decode cX2_isPlayer 10 = .ok (.invokestatic 48, 3) := by decide +kernel
theorem dX2_isPlayer_13 : decode cX2_isPlayer 13 = .ok (.ireturn, 1) := by decide +kernel
theorem dX2_card_0 : decode cX2_card 0 = .ok (.aload_n 0, 1) := by decide +kernel
theorem dX2_card_1 : decode cX2_card 1 = .ok (.iload_n 1, 1) := by decide +kernel
theorem dX2_card_2 : decode cX2_card 2 = .ok (.invokevirtual 124, 3) := by decide +kernel
theorem dX2_card_5 : decode cX2_card 5 = .ok (.ifCond .eq 16, 3) := by decide +kernel
theorem dX2_card_8 : decode cX2_card 8 = .ok (.iload_n 2, 1) := by decide +kernel
theorem dX2_card_9 : decode cX2_card 9 = .ok (.iconst 0, 1) := by decide +kernel
theorem dX2_card_10 : decode cX2_card 10 = .ok (.iconst 3, 1) := by decide +kernel
theorem dX2_card_11 : decode cX2_card 11 = .ok (.invokestatic 48, 3) := by decide +kernel
theorem dX2_card_14 : decode cX2_card 14 = .ok (.ifCond .eq 7, 3) := by decide +kernel
theorem dX2_card_17 : decode cX2_card 17 = .ok (.iload_n 3, 1) := by decide +kernel
theorem dX2_card_18 : decode cX2_card 18 = .ok (.ifCond .ge 6, 3) := by decide +kernel
theorem dX2_card_21 : decode cX2_card 21 = .ok (.ldc 63, 2) := by decide +kernel
theorem dX2_card_23 : decode cX2_card 23 = .ok (.ireturn, 1) := by decide +kernel
theorem dX2_card_24 : decode cX2_card 24 = .ok (.iload_n 3, 1) := by decide +kernel
theorem dX2_card_25 : decode cX2_card 25 = .ok (.aload_n 0, 1) := by decide +kernel
theorem dX2_card_26 : decode cX2_card 26 = .ok (.iload_n 1, 1) := by decide +kernel
theorem dX2_card_27 : decode cX2_card 27 = .ok (.iload_n 2, 1) := by decide +kernel
theorem dX2_card_28 : decode cX2_card 28 = .ok (.invokevirtual 34, 3) := by decide +kernel
theorem dX2_card_31 : decode cX2_card 31 = .ok (.if_icmp .ge 20, 3) := by decide +kernel
theorem dX2_card_34 : decode cX2_card 34 = .ok (.aload_n 0, 1) := by decide +kernel
theorem dX2_card_35 : decode cX2_card 35 = .ok (.getfield 7, 3) := by decide +kernel
theorem dX2_card_38 : decode cX2_card 38 = .ok (.iload_n 1, 1) := by decide +kernel
theorem dX2_card_39 : decode cX2_card 39 = .ok (.iload_n 2, 1) := by decide +kernel
theorem dX2_card_40 : decode cX2_card 40 = .ok (.invokestatic 26, 3) := by decide +kernel
theorem dX2_card_43 : decode cX2_card 43 = .ok (.iconst 1, 1) := by decide +kernel
theorem dX2_card_44 : decode cX2_card 44 = .ok (.iadd, 1) := by decide +kernel
theorem dX2_card_45 : decode cX2_card 45 = .ok (.iload_n 3, 1) := by decide +kernel
theorem dX2_card_46 : decode cX2_card 46 = .ok (.iadd, 1) := by decide +kernel
theorem dX2_card_47 : decode cX2_card 47 = .ok (.iaload, 1) := by decide +kernel
theorem dX2_card_48 : decode cX2_card 48 = .ok (.goto 5, 3) := by decide +kernel
theorem dX2_card_51 : decode cX2_card 51 = .ok (.ldc 127, 2) := by decide +kernel
theorem dX2_card_53 : decode cX2_card 53 = .ok (.ireturn, 1) := by decide +kernel
theorem dX2_cardsOf_0 : decode cX2_cardsOf 0 = .ok (.iconst 0, 1) := by decide +kernel
theorem dX2_cardsOf_1 : decode cX2_cardsOf 1 = .ok (.istore 5, 2) := by decide +kernel
theorem dX2_cardsOf_3 : decode cX2_cardsOf 3 = .ok (.iload_n 2, 1) := by decide +kernel
theorem dX2_cardsOf_4 : decode cX2_cardsOf 4 = .ok (.istore 6, 2) := by decide +kernel
theorem dX2_cardsOf_6 : decode cX2_cardsOf 6 = .ok (.iload 6, 2) := by decide +kernel
theorem dX2_cardsOf_8 : decode cX2_cardsOf 8 = .ok (.iload_n 3, 1) := by decide +kernel
theorem dX2_cardsOf_9 : decode cX2_cardsOf 9 = .ok (.if_icmp .gt 66, 3) := by decide +kernel
theorem dX2_cardsOf_12 : decode cX2_cardsOf 12 = .ok (.iconst 1, 1) := by decide +kernel
theorem dX2_cardsOf_13 : decode cX2_cardsOf 13 = .ok (.istore 7, 2) := by decide +kernel
theorem dX2_cardsOf_15 : decode cX2_cardsOf 15 = .ok (.iload 7, 2) := by decide +kernel
theorem dX2_cardsOf_17 : decode cX2_cardsOf 17 = .ok (.aload_n 0, 1) := by decide +kernel
theorem dX2_cardsOf_18 : decode cX2_cardsOf 18 = .ok (.iload_n 1, 1) := by decide +kernel
theorem dX2_cardsOf_19 : decode cX2_cardsOf 19 = .ok (.iload 6, 2) := by decide +kernel
theorem dX2_cardsOf_21 : decode cX2_cardsOf 21 = .ok (.invokevirtual 34, 3) := by decide +kernel
theorem dX2_cardsOf_24 : decode cX2_cardsOf 24 = .ok (.if_icmp .gt 45, 3) := by decide +kernel
theorem dX2_cardsOf_27 : decode cX2_cardsOf 27 = .ok (.iload 5, 2) := by decide +kernel
theorem dX2_cardsOf_29 : decode cX2_cardsOf 29 = .ok (.iload 4, 2) := by decide +kernel
theorem dX2_cardsOf_31 : decode cX2_cardsOf 31 = .ok (.bipush 10, 2) := by decide +kernel
theorem dX2_cardsOf_33 : decode cX2_cardsOf 33 = .ok (.if_icmp .eq 22, 3) := by decide +kernel
theorem dX2_cardsOf_36 : decode cX2_cardsOf 36 = .ok (.aload_n 0, 1) := by decide +kernel
theorem dX2_cardsOf_37 : decode cX2_cardsOf 37 = .ok (.getfield 7, 3) := by decide +kernel
theorem dX2_cardsOf_40 : decode cX2_cardsOf 40 = .ok (.iload_n 1, 1) := by decide +kernel
theorem dX2_cardsOf_41 : decode cX2_cardsOf 41 = .ok (.iload 6, 2) := by decide +kernel
theorem dX2_cardsOf_43 : decode cX2_cardsOf 43 = .ok (.invokestatic 26, 3) := by decide +kernel
theorem dX2_cardsOf_46 : decode cX2_cardsOf 46 = .ok (.iload 7, 2) := by decide +kernel
theorem dX2_cardsOf_48 : decode cX2_cardsOf 48 = .ok (.iadd, 1) := by decide +kernel
theorem dX2_cardsOf_49 : decode cX2_cardsOf 49 = .ok (.iaload, 1) := by decide +kernel
theorem dX2_cardsOf_50 : decode cX2_cardsOf 50 = .ok (.iload 4, 2) := by decide +kernel
theorem dX2_cardsOf_52 : decode cX2_cardsOf 52 = .ok (.if_icmp .ne 7, 3) := by decide +kernel
theorem dX2_cardsOf_55 : decode cX2_cardsOf 55 = .ok (.iconst 1, 1) := by decide +kernel
theorem dX2_cardsOf_56 : decode cX2_cardsOf 56 = .ok (.goto 4, 3) := by decide +kernel
theorem dX2_cardsOf_59 : decode cX2_cardsOf 59 = .ok (.iconst 0, 1) := by decide +kernel
theorem dX2_cardsOf_60 : decode cX2_cardsOf 60 = .ok (.iadd, 1) := by decide +kernel
theorem dX2_cardsOf_61 : decode cX2_cardsOf 61 = .ok (.istore 5, 2) := by decide +kernel
theorem dX2_cardsOf_63 : decode cX2_cardsOf 63 = .ok (.iinc 7 1, 3) := by decide +kernel
theorem dX2_cardsOf_66 : decode cX2_cardsOf 66 = .ok (.goto (-51), 3) := by decide +kernel
theorem dX2_cardsOf_69 : decode cX2_cardsOf 69 = .ok (.iinc 6 1, 3) := by decide +kernel
theorem dX2_cardsOf_72 : decode cX2_cardsOf 72 = .ok (.goto (-66), 3) := by decide +kernel
theorem dX2_cardsOf_75 : decode cX2_cardsOf 75 = .ok (.iload 5, 2) := by decide +kernel
theorem dX2_cardsOf_77 : decode cX2_cardsOf 77 = .ok (.ireturn, 1) := by decide +kernel
theorem dX2_many_0 : decode cX2_many 0 = .ok (.aload_n 0, 1) := by decide +kernel
theorem dX2_many_1 : decode cX2_many 1 = .ok (.iload_n 1, 1) := by decide +kernel
theorem dX2_many_2 : decode cX2_many 2 = .ok (.invokevirtual 124, 3) := by decide +kernel
theorem dX2_many_5 : decode cX2_many 5 = .ok (.ifCond .eq 22, 3) := by decide +kernel
theorem dX2_many_8 : decode cX2_many 8 = .ok (.iload_n 2, 1) := by decide +kernel
theorem dX2_many_9 : decode cX2_many 9 = .ok (.iconst 0, 1) := by decide +kernel
theorem dX2_many_10 : decode cX2_many 10 = .ok (.iconst 4, 1) := by decide +kernel
theorem dX2_many_11 : decode cX2_many 11 = .ok (.invokestatic 48, 3) := by decide +kernel
theorem dX2_many_14 : decode cX2_many 14 = .ok (.ifCond .eq 13, 3) := by decide +kernel
theorem dX2_many_17 : decode cX2_many 17 = .ok (.iload_n 3, 1) := by decide +kernel
theorem dX2_many_18 : decode cX2_many 18 = .ok (.iconst 0, 1) := by decide +kernel
theorem dX2_many_19 : decode cX2_many 19 = .ok (.bipush 10, 2) := by decide +kernel
theorem dX2_many_21 : decode cX2_many 21 = .ok (.invokestatic 48, 3) := by decide +kernel
theorem dX2_many_24 : decode cX2_many 24 = .ok (.ifCond .ne 6, 3) := by decide +kernel
theorem dX2_many_27 : decode cX2_many 27 = .ok (.ldc 63, 2) := by decide +kernel
theorem dX2_many_29 : decode cX2_many 29 = .ok (.ireturn, 1) := by decide +kernel
theorem dX2_many_30 : decode cX2_many 30 = .ok (.aload_n 0, 1) := by decide +kernel
theorem dX2_many_31 : decode cX2_many 31 = .ok (.iload_n 1, 1) := by decide +kernel
theorem dX2_many_32 : decode cX2_many 32 = .ok (.iload_n 2, 1) := by decide +kernel
theorem dX2_many_33 : decode cX2_many 33 = .ok (.iconst 4, 1) := by decide +kernel
theorem dX2_many_34 : decode cX2_many 34 = .ok (.if_icmp .ne 7, 3) := by decide +kernel
theorem dX2_many_37 : decode cX2_many 37 = .ok (.iconst 0, 1) := by decide +kernel
theorem dX2_many_38 : decode cX2_many 38 = .ok (.goto 4, 3) := by decide +kernel
theorem dX2_many_41 : decode cX2_many 41 = .ok (.iload_n 2, 1) := by decide +kernel
theorem dX2_many_42 : decode cX2_many 42 = .ok (.iload_n 2, 1) := by decide +kernel
theorem dX2_many_43 : decode cX2_many 43 = .ok (.iconst 4, 1) := by decide +kernel
theorem dX2_many_44 : decode cX2_many 44 = .ok (.if_icmp .ne 7, 3) := by decide +kernel
theorem dX2_many_47 : decode cX2_many 47 = .ok (.iconst 3, 1) := by decide +kernel
theorem dX2_many_48 : decode cX2_many 48 = .ok (.goto 4, 3) := by decide +kernel
theorem dX2_many_51 : decode cX2_many 51 = .ok (.iload_n 2, 1) := by decide +kernel
theorem dX2_many_52 : decode cX2_many 52 = .ok (.iload_n 3, 1) := by decide +kernel
theorem dX2_many_53 : decode cX2_many 53 = .ok (.invokevirtual 128, 3) := by decide +kernel
theorem dX2_many_56 : decode cX2_many 56 = .ok (.ireturn, 1) := by decide +kernel
theorem dX2_pointsBy_0 : decode cX2_pointsBy 0 = .ok (.bipush 100, 2) := by decide +kernel
theorem dX2_pointsBy_2 : decode cX2_pointsBy 2 = .ok (.istore_n 2, 1) := by decide +kernel
theorem dX2_pointsBy_3 : decode cX2_pointsBy 3 = .ok (.iconst 3, 1) := by decide +kernel
theorem dX2_pointsBy_4 : decode cX2_pointsBy 4 = .ok (.istore_n 3, 1) := by decide +kernel
theorem dX2_pointsBy_5 : decode cX2_pointsBy 5 = .ok (.iload_n 3, 1) := by decide +kernel
theorem dX2_pointsBy_6 : decode cX2_pointsBy 6 = .ok (.bipush 6, 2) := by decide +kernel
theorem dX2_pointsBy_8 : decode cX2_pointsBy 8 = .ok (.if_icmp .ge 25, 3) := by decide +kernel
theorem dX2_pointsBy_11 : decode cX2_pointsBy 11 = .ok (.iload_n 2, 1) := by decide +kernel
theorem dX2_pointsBy_12 : decode cX2_pointsBy 12 = .ok (.iload_n 3, 1) := by decide +kernel
theorem dX2_pointsBy_13 : decode cX2_pointsBy 13 = .ok (.invokestatic 132, 3) := by decide +kernel
theorem dX2_pointsBy_16 : decode cX2_pointsBy 16 = .ok (.aload_n 0, 1) := by decide +kernel
theorem dX2_pointsBy_17 : decode cX2_pointsBy 17 = .ok (.iload_n 1, 1) := by decide +kernel
theorem dX2_pointsBy_18 : decode cX2_pointsBy 18 = .ok (.iconst 0, 1) := by decide +kernel
theorem dX2_pointsBy_19 : decode cX2_pointsBy 19 = .ok (.iconst 3, 1) := by decide +kernel
theorem dX2_pointsBy_20 : decode cX2_pointsBy 20 = .ok (.iload_n 3, 1) := by decide +kernel
theorem dX2_pointsBy_21 : decode cX2_pointsBy 21 = .ok (.invokevirtual 128, 3) := by decide +kernel
theorem dX2_pointsBy_24 : decode cX2_pointsBy 24 = .ok (.imul, 1) := by decide +kernel
theorem dX2_pointsBy_25 : decode cX2_pointsBy 25 = .ok (.iadd, 1) := by decide +kernel
theorem dX2_pointsBy_26 : decode cX2_pointsBy 26 = .ok (.istore_n 2, 1) := by decide +kernel
theorem dX2_pointsBy_27 : decode cX2_pointsBy 27 = .ok (.iinc 3 1, 3) := by decide +kernel
theorem dX2_pointsBy_30 : decode cX2_pointsBy 30 = .ok (.goto (-25), 3) := by decide +kernel
theorem dX2_pointsBy_33 : decode cX2_pointsBy 33 = .ok (.iload_n 2, 1) := by decide +kernel
theorem dX2_pointsBy_34 : decode cX2_pointsBy 34 = .ok (.ireturn, 1) := by decide +kernel
theorem dX2_points_0 : decode cX2_points 0 = .ok (.aload_n 0, 1) := by decide +kernel
theorem dX2_points_1 : decode cX2_points 1 = .ok (.iload_n 1, 1) := by decide +kernel
theorem dX2_points_2 : decode cX2_points 2 = .ok (.invokevirtual 124, 3) := by decide +kernel
theorem dX2_points_5 : decode cX2_points 5 = .ok (.ifCond .eq 11, 3) := by decide +kernel
theorem dX2_points_8 : decode cX2_points 8 = .ok (.aload_n 0, 1) := by decide +kernel
theorem dX2_points_9 : decode cX2_points 9 = .ok (.iload_n 1, 1) := by decide +kernel
theorem dX2_points_10 : decode cX2_points 10 = .ok (.invokevirtual 135, 3) := by decide +kernel
theorem dX2_points_13 : decode cX2_points 13 = .ok (.goto 5, 3) := by decide +kernel
theorem dX2_points_16 : decode cX2_points 16 = .ok (.ldc 63, 2) := by decide +kernel
theorem dX2_points_18 : decode cX2_points 18 = .ok (.ireturn, 1) := by decide +kernel
theorem dX2_kindOf_0 : decode cX2_kindOf 0 = .ok (.iload_n 1, 1) := by decide +kernel
theorem dX2_kindOf_1 : decode cX2_kindOf 1 = .ok (.iconst 0, 1) := by decide +kernel
theorem dX2_kindOf_2 : decode cX2_kindOf 2 = .ok (.bipush 9, 2) := by decide +kernel
theorem dX2_kindOf_4 : decode cX2_kindOf 4 = .ok (.invokestatic 48, 3) := by decide +kernel
theorem dX2_kindOf_7 : decode cX2_kindOf 7 = .ok (.ifCond .ne 6, 3) := by decide +kernel
theorem dX2_kindOf_10 : decode cX2_kindOf 10 = .ok (.ldc 63, 2) := by decide +kernel
theorem dX2_kindOf_12 : decode cX2_kindOf 12 = .ok (.ireturn, 1) := by decide +kernel
theorem dX2_kindOf_13 : decode cX2_kindOf 13 = .ok (.iload_n 2, 1) := by decide +kernel
theorem dX2_kindOf_14 : decode cX2_kindOf 14 = .ok (.tableswitch 79 0 4 #[34, 39, 49, 63, 73], 34) := by decide +kernel
theorem dX2_kindOf_48 : decode cX2_kindOf 48 = .ok (.iload_n 1, 1) := by decide +kernel
theorem dX2_kindOf_49 : decode cX2_kindOf 49 = .ok (.invokestatic 77, 3) := by decide +kernel
theorem dX2_kindOf_52 : decode cX2_kindOf 52 = .ok (.ireturn, 1) := by decide +kernel
theorem dX2_kindOf_53 : decode cX2_kindOf 53 = .ok (.aload_n 0, 1) := by decide +kernel
theorem dX2_kindOf_54 : decode cX2_kindOf 54 = .ok (.getfield 7, 3) := by decide +kernel
theorem dX2_kindOf_57 : decode cX2_kindOf 57 = .ok (.bipush 10, 2) := by decide +kernel
theorem dX2_kindOf_59 : decode cX2_kindOf 59 = .ok (.iload_n 1, 1) := by decide +kernel
theorem dX2_kindOf_60 : decode cX2_kindOf 60 = .ok (.iadd, 1) := by decide +kernel
theorem dX2_kindOf_61 : decode cX2_kindOf 61 = .ok (.iaload, 1) := by decide +kernel
theorem dX2_kindOf_62 : decode cX2_kindOf 62 = .ok (.ireturn, 1) := by decide +kernel
theorem dX2_kindOf_63 : decode cX2_kindOf 63 = .ok (.aload_n 0, 1) := by decide +kernel
theorem dX2_kindOf_64 : decode cX2_kindOf 64 = .ok (.iload_n 1, 1) := by decide +kernel
theorem dX2_kindOf_65 : decode cX2_kindOf 65 = .ok (.invokevirtual 74, 3) := by decide +kernel
theorem dX2_kindOf_68 : decode cX2_kindOf 68 = .ok (.ifCond .eq 7, 3) := by decide +kernel
theorem dX2_kindOf_71 : decode cX2_kindOf 71 = .ok (.iconst 1, 1) := by decide +kernel
theorem dX2_kindOf_72 : decode cX2_kindOf 72 = .ok (.goto 4, 3) := by decide +kernel
theorem dX2_kindOf_75 : decode cX2_kindOf 75 = .ok (.iconst 0, 1) := by decide +kernel
theorem dX2_kindOf_76 : decode cX2_kindOf 76 = .ok (.ireturn, 1) := by decide +kernel
theorem dX2_kindOf_77 : decode cX2_kindOf 77 = .ok (.aload_n 0, 1) := by decide +kernel
theorem dX2_kindOf_78 : decode cX2_kindOf 78 = .ok (.getfield 7, 3) := by decide +kernel
theorem dX2_kindOf_81 : decode cX2_kindOf 81 = .ok (.bipush 20, 2) := by decide +kernel
theorem dX2_kindOf_83 : decode cX2_kindOf 83 = .ok (.iload_n 1, 1) := by decide +kernel
theorem dX2_kindOf_84 : decode cX2_kindOf 84 = .ok (.iadd, 1) := by decide +kernel
theorem dX2_kindOf_85 : decode cX2_kindOf 85 = .ok (.iaload, 1) := by decide +kernel
theorem dX2_kindOf_86 : decode cX2_kindOf 86 = .ok (.ireturn, 1) := by decide +kernel
theorem dX2_kindOf_87 : decode cX2_kindOf 87 = .ok (.aload_n 0, 1) := by decide +kernel
theorem dX2_kindOf_88 : decode cX2_kindOf 88 = .ok (.iload_n 1, 1) := by decide +kernel
theorem dX2_kindOf_89 : decode cX2_kindOf 89 = .ok (.invokevirtual 80, 3) := by decide +kernel
theorem dX2_kindOf_92 : decode cX2_kindOf 92 = .ok (.ireturn, 1) := by decide +kernel
theorem dX2_kindOf_93 : decode cX2_kindOf 93 = .ok (.ldc 63, 2) := by decide +kernel
theorem dX2_kindOf_95 : decode cX2_kindOf 95 = .ok (.ireturn, 1) := by decide +kernel
theorem dX2_canBuy_0 : decode cX2_canBuy 0 = .ok (.iconst 0, 1) := by decide +kernel
theorem dX2_canBuy_1 : decode cX2_canBuy 1 = .ok (.istore_n 1, 1) := by decide +kernel
theorem dX2_canBuy_2 : decode cX2_canBuy 2 = .ok (.iconst 0, 1) := by decide +kernel
theorem dX2_canBuy_3 : decode cX2_canBuy 3 = .ok (.istore_n 2, 1) := by decide +kernel
theorem dX2_canBuy_4 : decode cX2_canBuy 4 = .ok (.iload_n 2, 1) := by decide +kernel
theorem dX2_canBuy_5 : decode cX2_canBuy 5 = .ok (.bipush 10, 2) := by decide +kernel
theorem dX2_canBuy_7 : decode cX2_canBuy 7 = .ok (.if_icmp .ge 27, 3) := by decide +kernel
theorem dX2_canBuy_10 : decode cX2_canBuy 10 = .ok (.iload_n 1, 1) := by decide +kernel
theorem dX2_canBuy_11 : decode cX2_canBuy 11 = .ok (.aload_n 0, 1) := by decide +kernel
theorem dX2_canBuy_12 : decode cX2_canBuy 12 = .ok (.iload_n 2, 1) := by decide +kernel
theorem dX2_canBuy_13 : decode cX2_canBuy 13 = .ok (.invokevirtual 80, 3) := by decide +kernel
theorem dX2_canBuy_16 : decode cX2_canBuy 16 = .ok (.ifCond .ne 9, 3) := by decide +kernel
theorem dX2_canBuy_19 : decode cX2_canBuy 19 = .ok (.iconst 1, 1) := by decide +kernel
theorem dX2_canBuy_20 : decode cX2_canBuy 20 = .ok (.iload_n 2, 1) := by decide +kernel
theorem dX2_canBuy_21 : decode cX2_canBuy 21 = .ok (.ishl, 1) := by decide +kernel
theorem dX2_canBuy_22 : decode cX2_canBuy 22 = .ok (.goto 4, 3) := by decide +kernel
theorem dX2_canBuy_25 : decode cX2_canBuy 25 = .ok (.iconst 0, 1) := by decide +kernel
theorem dX2_canBuy_26 : decode cX2_canBuy 26 = .ok (.ior, 1) := by decide +kernel
theorem dX2_canBuy_27 : decode cX2_canBuy 27 = .ok (.istore_n 1, 1) := by decide +kernel
theorem dX2_canBuy_28 : decode cX2_canBuy 28 = .ok (.iinc 2 1, 3) := by decide +kernel
theorem dX2_canBuy_31 : decode cX2_canBuy 31 = .ok (.goto (-27), 3) := by decide +kernel
theorem dX2_canBuy_34 : decode cX2_canBuy 34 = .ok (.iload_n 1, 1) := by decide +kernel
theorem dX2_canBuy_35 : decode cX2_canBuy 35 = .ok (.ireturn, 1) := by decide +kernel
theorem dX2_turn_0 : decode cX2_turn 0 = .ok (.iload_n 1, 1) := by decide +kernel
theorem dX2_turn_1 : decode cX2_turn 1 = .ok (.iconst 5, 1) := by decide +kernel
theorem dX2_turn_2 : decode cX2_turn 2 = .ok (.if_icmp .ne 10, 3) := by decide +kernel
theorem dX2_turn_5 : decode cX2_turn 5 = .ok (.aload_n 0, 1) := by decide +kernel
theorem dX2_turn_6 : decode cX2_turn 6 = .ok (.invokevirtual 138, 3) := by decide +kernel
theorem dX2_turn_9 : decode cX2_turn 9 = .ok (.goto 41, 3) := by decide +kernel
theorem dX2_turn_12 : decode cX2_turn 12 = .ok (.iload_n 1, 1) := by decide +kernel
theorem dX2_turn_13 : decode cX2_turn 13 = .ok (.bipush 6, 2) := by decide +kernel
theorem dX2_turn_15 : decode cX2_turn 15 = .ok (.if_icmp .ne 13, 3) := by decide +kernel
theorem dX2_turn_18 : decode cX2_turn 18 = .ok (.aload_n 0, 1) := by decide +kernel
theorem dX2_turn_19 : decode cX2_turn 19 = .ok (.getfield 7, 3) := by decide +kernel
theorem dX2_turn_22 : decode cX2_turn 22 = .ok (.bipush 6, 2) := by decide +kernel
theorem dX2_turn_24 : decode cX2_turn 24 = .ok (.iaload, 1) := by decide +kernel
theorem dX2_turn_25 : decode cX2_turn 25 = .ok (.goto 25, 3) := by decide +kernel
theorem dX2_turn_28 : decode cX2_turn 28 = .ok (.iload_n 1, 1) := by decide +kernel
theorem dX2_turn_29 : decode cX2_turn 29 = .ok (.iconst 0, 1) := by decide +kernel
theorem dX2_turn_30 : decode cX2_turn 30 = .ok (.iconst 4, 1) := by decide +kernel
theorem dX2_turn_31 : decode cX2_turn 31 = .ok (.invokestatic 48, 3) := by decide +kernel
theorem dX2_turn_34 : decode cX2_turn 34 = .ok (.ifCond .eq 14, 3) := by decide +kernel
theorem dX2_turn_37 : decode cX2_turn 37 = .ok (.aload_n 0, 1) := by decide +kernel
theorem dX2_turn_38 : decode cX2_turn 38 = .ok (.getfield 7, 3) := by decide +kernel
theorem dX2_turn_41 : decode cX2_turn 41 = .ok (.iconst 1, 1) := by decide +kernel
theorem dX2_turn_42 : decode cX2_turn 42 = .ok (.iload_n 1, 1) := by decide +kernel
theorem dX2_turn_43 : decode cX2_turn 43 = .ok (.iadd, 1) := by decide +kernel
theorem dX2_turn_44 : decode cX2_turn 44 = .ok (.iaload, 1) := by decide +kernel
theorem dX2_turn_45 : decode cX2_turn 45 = .ok (.goto 5, 3) := by decide +kernel
theorem dX2_turn_48 : decode cX2_turn 48 = .ok (.ldc 63, 2) := by decide +kernel
theorem dX2_turn_50 : decode cX2_turn 50 = .ok (.ireturn, 1) := by decide +kernel
theorem dX2_purse_0 : decode cX2_purse 0 = .ok (.aload_n 0, 1) := by decide +kernel
theorem dX2_purse_1 : decode cX2_purse 1 = .ok (.getfield 7, 3) := by decide +kernel
theorem dX2_purse_4 : decode cX2_purse 4 = .ok (.iconst 2, 1) := by decide +kernel
theorem dX2_purse_5 : decode cX2_purse 5 = .ok (.iaload, 1) := by decide +kernel
theorem dX2_purse_6 : decode cX2_purse 6 = .ok (.istore_n 1, 1) := by decide +kernel
theorem dX2_purse_7 : decode cX2_purse 7 = .ok (.iconst 0, 1) := by decide +kernel
theorem dX2_purse_8 : decode cX2_purse 8 = .ok (.istore_n 2, 1) := by decide +kernel
theorem dX2_purse_9 : decode cX2_purse 9 = .ok (.iload_n 2, 1) := by decide +kernel
theorem dX2_purse_10 : decode cX2_purse 10 = .ok (.aload_n 0, 1) := by decide +kernel
theorem dX2_purse_11 : decode cX2_purse 11 = .ok (.aload_n 0, 1) := by decide +kernel
theorem dX2_purse_12 : decode cX2_purse 12 = .ok (.getfield 7, 3) := by decide +kernel
theorem dX2_purse_15 : decode cX2_purse 15 = .ok (.iconst 1, 1) := by decide +kernel
theorem dX2_purse_16 : decode cX2_purse 16 = .ok (.iaload, 1) := by decide +kernel
theorem dX2_purse_17 : decode cX2_purse 17 = .ok (.iconst 1, 1) := by decide +kernel
theorem dX2_purse_18 : decode cX2_purse 18 = .ok (.invokevirtual 34, 3) := by decide +kernel
theorem dX2_purse_21 : decode cX2_purse 21 = .ok (.if_icmp .ge 33, 3) := by decide +kernel
theorem dX2_purse_24 : decode cX2_purse 24 = .ok (.iload_n 1, 1) := by decide +kernel
theorem dX2_purse_25 : decode cX2_purse 25 = .ok (.aload_n 0, 1) := by decide +kernel
theorem dX2_purse_26 : decode cX2_purse 26 = .ok (.iload_n 2, 1) := by decide +kernel
theorem dX2_purse_27 : decode cX2_purse 27 = .ok (.invokevirtual 64, 3) := by decide +kernel
theorem dX2_purse_30 : decode cX2_purse 30 = .ok (.iconst 3, 1) := by decide +kernel
theorem dX2_purse_31 : decode cX2_purse 31 = .ok (.if_icmp .ge 14, 3) := by decide +kernel
theorem dX2_purse_34 : decode cX2_purse 34 = .ok (.aload_n 0, 1) := by decide +kernel
theorem dX2_purse_35 : decode cX2_purse 35 = .ok (.iload_n 2, 1) := by decide +kernel
theorem dX2_purse_36 : decode cX2_purse 36 = .ok (.invokevirtual 64, 3) := by decide +kernel
theorem dX2_purse_39 : decode cX2_purse 39 = .ok (.invokestatic 68, 3) := by decide +kernel
theorem dX2_purse_42 : decode cX2_purse 42 = .ok (.goto 4, 3) := by decide +kernel
theorem dX2_purse_45 : decode cX2_purse 45 = .ok (.iconst 0, 1) := by decide +kernel
theorem dX2_purse_46 : decode cX2_purse 46 = .ok (.iadd, 1) := by decide +kernel
theorem dX2_purse_47 : decode cX2_purse 47 = .ok (.istore_n 1, 1) := by decide +kernel
theorem dX2_purse_48 : decode cX2_purse 48 = .ok (.iinc 2 1, 3) := by decide +kernel
theorem dX2_purse_51 : decode cX2_purse 51 = .ok (.goto (-42), 3) := by decide +kernel
theorem dX2_purse_54 : decode cX2_purse 54 = .ok (.iload_n 1, 1) := by decide +kernel
theorem dX2_purse_55 : decode cX2_purse 55 = .ok (.ireturn, 1) := by decide +kernel
theorem dX2_leader_0 : decode cX2_leader 0 = .ok (.iconst 0, 1) := by decide +kernel
theorem dX2_leader_1 : decode cX2_leader 1 = .ok (.istore_n 1, 1) := by decide +kernel
theorem dX2_leader_2 : decode cX2_leader 2 = .ok (.iconst 1, 1) := by decide +kernel
theorem dX2_leader_3 : decode cX2_leader 3 = .ok (.istore_n 2, 1) := by decide +kernel
theorem dX2_leader_4 : decode cX2_leader 4 = .ok (.iload_n 2, 1) := by decide +kernel
theorem dX2_leader_5 : decode cX2_leader 5 = .ok (.aload_n 0, 1) := by decide +kernel
theorem dX2_leader_6 : decode cX2_leader 6 = .ok (.getfield 7, 3) := by decide +kernel
theorem dX2_leader_9 : decode cX2_leader 9 = .ok (.iconst 0, 1) := by decide +kernel
theorem dX2_leader_10 : decode cX2_leader 10 = .ok (.iaload, 1) := by decide +kernel
theorem dX2_leader_11 : decode cX2_leader 11 = .ok (.if_icmp .ge 28, 3) := by decide +kernel
theorem dX2_leader_14 : decode cX2_leader 14 = .ok (.aload_n 0, 1) := by decide +kernel
theorem dX2_leader_15 : decode cX2_leader 15 = .ok (.iload_n 2, 1) := by decide +kernel
theorem dX2_leader_16 : decode cX2_leader 16 = .ok (.invokevirtual 135, 3) := by decide +kernel
theorem dX2_leader_19 : decode cX2_leader 19 = .ok (.aload_n 0, 1) := by decide +kernel
theorem dX2_leader_20 : decode cX2_leader 20 = .ok (.iload_n 1, 1) := by decide +kernel
theorem dX2_leader_21 : decode cX2_leader 21 = .ok (.invokevirtual 135, 3) := by decide +kernel
theorem dX2_leader_24 : decode cX2_leader 24 = .ok (.if_icmp .le 7, 3) := by decide +kernel
theorem dX2_leader_27 : decode cX2_leader 27 = .ok (.iload_n 2, 1) := by decide +kernel
theorem dX2_leader_28 : decode cX2_leader 28 = .ok (.goto 4, 3) := by decide +kernel
theorem dX2_leader_31 : decode cX2_leader 31 = .ok (.iload_n 1, 1) := by decide +kernel
theorem dX2_leader_32 : decode cX2_leader 32 = .ok (.istore_n 1, 1) := by decide +kernel
theorem dX2_leader_33 : decode cX2_leader 33 = .ok (.iinc 2 1, 3) := by decide +kernel
theorem dX2_leader_36 : decode cX2_leader 36 = .ok (.goto (-32), 3) := by decide +kernel
theorem dX2_leader_39 : decode cX2_leader 39 = .ok (.iload_n 1, 1) := by decide +kernel
theorem dX2_leader_40 : decode cX2_leader 40 = .ok (.ireturn, 1) := by decide +kernel
theorem dX2_outcome_0 : decode cX2_outcome 0 = .ok (.iload_n 1, 1) := by decide +kernel
theorem dX2_outcome_1 : decode cX2_outcome 1 = .ok (.iconst 0, 1) := by decide +kernel
theorem dX2_outcome_2 : decode cX2_outcome 2 = .ok (.iconst 4, 1) := by decide +kernel
theorem dX2_outcome_3 : decode cX2_outcome 3 = .ok (.invokestatic 48, 3) := by decide +kernel
theorem dX2_outcome_6 : decode cX2_outcome 6 = .ok (.ifCond .ne 6, 3) := by decide +kernel
theorem dX2_outcome_9 : decode cX2_outcome 9 = .ok (.ldc 63, 2) := by decide +kernel
theorem dX2_outcome_11 : decode cX2_outcome 11 = .ok (.ireturn, 1) := by decide +kernel
theorem dX2_outcome_12 : decode cX2_outcome 12 = .ok (.aload_n 0, 1) := by decide +kernel
theorem dX2_outcome_13 : decode cX2_outcome 13 = .ok (.invokevirtual 141, 3) := by decide +kernel
theorem dX2_outcome_16 : decode cX2_outcome 16 = .ok (.aload_n 0, 1) := by decide +kernel
theorem dX2_outcome_17 : decode cX2_outcome 17 = .ok (.bipush 60, 2) := by decide +kernel
theorem dX2_outcome_19 : decode cX2_outcome 19 = .ok (.invokevirtual 121, 3) := by decide +kernel
theorem dX2_outcome_22 : decode cX2_outcome 22 = .ok (.istore_n 2, 1) := by decide +kernel
theorem dX2_outcome_23 : decode cX2_outcome 23 = .ok (.aload_n 0, 1) := by decide +kernel
theorem dX2_outcome_24 : decode cX2_outcome 24 = .ok (.invokevirtual 144, 3) := by decide +kernel
theorem dX2_outcome_27 : decode cX2_outcome 27 = .ok (.istore_n 3, 1) := by decide +kernel
theorem dX2_outcome_28 : decode cX2_outcome 28 = .ok (.iload_n 1, 1) := by decide +kernel
theorem dX2_outcome_29 : decode cX2_outcome 29 = .ok (.ifCond .ne 7, 3) := by decide +kernel
theorem dX2_outcome_32 : decode cX2_outcome 32 = .ok (.iload_n 3, 1) := by decide +kernel
theorem dX2_outcome_33 : decode cX2_outcome 33 = .ok (.goto 47, 3) := by decide +kernel
theorem dX2_outcome_36 : decode cX2_outcome 36 = .ok (.iload_n 1, 1) := by decide +kernel
theorem dX2_outcome_37 : decode cX2_outcome 37 = .ok (.iconst 1, 1) := by decide +kernel
theorem dX2_outcome_38 : decode cX2_outcome 38 = .ok (.if_icmp .ne 11, 3) := by decide +kernel
theorem dX2_outcome_41 : decode cX2_outcome 41 = .ok (.aload_n 0, 1) := by decide +kernel
theorem dX2_outcome_42 : decode cX2_outcome 42 = .ok (.iload_n 3, 1) := by decide +kernel
theorem dX2_outcome_43 : decode cX2_outcome 43 = .ok (.invokevirtual 135, 3) := by decide +kernel
theorem dX2_outcome_46 : decode cX2_outcome 46 = .ok (.goto 34, 3) := by decide +kernel
theorem dX2_outcome_49 : decode cX2_outcome 49 = .ok (.iload_n 1, 1) := by decide +kernel
theorem dX2_outcome_50 : decode cX2_outcome 50 = .ok (.iconst 2, 1) := by decide +kernel
theorem dX2_outcome_51 : decode cX2_outcome 51 = .ok (.if_icmp .ne 7, 3) := by decide +kernel
theorem dX2_outcome_54 : decode cX2_outcome 54 = .ok (.iload_n 2, 1) := by decide +kernel
theorem dX2_outcome_55 : decode cX2_outcome 55 = .ok (.goto 25, 3) := by decide +kernel
theorem dX2_outcome_58 : decode cX2_outcome 58 = .ok (.iload_n 1, 1) := by decide +kernel
theorem dX2_outcome_59 : decode cX2_outcome 59 = .ok (.iconst 3, 1) := by decide +kernel
theorem dX2_outcome_60 : decode cX2_outcome 60 = .ok (.if_icmp .ne 13, 3) := by decide +kernel
theorem dX2_outcome_63 : decode cX2_outcome 63 = .ok (.aload_n 0, 1) := by decide +kernel
theorem dX2_outcome_64 : decode cX2_outcome 64 = .ok (.getfield 7, 3) := by decide +kernel
theorem dX2_outcome_67 : decode cX2_outcome 67 = .ok (.bipush 8, 2) := by decide +kernel
theorem dX2_outcome_69 : decode cX2_outcome 69 = .ok (.iaload, 1) := by decide +kernel
theorem dX2_outcome_70 : decode cX2_outcome 70 = .ok (.goto 10, 3) := by decide +kernel
theorem dX2_outcome_73 : decode cX2_outcome 73 = .ok (.aload_n 0, 1) := by decide +kernel
theorem dX2_outcome_74 : decode cX2_outcome 74 = .ok (.getfield 7, 3) := by decide +kernel
theorem dX2_outcome_77 : decode cX2_outcome 77 = .ok (.bipush 15, 2) := by decide +kernel
theorem dX2_outcome_79 : decode cX2_outcome 79 = .ok (.iaload, 1) := by decide +kernel
theorem dX2_outcome_80 : decode cX2_outcome 80 = .ok (.istore 4, 2) := by decide +kernel
theorem dX2_outcome_82 : decode cX2_outcome 82 = .ok (.aload_n 0, 1) := by decide +kernel
theorem dX2_outcome_83 : decode cX2_outcome 83 = .ok (.invokevirtual 147, 3) := by decide +kernel
theorem dX2_outcome_86 : decode cX2_outcome 86 = .ok (.iload 4, 2) := by decide +kernel
theorem dX2_outcome_88 : decode cX2_outcome 88 = .ok (.ireturn, 1) := by decide +kernel
theorem dX2_wouldHave_0 : decode cX2_wouldHave 0 = .ok (.aload_n 0, 1) := by decide +kernel
theorem dX2_wouldHave_1 : decode cX2_wouldHave 1 = .ok (.invokevirtual 141, 3) := by decide +kernel
theorem dX2_wouldHave_4 : decode cX2_wouldHave 4 = .ok (.aload_n 0, 1) := by decide +kernel
theorem dX2_wouldHave_5 : decode cX2_wouldHave 5 = .ok (.getfield 7, 3) := by decide +kernel
theorem dX2_wouldHave_8 : decode cX2_wouldHave 8 = .ok (.iconst 1, 1) := by decide +kernel
theorem dX2_wouldHave_9 : decode cX2_wouldHave 9 = .ok (.iaload, 1) := by decide +kernel
theorem dX2_wouldHave_10 : decode cX2_wouldHave 10 = .ok (.istore_n 2, 1) := by decide +kernel
theorem dX2_wouldHave_11 : decode cX2_wouldHave 11 = .ok (.iload_n 1, 1) := by decide +kernel
theorem dX2_wouldHave_12 : decode cX2_wouldHave 12 = .ok (.bipush 10, 2) := by decide +kernel
theorem dX2_wouldHave_14 : decode cX2_wouldHave 14 = .ok (.if_icmp .ge 11, 3) := by decide +kernel
theorem dX2_wouldHave_17 : decode cX2_wouldHave 17 = .ok (.aload_n 0, 1) := by decide +kernel
theorem dX2_wouldHave_18 : decode cX2_wouldHave 18 = .ok (.iload_n 1, 1) := by decide +kernel
theorem dX2_wouldHave_19 : decode cX2_wouldHave 19 = .ok (.invokevirtual 97, 3) := by decide +kernel
theorem dX2_wouldHave_22 : decode cX2_wouldHave 22 = .ok (.goto 4, 3) := by decide +kernel
theorem dX2_wouldHave_25 : decode cX2_wouldHave 25 = .ok (.iconst 0, 1) := by decide +kernel
theorem dX2_wouldHave_26 : decode cX2_wouldHave 26 = .ok (.istore_n 3, 1) := by decide +kernel
theorem dX2_wouldHave_27 : decode cX2_wouldHave 27 = .ok (.aload_n 0, 1) := by decide +kernel
theorem dX2_wouldHave_28 : decode cX2_wouldHave 28 = .ok (.bipush 60, 2) := by decide +kernel
theorem dX2_wouldHave_30 : decode cX2_wouldHave 30 = .ok (.invokevirtual 121, 3) := by decide +kernel
theorem dX2_wouldHave_33 : decode cX2_wouldHave 33 = .ok (.istore 4, 2) := by decide +kernel
theorem dX2_wouldHave_35 : decode cX2_wouldHave 35 = .ok (.aload_n 0, 1) := by decide +kernel
theorem dX2_wouldHave_36 : decode cX2_wouldHave 36 = .ok (.iload_n 2, 1) := by decide +kernel
theorem dX2_wouldHave_37 : decode cX2_wouldHave 37 = .ok (.invokevirtual 135, 3) := by decide +kernel
theorem dX2_wouldHave_40 : decode cX2_wouldHave 40 = .ok (.istore 5, 2) := by decide +kernel
theorem dX2_wouldHave_42 : decode cX2_wouldHave 42 = .ok (.aload_n 0, 1) := by decide +kernel
theorem dX2_wouldHave_43 : decode cX2_wouldHave 43 = .ok (.invokevirtual 147, 3) := by decide +kernel
theorem dX2_wouldHave_46 : decode cX2_wouldHave 46 = .ok (.iload 5, 2) := by decide +kernel
theorem dX2_wouldHave_48 : decode cX2_wouldHave 48 = .ok (.ireturn, 1) := by decide +kernel
theorem dX2_advice_0 : decode cX2_advice 0 = .ok (.iload_n 1, 1) := by decide +kernel
theorem dX2_advice_1 : decode cX2_advice 1 = .ok (.iconst 0, 1) := by decide +kernel
theorem dX2_advice_2 : decode cX2_advice 2 = .ok (.iconst 1, 1) := by decide +kernel
theorem dX2_advice_3 : decode cX2_advice 3 = .ok (.invokestatic 48, 3) := by decide +kernel
theorem dX2_advice_6 : decode cX2_advice 6 = .ok (.ifCond .ne 6, 3) := by decide +kernel
theorem dX2_advice_9 : decode cX2_advice 9 = .ok (.ldc 63, 2) := by decide +kernel
theorem dX2_advice_11 : decode cX2_advice 11 = .ok (.ireturn, 1) := by decide +kernel
theorem dX2_advice_12 : decode cX2_advice 12 = .ok (.aload_n 0, 1) := by decide +kernel
theorem dX2_advice_13 : decode cX2_advice 13 = .ok (.invokevirtual 138, 3) := by decide +kernel
theorem dX2_advice_16 : decode cX2_advice 16 = .ok (.ifCond .ne 6, 3) := by decide +kernel
theorem dX2_advice_19 : decode cX2_advice 19 = .ok (.ldc 127, 2) := by decide +kernel
theorem dX2_advice_21 : decode cX2_advice 21 = .ok (.ireturn, 1) := by decide +kernel
theorem dX2_advice_22 : decode cX2_advice 22 = .ok (.ldc 127, 2) := by decide +kernel
theorem dX2_advice_24 : decode cX2_advice 24 = .ok (.istore_n 2, 1) := by decide +kernel
theorem dX2_advice_25 : decode cX2_advice 25 = .ok (.iconst 0, 1) := by decide +kernel
theorem dX2_advice_26 : decode cX2_advice 26 = .ok (.istore_n 3, 1) := by decide +kernel
theorem dX2_advice_27 : decode cX2_advice 27 = .ok (.iconst 0, 1) := by decide +kernel
theorem dX2_advice_28 : decode cX2_advice 28 = .ok (.istore 4, 2) := by decide +kernel
theorem dX2_advice_30 : decode cX2_advice 30 = .ok (.iload 4, 2) := by decide +kernel
theorem dX2_advice_32 : decode cX2_advice 32 = .ok (.bipush 10, 2) := by decide +kernel
theorem dX2_advice_34 : decode cX2_advice 34 = .ok (.if_icmp .gt 76, 3) := by decide +kernel
theorem dX2_advice_37 : decode cX2_advice 37 = .ok (.iload 4, 2) := by decide +kernel
theorem dX2_advice_39 : decode cX2_advice 39 = .ok (.bipush 10, 2) := by decide +kernel
theorem dX2_advice_41 : decode cX2_advice 41 = .ok (.if_icmp .eq 12, 3) := by decide +kernel
theorem dX2_advice_44 : decode cX2_advice 44 = .ok (.aload_n 0, 1) := by decide +kernel
theorem dX2_advice_45 : decode cX2_advice 45 = .ok (.iload 4, 2) := by decide +kernel
theorem dX2_advice_47 : decode cX2_advice 47 = .ok (.invokevirtual 80, 3) := by decide +kernel
theorem dX2_advice_50 : decode cX2_advice 50 = .ok (.ifCond .ne 54, 3) := by decide +kernel
theorem dX2_advice_53 : decode cX2_advice 53 = .ok (.aload_n 0, 1) := by decide +kernel
theorem dX2_advice_54 : decode cX2_advice 54 = .ok (.iload 4, 2) := by decide +kernel
theorem dX2_advice_56 : decode cX2_advice 56 = .ok (.invokevirtual 150, 3) := by decide +kernel
theorem dX2_advice_59 : decode cX2_advice 59 = .ok (.istore 5, 2) := by decide +kernel
theorem dX2_advice_61 : decode cX2_advice 61 = .ok (.iload_n 2, 1) := by decide +kernel
theorem dX2_advice_62 : decode cX2_advice 62 = .ok (.ldc 127, 2) := by decide +kernel
theorem dX2_advice_64 : decode cX2_advice 64 = .ok (.if_icmp .eq 9, 3) := by decide +kernel
theorem dX2_advice_67 : decode cX2_advice 67 = .ok (.iload 5, 2) := by decide +kernel
theorem dX2_advice_69 : decode cX2_advice 69 = .ok (.iload_n 3, 1) := by decide +kernel
theorem dX2_advice_70 : decode cX2_advice 70 = .ok (.if_icmp .le 7, 3) := by decide +kernel
theorem dX2_advice_73 : decode cX2_advice 73 = .ok (.iconst 1, 1) := by decide +kernel
theorem dX2_advice_74 : decode cX2_advice 74 = .ok (.goto 4, 3) := by decide +kernel
theorem dX2_advice_77 : decode cX2_advice 77 = .ok (.iconst 0, 1) := by decide +kernel
theorem dX2_advice_78 : decode cX2_advice 78 = .ok (.istore 6, 2) := by decide +kernel
theorem dX2_advice_80 : decode cX2_advice 80 = .ok (.iload 6, 2) := by decide +kernel
theorem dX2_advice_82 : decode cX2_advice 82 = .ok (.ifCond .eq 8, 3) := by decide +kernel
theorem dX2_advice_85 : decode cX2_advice 85 = .ok (.iload 4, 2) := by decide +kernel
theorem dX2_advice_87 : decode cX2_advice 87 = .ok (.goto 4, 3) := by decide +kernel
theorem dX2_advice_90 : decode cX2_advice 90 = .ok (.iload_n 2, 1) := by decide +kernel
theorem dX2_advice_91 : decode cX2_advice 91 = .ok (.istore_n 2, 1) := by decide +kernel
theorem dX2_advice_92 : decode cX2_advice 92 = .ok (.iload 6, 2) := by decide +kernel
theorem dX2_advice_94 : decode cX2_advice 94 = .ok (.ifCond .eq 8, 3) := by decide +kernel
theorem dX2_advice_97 : decode cX2_advice 97 = .ok (.iload 5, 2) := by decide +kernel
theorem dX2_advice_99 : decode cX2_advice 99 = .ok (.goto 4, 3) := by decide +kernel
theorem dX2_advice_102 : decode cX2_advice 102 = .ok (.iload_n 3, 1) := by decide +kernel
theorem dX2_advice_103 : decode cX2_advice 103 = .ok (.istore_n 3, 1) := by decide +kernel
theorem dX2_advice_104 : decode cX2_advice 104 = .ok (.iinc 4 1, 3) := by decide +kernel
theorem dX2_advice_107 : decode cX2_advice 107 = .ok (.goto (-77), 3) := by decide +kernel
theorem dX2_advice_110 : decode cX2_advice 110 = .ok (.iload_n 1, 1) := by decide +kernel
theorem dX2_advice_111 : decode cX2_advice 111 = .ok (.ifCond .ne 7, 3) := by decide +kernel
theorem dX2_advice_114 : decode cX2_advice 114 = .ok (.iload_n 2, 1) := by decide +kernel
theorem dX2_advice_115 : decode cX2_advice 115 = .ok (.goto 4, 3) := by decide +kernel
theorem dX2_advice_118 : decode cX2_advice 118 = .ok (.iload_n 3, 1) := by decide +kernel
theorem dX2_advice_119 : decode cX2_advice 119 = .ok (.ireturn, 1) := by decide +kernel
theorem dX2_bitsOf_0 : decode cX2_bitsOf 0 = .ok (.fload_n 0, 1) := by decide +kernel
theorem dX2_bitsOf_1 : decode cX2_bitsOf 1 = .ok (.fconst 0, 1) := by decide +kernel
theorem dX2_bitsOf_2 : decode cX2_bitsOf 2 = .ok (.fcmp .l, 1) := by decide +kernel
theorem dX2_bitsOf_3 : decode cX2_bitsOf 3 = .ok (.ifCond .ne 5, 3) := by decide +kernel
theorem dX2_bitsOf_6 : decode cX2_bitsOf 6 = .ok (.iconst 0, 1) := by decide +kernel
theorem dX2_bitsOf_7 : decode cX2_bitsOf 7 = .ok (.ireturn, 1) := by decide +kernel
theorem dX2_bitsOf_8 : decode cX2_bitsOf 8 = .ok (.bipush 127, 2) := by decide +kernel
theorem dX2_bitsOf_10 : decode cX2_bitsOf 10 = .ok (.istore_n 1, 1) := by decide +kernel
theorem dX2_bitsOf_11 : decode cX2_bitsOf 11 = .ok (.fload_n 0, 1) := by decide +kernel
theorem dX2_bitsOf_12 : decode cX2_bitsOf 12 = .ok (.fstore_n 2, 1) := by decide +kernel
theorem dX2_bitsOf_13 : decode cX2_bitsOf 13 = .ok (.fload_n 2, 1) := by decide +kernel
theorem dX2_bitsOf_14 : decode cX2_bitsOf 14 = .ok (.fconst 1, 1) := by decide +kernel
theorem dX2_bitsOf_15 : decode cX2_bitsOf 15 = .ok (.fcmp .g, 1) := by decide +kernel
theorem dX2_bitsOf_16 : decode cX2_bitsOf 16 = .ok (.ifCond .ge 13, 3) := by decide +kernel
theorem dX2_bitsOf_19 : decode cX2_bitsOf 19 = .ok (.fload_n 2, 1) := by decide +kernel
theorem dX2_bitsOf_20 : decode cX2_bitsOf 20 = .ok (.fconst 2, 1) := by decide +kernel
theorem dX2_bitsOf_21 : decode cX2_bitsOf 21 = .ok (.fmul, 1) := by decide +kernel
theorem dX2_bitsOf_22 : decode cX2_bitsOf 22 = .ok (.fstore_n 2, 1) := by decide +kernel
theorem dX2_bitsOf_23 : decode cX2_bitsOf 23 = .ok (.iinc 1 (-1), 3) := by decide +kernel
theorem dX2_bitsOf_26 : decode cX2_bitsOf 26 = .ok (.goto (-13), 3) := by decide +kernel
theorem dX2_bitsOf_29 : decode cX2_bitsOf 29 = .ok (.fload_n 2, 1) := by decide +kernel
theorem dX2_bitsOf_30 : decode cX2_bitsOf 30 = .ok (.fconst 2, 1) := by decide +kernel
theorem dX2_bitsOf_31 : decode cX2_bitsOf 31 = .ok (.fcmp .l, 1) := by decide +kernel
theorem dX2_bitsOf_32 : decode cX2_bitsOf 32 = .ok (.ifCond .lt 14, 3) := by decide +kernel
theorem dX2_bitsOf_35 : decode cX2_bitsOf 35 = .ok (.fload_n 2, 1) := by decide +kernel
theorem dX2_bitsOf_36 : decode cX2_bitsOf 36 = .ok (.ldc 153, 2) := by decide +kernel
theorem dX2_bitsOf_38 : decode cX2_bitsOf 38 = .ok (.fmul, 1) := by decide +kernel
theorem dX2_bitsOf_39 : decode cX2_bitsOf 39 = .ok (.fstore_n 2, 1) := by decide +kernel
theorem dX2_bitsOf_40 : decode cX2_bitsOf 40 = .ok (.iinc 1 1, 3) := by decide +kernel
theorem dX2_bitsOf_43 : decode cX2_bitsOf 43 = .ok (.goto (-14), 3) := by decide +kernel
theorem dX2_bitsOf_46 : decode cX2_bitsOf 46 = .ok (.iload_n 1, 1) := by decide +kernel
theorem dX2_bitsOf_47 : decode cX2_bitsOf 47 = .ok (.ldc 154, 2) := by decide +kernel
theorem dX2_bitsOf_49 : decode cX2_bitsOf 49 = .ok (.imul, 1) := by decide +kernel
theorem dX2_bitsOf_50 : decode cX2_bitsOf 50 = .ok (.fload_n 2, 1) := by decide +kernel
theorem dX2_bitsOf_51 : decode cX2_bitsOf 51 = .ok (.fconst 1, 1) := by decide +kernel
theorem dX2_bitsOf_52 : decode cX2_bitsOf 52 = .ok (.fsub, 1) := by decide +kernel
theorem dX2_bitsOf_53 : decode cX2_bitsOf 53 = .ok (.ldc 155, 2) := by decide +kernel
theorem dX2_bitsOf_55 : decode cX2_bitsOf 55 = .ok (.fmul, 1) := by decide +kernel
theorem dX2_bitsOf_56 : decode cX2_bitsOf 56 = .ok (.f2i, 1) := by decide +kernel
theorem dX2_bitsOf_57 : decode cX2_bitsOf 57 = .ok (.iadd, 1) := by decide +kernel
theorem dX2_bitsOf_58 : decode cX2_bitsOf 58 = .ok (.ireturn, 1) := by decide +kernel
theorem dX2_wealth_0 : decode cX2_wealth 0 = .ok (.aload_n 0, 1) := by decide +kernel
theorem dX2_wealth_1 : decode cX2_wealth 1 = .ok (.iload_n 1, 1) := by decide +kernel
theorem dX2_wealth_2 : decode cX2_wealth 2 = .ok (.invokevirtual 124, 3) := by decide +kernel
theorem dX2_wealth_5 : decode cX2_wealth 5 = .ok (.ifCond .ne 6, 3) := by decide +kernel
theorem dX2_wealth_8 : decode cX2_wealth 8 = .ok (.ldc 63, 2) := by decide +kernel
theorem dX2_wealth_10 : decode cX2_wealth 10 = .ok (.ireturn, 1) := by decide +kernel
theorem dX2_wealth_11 : decode cX2_wealth 11 = .ok (.aload_n 0, 1) := by decide +kernel
theorem dX2_wealth_12 : decode cX2_wealth 12 = .ok (.iload_n 1, 1) := by decide +kernel
theorem dX2_wealth_13 : decode cX2_wealth 13 = .ok (.iconst 0, 1) := by decide +kernel
theorem dX2_wealth_14 : decode cX2_wealth 14 = .ok (.iconst 3, 1) := by decide +kernel
theorem dX2_wealth_15 : decode cX2_wealth 15 = .ok (.bipush 10, 2) := by decide +kernel
theorem dX2_wealth_17 : decode cX2_wealth 17 = .ok (.invokevirtual 128, 3) := by decide +kernel
theorem dX2_wealth_20 : decode cX2_wealth 20 = .ok (.istore_n 2, 1) := by decide +kernel
theorem dX2_wealth_21 : decode cX2_wealth 21 = .ok (.iconst 0, 1) := by decide +kernel
theorem dX2_wealth_22 : decode cX2_wealth 22 = .ok (.istore_n 3, 1) := by decide +kernel
theorem dX2_wealth_23 : decode cX2_wealth 23 = .ok (.iconst 0, 1) := by decide +kernel
theorem dX2_wealth_24 : decode cX2_wealth 24 = .ok (.istore 4, 2) := by decide +kernel
theorem dX2_wealth_26 : decode cX2_wealth 26 = .ok (.iload 4, 2) := by decide +kernel
theorem dX2_wealth_28 : decode cX2_wealth 28 = .ok (.bipush 10, 2) := by decide +kernel
theorem dX2_wealth_30 : decode cX2_wealth 30 = .ok (.if_icmp .ge 27, 3) := by decide +kernel
theorem dX2_wealth_33 : decode cX2_wealth 33 = .ok (.iload_n 3, 1) := by decide +kernel
theorem dX2_wealth_34 : decode cX2_wealth 34 = .ok (.iload 4, 2) := by decide +kernel
theorem dX2_wealth_36 : decode cX2_wealth 36 = .ok (.invokestatic 68, 3) := by decide +kernel
theorem dX2_wealth_39 : decode cX2_wealth 39 = .ok (.aload_n 0, 1) := by decide +kernel
theorem dX2_wealth_40 : decode cX2_wealth 40 = .ok (.iload_n 1, 1) := by decide +kernel
theorem dX2_wealth_41 : decode cX2_wealth 41 = .ok (.iconst 0, 1) := by decide +kernel
theorem dX2_wealth_42 : decode cX2_wealth 42 = .ok (.iconst 3, 1) := by decide +kernel
theorem dX2_wealth_43 : decode cX2_wealth 43 = .ok (.iload 4, 2) := by decide +kernel
theorem dX2_wealth_45 : decode cX2_wealth 45 = .ok (.invokevirtual 128, 3) := by decide +kernel
theorem dX2_wealth_48 : decode cX2_wealth 48 = .ok (.imul, 1) := by decide +kernel
theorem dX2_wealth_49 : decode cX2_wealth 49 = .ok (.iadd, 1) := by decide +kernel
theorem dX2_wealth_50 : decode cX2_wealth 50 = .ok (.istore_n 3, 1) := by decide +kernel
theorem dX2_wealth_51 : decode cX2_wealth 51 = .ok (.iinc 4 1, 3) := by decide +kernel
theorem dX2_wealth_54 : decode cX2_wealth 54 = .ok (.goto (-28), 3) := by decide +kernel
theorem dX2_wealth_57 : decode cX2_wealth 57 = .ok (.iload_n 2, 1) := by decide +kernel
theorem dX2_wealth_58 : decode cX2_wealth 58 = .ok (.ifCond .ne 8, 3) := by decide +kernel
theorem dX2_wealth_61 : decode cX2_wealth 61 = .ok (.ldc 127, 2) := by decide +kernel
theorem dX2_wealth_63 : decode cX2_wealth 63 = .ok (.goto 11, 3) := by decide +kernel
theorem dX2_wealth_66 : decode cX2_wealth 66 = .ok (.iload_n 3, 1) := by decide +kernel
theorem dX2_wealth_67 : decode cX2_wealth 67 = .ok (.i2f, 1) := by decide +kernel
theorem dX2_wealth_68 : decode cX2_wealth 68 = .ok (.iload_n 2, 1) := by decide +kernel
theorem dX2_wealth_69 : decode cX2_wealth 69 = .ok (.i2f, 1) := by decide +kernel
theorem dX2_wealth_70 : decode cX2_wealth 70 = .ok (.fdiv, 1) := by decide +kernel
theorem dX2_wealth_71 : decode cX2_wealth 71 = .ok (.invokestatic 156, 3) := by decide +kernel
theorem dX2_wealth_74 : decode cX2_wealth 74 = .ok (.ireturn, 1) := by decide +kernel
theorem dX2_sum_0 : decode cX2_sum 0 = .ok (.iconst 0, 1) := by decide +kernel
theorem dX2_sum_1 : decode cX2_sum 1 = .ok (.istore_n 2, 1) := by decide +kernel
theorem dX2_sum_2 : decode cX2_sum 2 = .ok (.iconst 0, 1) := by decide +kernel
theorem dX2_sum_3 : decode cX2_sum 3 = .ok (.istore_n 3, 1) := by decide +kernel
theorem dX2_sum_4 : decode cX2_sum 4 = .ok (.iload_n 3, 1) := by decide +kernel
theorem dX2_sum_5 : decode cX2_sum 5 = .ok (.bipush 10, 2) := by decide +kernel
theorem dX2_sum_7 : decode cX2_sum 7 = .ok (.if_icmp .ge 20, 3) := by decide +kernel
theorem dX2_sum_10 : decode cX2_sum 10 = .ok (.iload_n 2, 1) := by decide +kernel
theorem dX2_sum_11 : decode cX2_sum 11 = .ok (.aload_n 0, 1) := by decide +kernel
theorem dX2_sum_12 : decode cX2_sum 12 = .ok (.getfield 7, 3) := by decide +kernel
theorem dX2_sum_15 : decode cX2_sum 15 = .ok (.iload_n 1, 1) := by decide +kernel
theorem dX2_sum_16 : decode cX2_sum 16 = .ok (.iload_n 3, 1) := by decide +kernel
theorem dX2_sum_17 : decode cX2_sum 17 = .ok (.iadd, 1) := by decide +kernel
theorem dX2_sum_18 : decode cX2_sum 18 = .ok (.iaload, 1) := by decide +kernel
theorem dX2_sum_19 : decode cX2_sum 19 = .ok (.iadd, 1) := by decide +kernel
theorem dX2_sum_20 : decode cX2_sum 20 = .ok (.istore_n 2, 1) := by decide +kernel
theorem dX2_sum_21 : decode cX2_sum 21 = .ok (.iinc 3 1, 3) := by decide +kernel
theorem dX2_sum_24 : decode cX2_sum 24 = .ok (.goto (-20), 3) := by decide +kernel
theorem dX2_sum_27 : decode cX2_sum 27 = .ok (.iload_n 2, 1) := by decide +kernel
theorem dX2_sum_28 : decode cX2_sum 28 = .ok (.ireturn, 1) := by decide +kernel
theorem dX2_count_0 : decode cX2_count 0 = .ok (.iload_n 1, 1) := by decide +kernel
theorem dX2_count_1 : decode cX2_count 1 = .ok (.tableswitch 159 0 20 #[99, 106, 114, 122, 127, 134, 141, 146, 159, 159, 159, 159, 159, 159, 159, 159, 159, 159, 159, 159, 151], 99) := by decide +kernel
theorem dX2_count_100 : decode cX2_count 100 = .ok (.aload_n 0, 1) := by decide +kernel
theorem dX2_count_101 : decode cX2_count 101 = .ok (.getfield 7, 3) := by decide +kernel
theorem dX2_count_104 : decode cX2_count 104 = .ok (.iconst 0, 1) := by decide +kernel
theorem dX2_count_105 : decode cX2_count 105 = .ok (.iaload, 1) := by decide +kernel
theorem dX2_count_106 : decode cX2_count 106 = .ok (.ireturn, 1) := by decide +kernel
theorem dX2_count_107 : decode cX2_count 107 = .ok (.aload_n 0, 1) := by decide +kernel
theorem dX2_count_108 : decode cX2_count 108 = .ok (.getfield 7, 3) := by decide +kernel
theorem dX2_count_111 : decode cX2_count 111 = .ok (.bipush 7, 2) := by decide +kernel
theorem dX2_count_113 : decode cX2_count 113 = .ok (.iaload, 1) := by decide +kernel
theorem dX2_count_114 : decode cX2_count 114 = .ok (.ireturn, 1) := by decide +kernel
theorem dX2_count_115 : decode cX2_count 115 = .ok (.aload_n 0, 1) := by decide +kernel
theorem dX2_count_116 : decode cX2_count 116 = .ok (.getfield 7, 3) := by decide +kernel
theorem dX2_count_119 : decode cX2_count 119 = .ok (.bipush 8, 2) := by decide +kernel
theorem dX2_count_121 : decode cX2_count 121 = .ok (.iaload, 1) := by decide +kernel
theorem dX2_count_122 : decode cX2_count 122 = .ok (.ireturn, 1) := by decide +kernel
theorem dX2_count_123 : decode cX2_count 123 = .ok (.aload_n 0, 1) := by decide +kernel
theorem dX2_count_124 : decode cX2_count 124 = .ok (.invokevirtual 83, 3) := by decide +kernel
theorem dX2_count_127 : decode cX2_count 127 = .ok (.ireturn, 1) := by decide +kernel
theorem dX2_count_128 : decode cX2_count 128 = .ok (.aload_n 0, 1) := by decide +kernel
theorem dX2_count_129 : decode cX2_count 129 = .ok (.bipush 20, 2) := by decide +kernel
theorem dX2_count_131 : decode cX2_count 131 = .ok (.invokevirtual 160, 3) := by decide +kernel
theorem dX2_count_134 : decode cX2_count 134 = .ok (.ireturn, 1) := by decide +kernel
theorem dX2_count_135 : decode cX2_count 135 = .ok (.aload_n 0, 1) := by decide +kernel
theorem dX2_count_136 : decode cX2_count 136 = .ok (.bipush 10, 2) := by decide +kernel
theorem dX2_count_138 : decode cX2_count 138 = .ok (.invokevirtual 160, 3) := by decide +kernel
theorem dX2_count_141 : decode cX2_count 141 = .ok (.ireturn, 1) := by decide +kernel
theorem dX2_count_142 : decode cX2_count 142 = .ok (.aload_n 0, 1) := by decide +kernel
theorem dX2_count_143 : decode cX2_count 143 = .ok (.getfield 44, 3) := by decide +kernel
theorem dX2_count_146 : decode cX2_count 146 = .ok (.ireturn, 1) := by decide +kernel
theorem dX2_count_147 : decode cX2_count 147 = .ok (.aload_n 0, 1) := by decide +kernel
theorem dX2_count_148 : decode cX2_count 148 = .ok (.getfield 163, 3) := by decide +kernel
theorem dX2_count_151 : decode cX2_count 151 = .ok (.ireturn, 1) := by decide +kernel
theorem dX2_count_152 : decode cX2_count 152 = .ok (.aload_n 0, 1) := by decide +kernel
theorem dX2_count_153 : decode cX2_count 153 = .ok (.getfield 7, 3) := by decide +kernel
theorem dX2_count_156 : decode cX2_count 156 = .ok (.bipush 9, 2) := by decide +kernel
theorem dX2_count_158 : decode cX2_count 158 = .ok (.iaload, 1) := by decide +kernel
theorem dX2_count_159 : decode cX2_count 159 = .ok (.ireturn, 1) := by decide +kernel
theorem dX2_count_160 : decode cX2_count 160 = .ok (.ldc 63, 2) := by decide +kernel
theorem dX2_count_162 : decode cX2_count 162 = .ok (.ireturn, 1) := by decide +kernel
theorem dX2_undo_0 : decode cX2_undo 0 = .ok (.aload_n 0, 1) := by decide +kernel
theorem dX2_undo_1 : decode cX2_undo 1 = .ok (.getfield 44, 3) := by decide +kernel
theorem dX2_undo_4 : decode cX2_undo 4 = .ok (.ifCond .ne 6, 3) := by decide +kernel
theorem dX2_undo_7 : decode cX2_undo 7 = .ok (.ldc 67, 2) := by decide +kernel
theorem dX2_undo_9 : decode cX2_undo 9 = .ok (.ireturn, 1) := by decide +kernel
theorem dX2_undo_10 : decode cX2_undo 10 = .ok (.aload_n 0, 1) := by decide +kernel
theorem dX2_undo_11 : decode cX2_undo 11 = .ok (.dup, 1) := by decide +kernel
theorem dX2_undo_12 : decode cX2_undo 12 = .ok (.getfield 44, 3) := by decide +kernel
theorem dX2_undo_15 : decode cX2_undo 15 = .ok (.iconst 1, 1) := by decide +kernel
theorem dX2_undo_16 : decode cX2_undo 16 = .ok (.isub, 1) := by decide +kernel
theorem dX2_undo_17 : decode cX2_undo 17 = .ok (.putfield 44, 3) := by decide +kernel
theorem dX2_undo_20 : decode cX2_undo 20 = .ok (.iconst 0, 1) := by decide +kernel
theorem dX2_undo_21 : decode cX2_undo 21 = .ok (.istore_n 1, 1) := by decide +kernel
theorem dX2_undo_22 : decode cX2_undo 22 = .ok (.iload_n 1, 1) := by decide +kernel
theorem dX2_undo_23 : decode cX2_undo 23 = .ok (.sipush 2670, 3) := by decide +kernel
theorem dX2_undo_26 : decode cX2_undo 26 = .ok (.if_icmp .ge 30, 3) := by decide +kernel
theorem dX2_undo_29 : decode cX2_undo 29 = .ok (.aload_n 0, 1) := by decide +kernel
theorem dX2_undo_30 : decode cX2_undo 30 = .ok (.getfield 7, 3) := by decide +kernel
theorem dX2_undo_33 : decode cX2_undo 33 = .ok (.iload_n 1, 1) := by decide +kernel
theorem dX2_undo_34 : decode cX2_undo 34 = .ok (.aload_n 0, 1) := by decide +kernel
theorem dX2_undo_35 : decode cX2_undo 35 = .ok (.getfield 16, 3) := by decide +kernel
theorem dX2_undo_38 : decode cX2_undo 38 = .ok (.sipush 2670, 3) := by decide +kernel
theorem dX2_undo_41 : decode cX2_undo 41 = .ok (.aload_n 0, 1) := by decide +kernel
theorem dX2_undo_42 : decode cX2_undo 42 = .ok (.getfield 44, 3) := by decide +kernel
theorem dX2_undo_45 : decode cX2_undo 45 = .ok (.imul, 1) := by decide +kernel
theorem dX2_undo_46 : decode cX2_undo 46 = .ok (.iload_n 1, 1) := by decide +kernel
theorem dX2_undo_47 : decode cX2_undo 47 = .ok (.iadd, 1) := by decide +kernel
theorem dX2_undo_48 : decode cX2_undo 48 = .ok (.iaload, 1) := by decide +kernel
theorem dX2_undo_49 : decode cX2_undo 49 = .ok (.iastore, 1) := by decide +kernel
theorem dX2_undo_50 : decode cX2_undo 50 = .ok (.iinc 1 1, 3) := by decide +kernel
theorem dX2_undo_53 : decode cX2_undo 53 = .ok (.goto (-31), 3) := by decide +kernel
theorem dX2_undo_56 : decode cX2_undo 56 = .ok (.aload_n 0, 1) := by decide +kernel
theorem dX2_undo_57 : decode cX2_undo 57 = .ok (.getfield 44, 3) := by decide +kernel
theorem dX2_undo_60 : decode cX2_undo 60 = .ok (.ireturn, 1) := by decide +kernel
theorem dX2_type_0 : decode cX2_type 0 = .ok (.iload_n 1, 1) := by decide +kernel
theorem dX2_type_1 : decode cX2_type 1 = .ok (.bipush 32, 2) := by decide +kernel
theorem dX2_type_3 : decode cX2_type 3 = .ok (.bipush 126, 2) := by decide +kernel
theorem dX2_type_5 : decode cX2_type 5 = .ok (.invokestatic 48, 3) := by decide +kernel
theorem dX2_type_8 : decode cX2_type 8 = .ok (.ifCond .ne 6, 3) := by decide +kernel
theorem dX2_type_11 : decode cX2_type 11 = .ok (.ldc 63, 2) := by decide +kernel
theorem dX2_type_13 : decode cX2_type 13 = .ok (.ireturn, 1) := by decide +kernel
theorem dX2_type_14 : decode cX2_type 14 = .ok (.aload_n 0, 1) := by decide +kernel
theorem dX2_type_15 : decode cX2_type 15 = .ok (.getfield 163, 3) := by decide +kernel
theorem dX2_type_18 : decode cX2_type 18 = .ok (.bipush 60, 2) := by decide +kernel
theorem dX2_type_20 : decode cX2_type 20 = .ok (.if_icmp .ne 6, 3) := by decide +kernel
theorem dX2_type_23 : decode cX2_type 23 = .ok (.ldc 166, 2) := by decide +kernel
theorem dX2_type_25 : decode cX2_type 25 = .ok (.ireturn, 1) := by decide +kernel
theorem dX2_type_26 : decode cX2_type 26 = .ok (.aload_n 0, 1) := by decide +kernel
theorem dX2_type_27 : decode cX2_type 27 = .ok (.getfield 19, 3) := by decide +kernel
theorem dX2_type_30 : decode cX2_type 30 = .ok (.aload_n 0, 1) := by decide +kernel
theorem dX2_type_31 : decode cX2_type 31 = .ok (.getfield 163, 3) := by decide +kernel
theorem dX2_type_34 : decode cX2_type 34 = .ok (.iload_n 1, 1) := by decide +kernel
theorem dX2_type_35 : decode cX2_type 35 = .ok (.iastore, 1) := by decide +kernel
theorem dX2_type_36 : decode cX2_type 36 = .ok (.aload_n 0, 1) := by decide +kernel
theorem dX2_type_37 : decode cX2_type 37 = .ok (.dup, 1) := by decide +kernel
theorem dX2_type_38 : decode cX2_type 38 = .ok (.getfield 163, 3) := by decide +kernel
theorem dX2_type_41 : decode cX2_type 41 = .ok (.iconst 1, 1) := by decide +kernel
theorem dX2_type_42 : decode cX2_type 42 = .ok (.iadd, 1) := by decide +kernel
theorem dX2_type_43 : decode cX2_type 43 = .ok (.putfield 163, 3) := by decide +kernel
theorem dX2_type_46 : decode cX2_type 46 = .ok (.aload_n 0, 1) := by decide +kernel
theorem dX2_type_47 : decode cX2_type 47 = .ok (.getfield 163, 3) := by decide +kernel
theorem dX2_type_50 : decode cX2_type 50 = .ok (.ireturn, 1) := by decide +kernel
theorem dX2_clearText_0 : decode cX2_clearText 0 = .ok (.aload_n 0, 1) := by decide +kernel
theorem dX2_clearText_1 : decode cX2_clearText 1 = .ok (.getfield 163, 3) := by decide +kernel
theorem dX2_clearText_4 : decode cX2_clearText 4 = .ok (.istore_n 1, 1) := by decide +kernel
theorem dX2_clearText_5 : decode cX2_clearText 5 = .ok (.aload_n 0, 1) := by decide +kernel
theorem dX2_clearText_6 : decode cX2_clearText 6 = .ok (.iconst 0, 1) := by decide +kernel
theorem dX2_clearText_7 : decode cX2_clearText 7 = .ok (.putfield 163, 3) := by decide +kernel
theorem dX2_clearText_10 : decode cX2_clearText 10 = .ok (.iload_n 1, 1) := by decide +kernel
theorem dX2_clearText_11 : decode cX2_clearText 11 = .ok (.ireturn, 1) := by decide +kernel
theorem dX2_sign_0 : decode cX2_sign 0 = .ok (.aload_n 0, 1) := by decide +kernel
theorem dX2_sign_1 : decode cX2_sign 1 = .ok (.getfield 167, 3) := by decide +kernel
theorem dX2_sign_4 : decode cX2_sign 4 = .ok (.aload_n 0, 1) := by decide +kernel
theorem dX2_sign_5 : decode cX2_sign 5 = .ok (.getfield 163, 3) := by decide +kernel
theorem dX2_sign_8 : decode cX2_sign 8 = .ok (.if_icmp .ge 15, 3) := by decide +kernel
theorem dX2_sign_11 : decode cX2_sign 11 = .ok (.aload_n 0, 1) := by decide +kernel
theorem dX2_sign_12 : decode cX2_sign 12 = .ok (.getfield 19, 3) := by decide +kernel
theorem dX2_sign_15 : decode cX2_sign 15 = .ok (.aload_n 0, 1) := by decide +kernel
theorem dX2_sign_16 : decode cX2_sign 16 = .ok (.getfield 167, 3) := by decide +kernel
theorem dX2_sign_19 : decode cX2_sign 19 = .ok (.iaload, 1) := by decide +kernel
theorem dX2_sign_20 : decode cX2_sign 20 = .ok (.goto 4, 3) := by decide +kernel
theorem dX2_sign_23 : decode cX2_sign 23 = .ok (.iconst 0, 1) := by decide +kernel
theorem dX2_sign_24 : decode cX2_sign 24 = .ok (.istore_n 3, 1) := by decide +kernel
theorem dX2_sign_25 : decode cX2_sign 25 = .ok (.aload_n 0, 1) := by decide +kernel
theorem dX2_sign_26 : decode cX2_sign 26 = .ok (.aload_n 0, 1) := by decide +kernel
theorem dX2_sign_27 : decode cX2_sign 27 = .ok (.getfield 170, 3) := by decide +kernel
theorem dX2_sign_30 : decode cX2_sign 30 = .ok (.ifCond .ne 12, 3) := by decide +kernel
theorem dX2_sign_33 : decode cX2_sign 33 = .ok (.iload_n 3, 1) := by decide +kernel
theorem dX2_sign_34 : decode cX2_sign 34 = .ok (.iload_n 1, 1) := by decide +kernel
theorem dX2_sign_35 : decode cX2_sign 35 = .ok (.iload_n 2, 1) := by decide +kernel
theorem dX2_sign_36 : decode cX2_sign 36 = .ok (.invokestatic 48, 3) := by decide +kernel
theorem dX2_sign_39 : decode cX2_sign 39 = .ok (.ifCond .ne 7, 3) := by decide +kernel
theorem dX2_sign_42 : decode cX2_sign 42 = .ok (.iconst 1, 1) := by decide +kernel
theorem dX2_sign_43 : decode cX2_sign 43 = .ok (.goto 4, 3) := by decide +kernel
theorem dX2_sign_46 : decode cX2_sign 46 = .ok (.iconst 0, 1) := by decide +kernel
theorem dX2_sign_47 : decode cX2_sign 47 = .ok (.putfield 170, 3) := by decide +kernel
theorem dX2_sign_50 : decode cX2_sign 50 = .ok (.aload_n 0, 1) := by decide +kernel
theorem dX2_sign_51 : decode cX2_sign 51 = .ok (.dup, 1) := by decide +kernel
theorem dX2_sign_52 : decode cX2_sign 52 = .ok (.getfield 167, 3) := by decide +kernel
theorem dX2_sign_55 : decode cX2_sign 55 = .ok (.aload_n 0, 1) := by decide +kernel
theorem dX2_sign_56 : decode cX2_sign 56 = .ok (.getfield 170, 3) := by decide +kernel
theorem dX2_sign_59 : decode cX2_sign 59 = .ok (.ifCond .eq 7, 3) := by decide +kernel
theorem dX2_sign_62 : decode cX2_sign 62 = .ok (.iconst 0, 1) := by decide +kernel
theorem dX2_sign_63 : decode cX2_sign 63 = .ok (.goto 4, 3) := by decide +kernel
theorem dX2_sign_66 : decode cX2_sign 66 = .ok (.iconst 1, 1) := by decide +kernel
theorem dX2_sign_67 : decode cX2_sign 67 = .ok (.iadd, 1) := by decide +kernel
theorem dX2_sign_68 : decode cX2_sign 68 = .ok (.putfield 167, 3) := by decide +kernel
theorem dX2_sign_71 : decode cX2_sign 71 = .ok (.iload_n 3, 1) := by decide +kernel
theorem dX2_sign_72 : decode cX2_sign 72 = .ok (.ireturn, 1) := by decide +kernel
theorem dX2_read_0 : decode cX2_read 0 = .ok (.aload_n 0, 1) := by decide +kernel
theorem dX2_read_1 : decode cX2_read 1 = .ok (.getfield 167, 3) := by decide +kernel
theorem dX2_read_4 : decode cX2_read 4 = .ok (.aload_n 0, 1) := by decide +kernel
theorem dX2_read_5 : decode cX2_read 5 = .ok (.getfield 163, 3) := by decide +kernel
theorem dX2_read_8 : decode cX2_read 8 = .ok (.if_icmp .ge 15, 3) := by decide +kernel
theorem dX2_read_11 : decode cX2_read 11 = .ok (.aload_n 0, 1) := by decide +kernel
theorem dX2_read_12 : decode cX2_read 12 = .ok (.getfield 19, 3) := by decide +kernel
theorem dX2_read_15 : decode cX2_read 15 = .ok (.aload_n 0, 1) := by decide +kernel
theorem dX2_read_16 : decode cX2_read 16 = .ok (.getfield 167, 3) := by decide +kernel
theorem dX2_read_19 : decode cX2_read 19 = .ok (.iaload, 1) := by decide +kernel
theorem dX2_read_20 : decode cX2_read 20 = .ok (.goto 4, 3) := by decide +kernel
theorem dX2_read_23 : decode cX2_read 23 = .ok (.iconst 0, 1) := by decide +kernel
theorem dX2_read_24 : decode cX2_read 24 = .ok (.istore_n 1, 1) := by decide +kernel
theorem dX2_read_25 : decode cX2_read 25 = .ok (.aload_n 0, 1) := by decide +kernel
theorem dX2_read_26 : decode cX2_read 26 = .ok (.iload_n 1, 1) := by decide +kernel
theorem dX2_read_27 : decode cX2_read 27 = .ok (.bipush 112, 2) := by decide +kernel
theorem dX2_read_29 : decode cX2_read 29 = .ok (.if_icmp .eq 31, 3) := by decide +kernel
theorem dX2_read_32 : decode cX2_read 32 = .ok (.iload_n 1, 1) := by decide +kernel
theorem dX2_read_33 : decode cX2_read 33 = .ok (.bipush 98, 2) := by decide +kernel
theorem dX2_read_35 : decode cX2_read 35 = .ok (.if_icmp .eq 25, 3) := by decide +kernel
theorem dX2_read_38 : decode cX2_read 38 = .ok (.iload_n 1, 1) := by decide +kernel
theorem dX2_read_39 : decode cX2_read 39 = .ok (.bipush 120, 2) := by decide +kernel
theorem dX2_read_41 : decode cX2_read 41 = .ok (.if_icmp .eq 19, 3) := by decide +kernel
theorem dX2_read_44 : decode cX2_read 44 = .ok (.iload_n 1, 1) := by decide +kernel
theorem dX2_read_45 : decode cX2_read 45 = .ok (.bipush 101, 2) := by decide +kernel
theorem dX2_read_47 : decode cX2_read 47 = .ok (.if_icmp .eq 13, 3) := by decide +kernel
theorem dX2_read_50 : decode cX2_read 50 = .ok (.iload_n 1, 1) := by decide +kernel
theorem dX2_read_51 : decode cX2_read 51 = .ok (.bipush 103, 2) := by decide +kernel
theorem dX2_read_53 : decode cX2_read 53 = .ok (.if_icmp .eq 7, 3) := by decide +kernel
theorem dX2_read_56 : decode cX2_read 56 = .ok (.iconst 1, 1) := by decide +kernel
theorem dX2_read_57 : decode cX2_read 57 = .ok (.goto 4, 3) := by decide +kernel
theorem dX2_read_60 : decode cX2_read 60 = .ok (.iconst 0, 1) := by decide +kernel
theorem dX2_read_61 : decode cX2_read 61 = .ok (.putfield 170, 3) := by decide +kernel
theorem dX2_read_64 : decode cX2_read 64 = .ok (.aload_n 0, 1) := by decide +kernel
theorem dX2_read_65 : decode cX2_read 65 = .ok (.dup, 1) := by decide +kernel
theorem dX2_read_66 : decode cX2_read 66 = .ok (.getfield 167, 3) := by decide +kernel
theorem dX2_read_69 : decode cX2_read 69 = .ok (.aload_n 0, 1) := by decide +kernel
theorem dX2_read_70 : decode cX2_read 70 = .ok (.getfield 170, 3) := by decide +kernel
theorem dX2_read_73 : decode cX2_read 73 = .ok (.ifCond .eq 7, 3) := by decide +kernel
theorem dX2_read_76 : decode cX2_read 76 = .ok (.iconst 0, 1) := by decide +kernel
theorem dX2_read_77 : decode cX2_read 77 = .ok (.goto 4, 3) := by decide +kernel
theorem dX2_read_80 : decode cX2_read 80 = .ok (.iconst 1, 1) := by decide +kernel
theorem dX2_read_81 : decode cX2_read 81 = .ok (.iadd, 1) := by decide +kernel
theorem dX2_read_82 : decode cX2_read 82 = .ok (.putfield 167, 3) := by decide +kernel
theorem dX2_read_85 : decode cX2_read 85 = .ok (.aload_n 0, 1) := by decide +kernel
theorem dX2_read_86 : decode cX2_read 86 = .ok (.iload_n 1, 1) := by decide +kernel
theorem dX2_read_87 : decode cX2_read 87 = .ok (.putfield 174, 3) := by decide +kernel
theorem dX2_read_90 : decode cX2_read 90 = .ok (.aload_n 0, 1) := by decide +kernel
theorem dX2_read_91 : decode cX2_read 91 = .ok (.iconst 0, 1) := by decide +kernel
theorem dX2_read_92 : decode cX2_read 92 = .ok (.putfield 177, 3) := by decide +kernel
theorem dX2_read_95 : decode cX2_read 95 = .ok (.aload_n 0, 1) := by decide +kernel
theorem dX2_read_96 : decode cX2_read 96 = .ok (.getfield 170, 3) := by decide +kernel
theorem dX2_read_99 : decode cX2_read 99 = .ok (.ifCond .ne 101, 3) := by decide +kernel
theorem dX2_read_102 : decode cX2_read 102 = .ok (.iload_n 1, 1) := by decide +kernel
theorem dX2_read_103 : decode cX2_read 103 = .ok (.bipush 101, 2) := by decide +kernel
theorem dX2_read_105 : decode cX2_read 105 = .ok (.if_icmp .eq 95, 3) := by decide +kernel
theorem dX2_read_108 : decode cX2_read 108 = .ok (.aload_n 0, 1) := by decide +kernel
theorem dX2_read_109 : decode cX2_read 109 = .ok (.aload_n 0, 1) := by decide +kernel
theorem dX2_read_110 : decode cX2_read 110 = .ok (.bipush 48, 2) := by decide +kernel
theorem dX2_read_112 : decode cX2_read 112 = .ok (.bipush 57, 2) := by decide +kernel
theorem dX2_read_114 : decode cX2_read 114 = .ok (.invokevirtual 180, 3) := by decide +kernel
theorem dX2_read_117 : decode cX2_read 117 = .ok (.bipush 48, 2) := by decide +kernel
theorem dX2_read_119 : decode cX2_read 119 = .ok (.isub, 1) := by decide +kernel
theorem dX2_read_120 : decode cX2_read 120 = .ok (.putfield 177, 3) := by decide +kernel
theorem dX2_read_123 : decode cX2_read 123 = .ok (.aload_n 0, 1) := by decide +kernel
theorem dX2_read_124 : decode cX2_read 124 = .ok (.getfield 170, 3) := by decide +kernel
theorem dX2_read_127 : decode cX2_read 127 = .ok (.ifCond .ne 37, 3) := by decide +kernel
theorem dX2_read_130 : decode cX2_read 130 = .ok (.aload_n 0, 1) := by decide +kernel
theorem dX2_read_131 : decode cX2_read 131 = .ok (.getfield 167, 3) := by decide +kernel
theorem dX2_read_134 : decode cX2_read 134 = .ok (.aload_n 0, 1) := by decide +kernel
theorem dX2_read_135 : decode cX2_read 135 = .ok (.getfield 163, 3) := by decide +kernel
theorem dX2_read_138 : decode cX2_read 138 = .ok (.if_icmp .ge 26, 3) := by decide +kernel
theorem dX2_read_141 : decode cX2_read 141 = .ok (.aload_n 0, 1) := by decide +kernel
theorem dX2_read_142 : decode cX2_read 142 = .ok (.getfield 19, 3) := by decide +kernel
theorem dX2_read_145 : decode cX2_read 145 = .ok (.aload_n 0, 1) := by decide +kernel
theorem dX2_read_146 : decode cX2_read 146 = .ok (.getfield 167, 3) := by decide +kernel
theorem dX2_read_149 : decode cX2_read 149 = .ok (.iaload, 1) := by decide +kernel
theorem dX2_read_150 : decode cX2_read 150 = .ok (.bipush 48, 2) := by decide +kernel
theorem dX2_read_152 : decode cX2_read 152 = .ok (.bipush 57, 2) := by decide +kernel
theorem dX2_read_154 : decode cX2_read 154 = .ok (.invokestatic 48, 3) := by decide +kernel
theorem dX2_read_157 : decode cX2_read 157 = .ok (.ifCond .eq 7, 3) := by decide +kernel
theorem dX2_read_160 : decode cX2_read 160 = .ok (.iconst 1, 1) := by decide +kernel
theorem dX2_read_161 : decode cX2_read 161 = .ok (.goto 4, 3) := by decide +kernel
theorem dX2_read_164 : decode cX2_read 164 = .ok (.iconst 0, 1) := by decide +kernel
theorem dX2_read_165 : decode cX2_read 165 = .ok (.istore_n 2, 1) := by decide +kernel
theorem dX2_read_166 : decode cX2_read 166 = .ok (.aload_n 0, 1) := by decide +kernel
theorem dX2_read_167 : decode cX2_read 167 = .ok (.iload_n 2, 1) := by decide +kernel
theorem dX2_read_168 : decode cX2_read 168 = .ok (.ifCond .eq 25, 3) := by decide +kernel
theorem dX2_read_171 : decode cX2_read 171 = .ok (.bipush 10, 2) := by decide +kernel
theorem dX2_read_173 : decode cX2_read 173 = .ok (.aload_n 0, 1) := by decide +kernel
theorem dX2_read_174 : decode cX2_read 174 = .ok (.getfield 177, 3) := by decide +kernel
theorem dX2_read_177 : decode cX2_read 177 = .ok (.imul, 1) := by decide +kernel
theorem dX2_read_178 : decode cX2_read 178 = .ok (.aload_n 0, 1) := by decide +kernel
theorem dX2_read_179 : decode cX2_read 179 = .ok (.bipush 48, 2) := by decide +kernel
theorem dX2_read_181 : decode cX2_read 181 = .ok (.bipush 57, 2) := by decide +kernel
theorem dX2_read_183 : decode cX2_read 183 = .ok (.invokevirtual 180, 3) := by decide +kernel
theorem dX2_read_186 : decode cX2_read 186 = .ok (.iadd, 1) := by decide +kernel
theorem dX2_read_187 : decode cX2_read 187 = .ok (.bipush 48, 2) := by decide +kernel
theorem dX2_read_189 : decode cX2_read 189 = .ok (.isub, 1) := by decide +kernel
theorem dX2_read_190 : decode cX2_read 190 = .ok (.goto 7, 3) := by decide +kernel
theorem dX2_read_193 : decode cX2_read 193 = .ok (.aload_n 0, 1) := by decide +kernel
theorem dX2_read_194 : decode cX2_read 194 = .ok (.getfield 177, 3) := by decide +kernel
theorem dX2_read_197 : decode cX2_read 197 = .ok (.putfield 177, 3) := by decide +kernel
theorem dX2_read_200 : decode cX2_read 200 = .ok (.aload_n 0, 1) := by decide +kernel
theorem dX2_read_201 : decode cX2_read 201 = .ok (.bipush 59, 2) := by decide +kernel
theorem dX2_read_203 : decode cX2_read 203 = .ok (.bipush 59, 2) := by decide +kernel
theorem dX2_read_205 : decode cX2_read 205 = .ok (.invokevirtual 180, 3) := by decide +kernel
theorem dX2_read_208 : decode cX2_read 208 = .ok (.istore_n 2, 1) := by decide +kernel
theorem dX2_read_209 : decode cX2_read 209 = .ok (.return_, 1) := by decide +kernel
theorem dX2_does_0 : decode cX2_does 0 = .ok (.aload_n 0, 1) := by decide +kernel
theorem dX2_does_1 : decode cX2_does 1 = .ok (.getfield 174, 3) := by decide +kernel
theorem dX2_does_4 : decode cX2_does 4 = .ok (.bipush 112, 2) := by decide +kernel
theorem dX2_does_6 : decode cX2_does 6 = .ok (.if_icmp .ne 14, 3) := by decide +kernel
theorem dX2_does_9 : decode cX2_does 9 = .ok (.aload_n 0, 1) := by decide +kernel
theorem dX2_does_10 : decode cX2_does 10 = .ok (.aload_n 0, 1) := by decide +kernel
theorem dX2_does_11 : decode cX2_does 11 = .ok (.getfield 177, 3) := by decide +kernel
theorem dX2_does_14 : decode cX2_does 14 = .ok (.invokevirtual 109, 3) := by decide +kernel
theorem dX2_does_17 : decode cX2_does 17 = .ok (.goto 90, 3) := by decide +kernel
theorem dX2_does_20 : decode cX2_does 20 = .ok (.aload_n 0, 1) := by decide +kernel
theorem dX2_does_21 : decode cX2_does 21 = .ok (.getfield 174, 3) := by decide +kernel
theorem dX2_does_24 : decode cX2_does 24 = .ok (.bipush 98, 2) := by decide +kernel
theorem dX2_does_26 : decode cX2_does 26 = .ok (.if_icmp .ne 14, 3) := by decide +kernel
theorem dX2_does_29 : decode cX2_does 29 = .ok (.aload_n 0, 1) := by decide +kernel
theorem dX2_does_30 : decode cX2_does 30 = .ok (.aload_n 0, 1) := by decide +kernel
theorem dX2_does_31 : decode cX2_does 31 = .ok (.getfield 177, 3) := by decide +kernel
theorem dX2_does_34 : decode cX2_does 34 = .ok (.invokevirtual 112, 3) := by decide +kernel
theorem dX2_does_37 : decode cX2_does 37 = .ok (.goto 70, 3) := by decide +kernel
theorem dX2_does_40 : decode cX2_does 40 = .ok (.aload_n 0, 1) := by decide +kernel
theorem dX2_does_41 : decode cX2_does 41 = .ok (.getfield 174, 3) := by decide +kernel
theorem dX2_does_44 : decode cX2_does 44 = .ok (.bipush 120, 2) := by decide +kernel
theorem dX2_does_46 : decode cX2_does 46 = .ok (.if_icmp .ne 14, 3) := by decide +kernel
theorem dX2_does_49 : decode cX2_does 49 = .ok (.aload_n 0, 1) := by decide +kernel
theorem dX2_does_50 : decode cX2_does 50 = .ok (.aload_n 0, 1) := by decide +kernel
theorem dX2_does_51 : decode cX2_does 51 = .ok (.getfield 177, 3) := by decide +kernel
theorem dX2_does_54 : decode cX2_does 54 = .ok (.invokevirtual 115, 3) := by decide +kernel
theorem dX2_does_57 : decode cX2_does 57 = .ok (.goto 50, 3) := by decide +kernel
theorem dX2_does_60 : decode cX2_does 60 = .ok (.aload_n 0, 1) := by decide +kernel
theorem dX2_does_61 : decode cX2_does 61 = .ok (.getfield 174, 3) := by decide +kernel
theorem dX2_does_64 : decode cX2_does 64 = .ok (.bipush 103, 2) := by decide +kernel
theorem dX2_does_66 : decode cX2_does 66 = .ok (.if_icmp .ne 24, 3) := by decide +kernel
theorem dX2_does_69 : decode cX2_does 69 = .ok (.aload_n 0, 1) := by decide +kernel
theorem dX2_does_70 : decode cX2_does 70 = .ok (.getfield 177, 3) := by decide +kernel
theorem dX2_does_73 : decode cX2_does 73 = .ok (.iconst 2, 1) := by decide +kernel
theorem dX2_does_74 : decode cX2_does 74 = .ok (.iconst 4, 1) := by decide +kernel
theorem dX2_does_75 : decode cX2_does 75 = .ok (.invokestatic 48, 3) := by decide +kernel
theorem dX2_does_78 : decode cX2_does 78 = .ok (.ifCond .eq 7, 3) := by decide +kernel
theorem dX2_does_81 : decode cX2_does 81 = .ok (.iconst 0, 1) := by decide +kernel
theorem dX2_does_82 : decode cX2_does 82 = .ok (.goto 25, 3) := by decide +kernel
theorem dX2_does_85 : decode cX2_does 85 = .ok (.ldc 63, 2) := by decide +kernel
theorem dX2_does_87 : decode cX2_does 87 = .ok (.goto 20, 3) := by decide +kernel
theorem dX2_does_90 : decode cX2_does 90 = .ok (.aload_n 0, 1) := by decide +kernel
theorem dX2_does_91 : decode cX2_does 91 = .ok (.getfield 7, 3) := by decide +kernel
theorem dX2_does_94 : decode cX2_does 94 = .ok (.bipush 8, 2) := by decide +kernel
theorem dX2_does_96 : decode cX2_does 96 = .ok (.iaload, 1) := by decide +kernel
theorem dX2_does_97 : decode cX2_does 97 = .ok (.iconst 1, 1) := by decide +kernel
theorem dX2_does_98 : decode cX2_does 98 = .ok (.if_icmp .ne 8, 3) := by decide +kernel
theorem dX2_does_101 : decode cX2_does 101 = .ok (.ldc 67, 2) := by decide +kernel
theorem dX2_does_103 : decode cX2_does 103 = .ok (.goto 4, 3) := by decide +kernel
theorem dX2_does_106 : decode cX2_does 106 = .ok (.iconst 0, 1) := by decide +kernel
theorem dX2_does_107 : decode cX2_does 107 = .ok (.istore_n 1, 1) := by decide +kernel
theorem dX2_does_108 : decode cX2_does 108 = .ok (.iload_n 1, 1) := by decide +kernel
theorem dX2_does_109 : decode cX2_does 109 = .ok (.ifCond .ne 88, 3) := by decide +kernel
theorem dX2_does_112 : decode cX2_does 112 = .ok (.aload_n 0, 1) := by decide +kernel
theorem dX2_does_113 : decode cX2_does 113 = .ok (.getfield 174, 3) := by decide +kernel
theorem dX2_does_116 : decode cX2_does 116 = .ok (.bipush 112, 2) := by decide +kernel
theorem dX2_does_118 : decode cX2_does 118 = .ok (.if_icmp .ne 14, 3) := by decide +kernel
theorem dX2_does_121 : decode cX2_does 121 = .ok (.aload_n 0, 1) := by decide +kernel
theorem dX2_does_122 : decode cX2_does 122 = .ok (.aload_n 0, 1) := by decide +kernel
theorem dX2_does_123 : decode cX2_does 123 = .ok (.getfield 177, 3) := by decide +kernel
theorem dX2_does_126 : decode cX2_does 126 = .ok (.invokevirtual 91, 3) := by decide +kernel
theorem dX2_does_129 : decode cX2_does 129 = .ok (.goto 67, 3) := by decide +kernel
theorem dX2_does_132 : decode cX2_does 132 = .ok (.aload_n 0, 1) := by decide +kernel
theorem dX2_does_133 : decode cX2_does 133 = .ok (.getfield 174, 3) := by decide +kernel
theorem dX2_does_136 : decode cX2_does 136 = .ok (.bipush 98, 2) := by decide +kernel
theorem dX2_does_138 : decode cX2_does 138 = .ok (.if_icmp .ne 14, 3) := by decide +kernel
theorem dX2_does_141 : decode cX2_does 141 = .ok (.aload_n 0, 1) := by decide +kernel
theorem dX2_does_142 : decode cX2_does 142 = .ok (.aload_n 0, 1) := by decide +kernel
theorem dX2_does_143 : decode cX2_does 143 = .ok (.getfield 177, 3) := by decide +kernel
theorem dX2_does_146 : decode cX2_does 146 = .ok (.invokevirtual 97, 3) := by decide +kernel
theorem dX2_does_149 : decode cX2_does 149 = .ok (.goto 47, 3) := by decide +kernel
theorem dX2_does_152 : decode cX2_does 152 = .ok (.aload_n 0, 1) := by decide +kernel
theorem dX2_does_153 : decode cX2_does 153 = .ok (.getfield 174, 3) := by decide +kernel
theorem dX2_does_156 : decode cX2_does 156 = .ok (.bipush 120, 2) := by decide +kernel
theorem dX2_does_158 : decode cX2_does 158 = .ok (.if_icmp .ne 14, 3) := by decide +kernel
theorem dX2_does_161 : decode cX2_does 161 = .ok (.aload_n 0, 1) := by decide +kernel
theorem dX2_does_162 : decode cX2_does 162 = .ok (.aload_n 0, 1) := by decide +kernel
theorem dX2_does_163 : decode cX2_does 163 = .ok (.getfield 177, 3) := by decide +kernel
theorem dX2_does_166 : decode cX2_does 166 = .ok (.invokevirtual 118, 3) := by decide +kernel
theorem dX2_does_169 : decode cX2_does 169 = .ok (.goto 27, 3) := by decide +kernel
theorem dX2_does_172 : decode cX2_does 172 = .ok (.aload_n 0, 1) := by decide +kernel
theorem dX2_does_173 : decode cX2_does 173 = .ok (.getfield 174, 3) := by decide +kernel
theorem dX2_does_176 : decode cX2_does 176 = .ok (.bipush 103, 2) := by decide +kernel
theorem dX2_does_178 : decode cX2_does 178 = .ok (.if_icmp .ne 14, 3) := by decide +kernel
theorem dX2_does_181 : decode cX2_does 181 = .ok (.aload_n 0, 1) := by decide +kernel
theorem dX2_does_182 : decode cX2_does 182 = .ok (.aload_n 0, 1) := by decide +kernel
theorem dX2_does_183 : decode cX2_does 183 = .ok (.getfield 177, 3) := by decide +kernel
theorem dX2_does_186 : decode cX2_does 186 = .ok (.invokevirtual 22, 3) := by decide +kernel
theorem dX2_does_189 : decode cX2_does 189 = .ok (.goto 7, 3) := by decide +kernel
theorem dX2_does_192 : decode cX2_does 192 = .ok (.aload_n 0, 1) := by decide +kernel
theorem dX2_does_193 : decode cX2_does 193 = .ok (.invokevirtual 100, 3) := by decide +kernel
theorem dX2_does_196 : decode cX2_does 196 = .ok (.istore_n 2, 1) := by decide +kernel
theorem dX2_does_197 : decode cX2_does 197 = .ok (.iload_n 1, 1) := by decide +kernel
theorem dX2_does_198 : decode cX2_does 198 = .ok (.ireturn, 1) := by decide +kernel
theorem dX2_go_0 : decode cX2_go 0 = .ok (.iconst 0, 1) := by decide +kernel
theorem dX2_go_1 : decode cX2_go 1 = .ok (.istore_n 1, 1) := by decide +kernel
theorem dX2_go_2 : decode cX2_go 2 = .ok (.aload_n 0, 1) := by decide +kernel
theorem dX2_go_3 : decode cX2_go 3 = .ok (.iconst 0, 1) := by decide +kernel
theorem dX2_go_4 : decode cX2_go 4 = .ok (.putfield 167, 3) := by decide +kernel
theorem dX2_go_7 : decode cX2_go 7 = .ok (.aload_n 0, 1) := by decide +kernel
theorem dX2_go_8 : decode cX2_go 8 = .ok (.iconst 0, 1) := by decide +kernel
theorem dX2_go_9 : decode cX2_go 9 = .ok (.putfield 183, 3) := by decide +kernel
theorem dX2_go_12 : decode cX2_go 12 = .ok (.aload_n 0, 1) := by decide +kernel
theorem dX2_go_13 : decode cX2_go 13 = .ok (.getfield 167, 3) := by decide +kernel
theorem dX2_go_16 : decode cX2_go 16 = .ok (.aload_n 0, 1) := by decide +kernel
theorem dX2_go_17 : decode cX2_go 17 = .ok (.getfield 163, 3) := by decide +kernel
theorem dX2_go_20 : decode cX2_go 20 = .ok (.if_icmp .ge 82, 3) := by decide +kernel
theorem dX2_go_23 : decode cX2_go 23 = .ok (.aload_n 0, 1) := by decide +kernel
theorem dX2_go_24 : decode cX2_go 24 = .ok (.getfield 183, 3) := by decide +kernel
theorem dX2_go_27 : decode cX2_go 27 = .ok (.ifCond .ne 75, 3) := by decide +kernel
theorem dX2_go_30 : decode cX2_go 30 = .ok (.aload_n 0, 1) := by decide +kernel
theorem dX2_go_31 : decode cX2_go 31 = .ok (.aload_n 0, 1) := by decide +kernel
theorem dX2_go_32 : decode cX2_go 32 = .ok (.getfield 167, 3) := by decide +kernel
theorem dX2_go_35 : decode cX2_go 35 = .ok (.putfield 186, 3) := by decide +kernel
theorem dX2_go_38 : decode cX2_go 38 = .ok (.aload_n 0, 1) := by decide +kernel
theorem dX2_go_39 : decode cX2_go 39 = .ok (.invokevirtual 189, 3) := by decide +kernel
theorem dX2_go_42 : decode cX2_go 42 = .ok (.aload_n 0, 1) := by decide +kernel
theorem dX2_go_43 : decode cX2_go 43 = .ok (.aload_n 0, 1) := by decide +kernel
theorem dX2_go_44 : decode cX2_go 44 = .ok (.getfield 170, 3) := by decide +kernel
theorem dX2_go_47 : decode cX2_go 47 = .ok (.ifCond .eq 15, 3) := by decide +kernel
theorem dX2_go_50 : decode cX2_go 50 = .ok (.aload_n 0, 1) := by decide +kernel
theorem dX2_go_51 : decode cX2_go 51 = .ok (.getfield 167, 3) := by decide +kernel
theorem dX2_go_54 : decode cX2_go 54 = .ok (.aload_n 0, 1) := by decide +kernel
theorem dX2_go_55 : decode cX2_go 55 = .ok (.getfield 186, 3) := by decide +kernel
theorem dX2_go_58 : decode cX2_go 58 = .ok (.isub, 1) := by decide +kernel
theorem dX2_go_59 : decode cX2_go 59 = .ok (.goto 7, 3) := by decide +kernel
theorem dX2_go_62 : decode cX2_go 62 = .ok (.aload_n 0, 1) := by decide +kernel
theorem dX2_go_63 : decode cX2_go 63 = .ok (.invokevirtual 192, 3) := by decide +kernel
theorem dX2_go_66 : decode cX2_go 66 = .ok (.putfield 195, 3) := by decide +kernel
theorem dX2_go_69 : decode cX2_go 69 = .ok (.aload_n 0, 1) := by decide +kernel
theorem dX2_go_70 : decode cX2_go 70 = .ok (.aload_n 0, 1) := by decide +kernel
theorem dX2_go_71 : decode cX2_go 71 = .ok (.getfield 170, 3) := by decide +kernel
theorem dX2_go_74 : decode cX2_go 74 = .ok (.ifCond .eq 7, 3) := by decide +kernel
theorem dX2_go_77 : decode cX2_go 77 = .ok (.iconst 1, 1) := by decide +kernel
theorem dX2_go_78 : decode cX2_go 78 = .ok (.goto 15, 3) := by decide +kernel
theorem dX2_go_81 : decode cX2_go 81 = .ok (.aload_n 0, 1) := by decide +kernel
theorem dX2_go_82 : decode cX2_go 82 = .ok (.getfield 195, 3) := by decide +kernel
theorem dX2_go_85 : decode cX2_go 85 = .ok (.ifCond .ge 7, 3) := by decide +kernel
theorem dX2_go_88 : decode cX2_go 88 = .ok (.iconst 2, 1) := by decide +kernel
theorem dX2_go_89 : decode cX2_go 89 = .ok (.goto 4, 3) := by decide +kernel
theorem dX2_go_92 : decode cX2_go 92 = .ok (.iconst 0, 1) := by decide +kernel
theorem dX2_go_93 : decode cX2_go 93 = .ok (.putfield 183, 3) := by decide +kernel
theorem dX2_go_96 : decode cX2_go 96 = .ok (.iinc 1 1, 3) := by decide +kernel
theorem dX2_go_99 : decode cX2_go 99 = .ok (.goto (-87), 3) := by decide +kernel
theorem dX2_go_102 : decode cX2_go 102 = .ok (.iload_n 1, 1) := by decide +kernel
theorem dX2_go_103 : decode cX2_go 103 = .ok (.ireturn, 1) := by decide +kernel
theorem dX2_look_0 : decode cX2_look 0 = .ok (.aload_n 0, 1) := by decide +kernel
theorem dX2_look_1 : decode cX2_look 1 = .ok (.invokevirtual 141, 3) := by decide +kernel
theorem dX2_look_4 : decode cX2_look 4 = .ok (.aload_n 0, 1) := by decide +kernel
theorem dX2_look_5 : decode cX2_look 5 = .ok (.invokevirtual 198, 3) := by decide +kernel
theorem dX2_look_8 : decode cX2_look 8 = .ok (.istore_n 1, 1) := by decide +kernel
theorem dX2_look_9 : decode cX2_look 9 = .ok (.aload_n 0, 1) := by decide +kernel
theorem dX2_look_10 : decode cX2_look 10 = .ok (.invokevirtual 147, 3) := by decide +kernel
theorem dX2_look_13 : decode cX2_look 13 = .ok (.return_, 1) := by decide +kernel
theorem dX2_fault_0 : decode cX2_fault 0 = .ok (.iload_n 1, 1) := by decide +kernel
theorem dX2_fault_1 : decode cX2_fault 1 = .ok (.iconst 0, 1) := by decide +kernel
theorem dX2_fault_2 : decode cX2_fault 2 = .ok (.iconst 2, 1) := by decide +kernel
theorem dX2_fault_3 : decode cX2_fault 3 = .ok (.invokestatic 48, 3) := by decide +kernel
theorem dX2_fault_6 : decode cX2_fault 6 = .ok (.ifCond .ne 6, 3) := by decide +kernel
theorem dX2_fault_9 : decode cX2_fault 9 = .ok (.ldc 63, 2) := by decide +kernel
theorem dX2_fault_11 : decode cX2_fault 11 = .ok (.ireturn, 1) := by decide +kernel
theorem dX2_fault_12 : decode cX2_fault 12 = .ok (.aload_n 0, 1) := by decide +kernel
theorem dX2_fault_13 : decode cX2_fault 13 = .ok (.invokevirtual 201, 3) := by decide +kernel
theorem dX2_fault_16 : decode cX2_fault 16 = .ok (.aload_n 0, 1) := by decide +kernel
theorem dX2_fault_17 : decode cX2_fault 17 = .ok (.getfield 183, 3) := by decide +kernel
theorem dX2_fault_20 : decode cX2_fault 20 = .ok (.ifCond .ne 8, 3) := by decide +kernel
theorem dX2_fault_23 : decode cX2_fault 23 = .ok (.ldc 127, 2) := by decide +kernel
theorem dX2_fault_25 : decode cX2_fault 25 = .ok (.goto 30, 3) := by decide +kernel
theorem dX2_fault_28 : decode cX2_fault 28 = .ok (.iload_n 1, 1) := by decide +kernel
theorem dX2_fault_29 : decode cX2_fault 29 = .ok (.ifCond .ne 10, 3) := by decide +kernel
theorem dX2_fault_32 : decode cX2_fault 32 = .ok (.aload_n 0, 1) := by decide +kernel
theorem dX2_fault_33 : decode cX2_fault 33 = .ok (.getfield 186, 3) := by decide +kernel
theorem dX2_fault_36 : decode cX2_fault 36 = .ok (.goto 19, 3) := by decide +kernel
theorem dX2_fault_39 : decode cX2_fault 39 = .ok (.iload_n 1, 1) := by decide +kernel
theorem dX2_fault_40 : decode cX2_fault 40 = .ok (.iconst 1, 1) := by decide +kernel
theorem dX2_fault_41 : decode cX2_fault 41 = .ok (.if_icmp .ne 10, 3) := by decide +kernel
theorem dX2_fault_44 : decode cX2_fault 44 = .ok (.aload_n 0, 1) := by decide +kernel
theorem dX2_fault_45 : decode cX2_fault 45 = .ok (.getfield 183, 3) := by decide +kernel
theorem dX2_fault_48 : decode cX2_fault 48 = .ok (.goto 7, 3) := by decide +kernel
theorem dX2_fault_51 : decode cX2_fault 51 = .ok (.aload_n 0, 1) := by decide +kernel
theorem dX2_fault_52 : decode cX2_fault 52 = .ok (.getfield 195, 3) := by decide +kernel
theorem dX2_fault_55 : decode cX2_fault 55 = .ok (.ireturn, 1) := by decide +kernel
theorem dX2_perform_0 : decode cX2_perform 0 = .ok (.aload_n 0, 1) := by decide +kernel
theorem dX2_perform_1 : decode cX2_perform 1 = .ok (.invokevirtual 201, 3) := by decide +kernel
theorem dX2_perform_4 : decode cX2_perform 4 = .ok (.aload_n 0, 1) := by decide +kernel
theorem dX2_perform_5 : decode cX2_perform 5 = .ok (.getfield 183, 3) := by decide +kernel
theorem dX2_perform_8 : decode cX2_perform 8 = .ok (.ifCond .le 6, 3) := by decide +kernel
theorem dX2_perform_11 : decode cX2_perform 11 = .ok (.ldc 67, 2) := by decide +kernel
theorem dX2_perform_13 : decode cX2_perform 13 = .ok (.ireturn, 1) := by decide +kernel
theorem dX2_perform_14 : decode cX2_perform 14 = .ok (.aload_n 0, 1) := by decide +kernel
theorem dX2_perform_15 : decode cX2_perform 15 = .ok (.invokevirtual 106, 3) := by decide +kernel
theorem dX2_perform_18 : decode cX2_perform 18 = .ok (.aload_n 0, 1) := by decide +kernel
theorem dX2_perform_19 : decode cX2_perform 19 = .ok (.invokevirtual 198, 3) := by decide +kernel
theorem dX2_perform_22 : decode cX2_perform 22 = .ok (.ireturn, 1) := by decide +kernel
theorem dJ7_fill_53178_0 : decode cJ7_fill_53178 0 = .ok (.iconst 0, 1) := by decide +kernel
theorem dJ7_fill_53178_1 : decode cJ7_fill_53178 1 = .ok (.istore_n 2, 1) := by decide +kernel
theorem dJ7_fill_53178_2 : decode cJ7_fill_53178 2 = .ok (.aload_n 0, 1) := by decide +kernel
theorem dJ7_fill_53178_3 : decode cJ7_fill_53178 3 = .ok (.arraylength, 1) := by decide +kernel
theorem dJ7_fill_53178_4 : decode cJ7_fill_53178 4 = .ok (.istore_n 3, 1) := by decide +kernel
theorem dJ7_fill_53178_5 : decode cJ7_fill_53178 5 = .ok (.iload_n 2, 1) := by decide +kernel
theorem dJ7_fill_53178_6 : decode cJ7_fill_53178 6 = .ok (.iload_n 3, 1) := by decide +kernel
theorem dJ7_fill_53178_7 : decode cJ7_fill_53178 7 = .ok (.if_icmp .ge 13, 3) := by decide +kernel
theorem dJ7_fill_53178_10 : decode cJ7_fill_53178 10 = .ok (.aload_n 0, 1) := by decide +kernel
theorem dJ7_fill_53178_11 : decode cJ7_fill_53178 11 = .ok (.iload_n 2, 1) := by decide +kernel
theorem dJ7_fill_53178_12 : decode cJ7_fill_53178 12 = .ok (.iload_n 1, 1) := by decide +kernel
theorem dJ7_fill_53178_13 : decode cJ7_fill_53178 13 = .ok (.iastore, 1) := by decide +kernel
theorem dJ7_fill_53178_14 : decode cJ7_fill_53178 14 = .ok (.iinc 2 1, 3) := by decide +kernel
theorem dJ7_fill_53178_17 : decode cJ7_fill_53178 17 = .ok (.goto (-12), 3) := by decide +kernel
theorem dJ7_fill_53178_20 : decode cJ7_fill_53178 20 = .ok (.return_, 1) := by decide +kernel
theorem dL_law_0 : decode cL_law 0 = .ok (.new 7, 3) := by decide +kernel
theorem dL_law_3 : decode cL_law 3 = .ok (.dup, 1) := by decide +kernel
theorem dL_law_4 : decode cL_law 4 = .ok (.invokespecial 9, 3) := by decide +kernel
theorem dL_law_7 : decode cL_law 7 = .ok (.astore_n 1, 1) := by decide +kernel
theorem dL_law_8 : decode cL_law 8 = .ok (.new 10, 3) := by decide +kernel
theorem dL_law_11 : decode cL_law 11 = .ok (.dup, 1) := by decide +kernel
theorem dL_law_12 : decode cL_law 12 = .ok (.invokespecial 12, 3) := by decide +kernel
theorem dL_law_15 : decode cL_law 15 = .ok (.astore_n 2, 1) := by decide +kernel
theorem dL_law_16 : decode cL_law 16 = .ok (.iconst 0, 1) := by decide +kernel
theorem dL_law_17 : decode cL_law 17 = .ok (.istore_n 3, 1) := by decide +kernel
theorem dL_law_18 : decode cL_law 18 = .ok (.iload_n 3, 1) := by decide +kernel
theorem dL_law_19 : decode cL_law 19 = .ok (.aload_n 0, 1) := by decide +kernel
theorem dL_law_20 : decode cL_law 20 = .ok (.arraylength, 1) := by decide +kernel
theorem dL_law_21 : decode cL_law 21 = .ok (.iconst 4, 1) := by decide +kernel
theorem dL_law_22 : decode cL_law 22 = .ok (.isub, 1) := by decide +kernel
theorem dL_law_23 : decode cL_law 23 = .ok (.if_icmp .gt 635, 3) := by decide +kernel
theorem dL_law_26 : decode cL_law 26 = .ok (.aload_n 0, 1) := by decide +kernel
theorem dL_law_27 : decode cL_law 27 = .ok (.iload_n 3, 1) := by decide +kernel
theorem dL_law_28 : decode cL_law 28 = .ok (.iaload, 1) := by decide +kernel
theorem dL_law_29 : decode cL_law 29 = .ok (.bipush 31, 2) := by decide +kernel
theorem dL_law_31 : decode cL_law 31 = .ok (.iand, 1) := by decide +kernel
theorem dL_law_32 : decode cL_law 32 = .ok (.tableswitch 620 0 21 #[104, 127, 150, 173, 196, 209, 232, 265, 308, 351, 374, 407, 430, 443, 466, 489, 512, 535, 548, 571, 584, 607], 104) := by decide +kernel
theorem dL_law_136 : decode cL_law 136 = .ok (.aload_n 1, 1) := by decide +kernel
theorem dL_law_137 : decode cL_law 137 = .ok (.aload_n 0, 1) := by decide +kernel
theorem dL_law_138 : decode cL_law 138 = .ok (.iload_n 3, 1) := by decide +kernel
theorem dL_law_139 : decode cL_law 139 = .ok (.iconst 1, 1) := by decide +kernel
theorem dL_law_140 : decode cL_law 140 = .ok (.iadd, 1) := by decide +kernel
theorem dL_law_141 : decode cL_law 141 = .ok (.iaload, 1) := by decide +kernel
theorem dL_law_142 : decode cL_law 142 = .ok (.invokevirtual 13, 3) := by decide +kernel
theorem dL_law_145 : decode cL_law 145 = .ok (.aload_n 2, 1) := by decide +kernel
theorem dL_law_146 : decode cL_law 146 = .ok (.aload_n 0, 1) := by decide +kernel
theorem dL_law_147 : decode cL_law 147 = .ok (.iload_n 3, 1) := by decide +kernel
theorem dL_law_148 : decode cL_law 148 = .ok (.iconst 1, 1) := by decide +kernel
theorem dL_law_149 : decode cL_law 149 = .ok (.iadd, 1) := by decide +kernel
theorem dL_law_150 : decode cL_law 150 = .ok (.iaload, 1) := by decide +kernel
theorem dL_law_151 : decode cL_law 151 = .ok (.invokevirtual 17, 3) := by decide +kernel
theorem dL_law_154 : decode cL_law 154 = .ok (.if_icmp .eq 498, 3) := by decide +kernel
theorem dL_law_157 : decode cL_law 157 = .ok (.iconst 0, 1) := by decide +kernel
theorem dL_law_158 : decode cL_law 158 = .ok (.ireturn, 1) := by decide +kernel
theorem dL_law_159 : decode cL_law 159 = .ok (.aload_n 1, 1) := by decide +kernel
theorem dL_law_160 : decode cL_law 160 = .ok (.aload_n 0, 1) := by decide +kernel
theorem dL_law_161 : decode cL_law 161 = .ok (.iload_n 3, 1) := by decide +kernel
theorem dL_law_162 : decode cL_law 162 = .ok (.iconst 1, 1) := by decide +kernel
theorem dL_law_163 : decode cL_law 163 = .ok (.iadd, 1) := by decide +kernel
theorem dL_law_164 : decode cL_law 164 = .ok (.iaload, 1) := by decide +kernel
theorem dL_law_165 : decode cL_law 165 = .ok (.invokevirtual 18, 3) := by decide +kernel
theorem dL_law_168 : decode cL_law 168 = .ok (.aload_n 2, 1) := by decide +kernel
theorem dL_law_169 : decode cL_law 169 = .ok (.aload_n 0, 1) := by decide +kernel
theorem dL_law_170 : decode cL_law 170 = .ok (.iload_n 3, 1) := by decide +kernel
theorem dL_law_171 : decode cL_law 171 = .ok (.iconst 1, 1) := by decide +kernel
theorem dL_law_172 : decode cL_law 172 = .ok (.iadd, 1) := by decide +kernel
theorem dL_law_173 : decode cL_law 173 = .ok (.iaload, 1) := by decide +kernel
theorem dL_law_174 : decode cL_law 174 = .ok (.invokevirtual 21, 3) := by decide +kernel
theorem dL_law_177 : decode cL_law 177 = .ok (.if_icmp .eq 475, 3) := by decide +kernel
theorem dL_law_180 : decode cL_law 180 = .ok (.iconst 0, 1) := by decide +kernel
theorem dL_law_181 : decode cL_law 181 = .ok (.ireturn, 1) := by decide +kernel
theorem dL_law_182 : decode cL_law 182 = .ok (.aload_n 1, 1) := by decide +kernel
theorem dL_law_183 : decode cL_law 183 = .ok (.aload_n 0, 1) := by decide +kernel
theorem dL_law_184 : decode cL_law 184 = .ok (.iload_n 3, 1) := by decide +kernel
theorem dL_law_185 : decode cL_law 185 = .ok (.iconst 1, 1) := by decide +kernel
theorem dL_law_186 : decode cL_law 186 = .ok (.iadd, 1) := by decide +kernel
theorem dL_law_187 : decode cL_law 187 = .ok (.iaload, 1) := by decide +kernel
theorem dL_law_188 : decode cL_law 188 = .ok (.invokevirtual 22, 3) := by decide +kernel
theorem dL_law_191 : decode cL_law 191 = .ok (.aload_n 2, 1) := by decide +kernel
theorem dL_law_192 : decode cL_law 192 = .ok (.aload_n 0, 1) := by decide +kernel
theorem dL_law_193 : decode cL_law 193 = .ok (.iload_n 3, 1) := by decide +kernel
theorem dL_law_194 : decode cL_law 194 = .ok (.iconst 1, 1) := by decide +kernel
theorem dL_law_195 : decode cL_law 195 = .ok (.iadd, 1) := by decide +kernel
theorem dL_law_196 : decode cL_law 196 = .ok (.iaload, 1) := by decide +kernel
theorem dL_law_197 : decode cL_law 197 = .ok (.invokevirtual 25, 3) := by decide +kernel
theorem dL_law_200 : decode cL_law 200 = .ok (.if_icmp .eq 452, 3) := by decide +kernel
theorem dL_law_203 : decode cL_law 203 = .ok (.iconst 0, 1) := by decide +kernel
theorem dL_law_204 : decode cL_law 204 = .ok (.ireturn, 1) := by decide +kernel
theorem dL_law_205 : decode cL_law 205 = .ok (.aload_n 1, 1) := by decide +kernel
theorem dL_law_206 : decode cL_law 206 = .ok (.aload_n 0, 1) := by decide +kernel
theorem dL_law_207 : decode cL_law 207 = .ok (.iload_n 3, 1) := by decide +kernel
theorem dL_law_208 : decode cL_law 208 = .ok (.iconst 1, 1) := by decide +kernel
theorem dL_law_209 : decode cL_law 209 = .ok (.iadd, 1) := by decide +kernel
theorem dL_law_210 : decode cL_law 210 = .ok (.iaload, 1) := by decide +kernel
theorem dL_law_211 : decode cL_law 211 = .ok (.invokevirtual 26, 3) := by decide +kernel
theorem dL_law_214 : decode cL_law 214 = .ok (.aload_n 2, 1) := by decide +kernel
theorem dL_law_215 : decode cL_law 215 = .ok (.aload_n 0, 1) := by decide +kernel
theorem dL_law_216 : decode cL_law 216 = .ok (.iload_n 3, 1) := by decide +kernel
theorem dL_law_217 : decode cL_law 217 = .ok (.iconst 1, 1) := by decide +kernel
theorem dL_law_218 : decode cL_law 218 = .ok (.iadd, 1) := by decide +kernel
theorem dL_law_219 : decode cL_law 219 = .ok (.iaload, 1) := by decide +kernel
theorem dL_law_220 : decode cL_law 220 = .ok (.invokevirtual 29, 3) := by decide +kernel
theorem dL_law_223 : decode cL_law 223 = .ok (.if_icmp .eq 429, 3) := by decide +kernel
theorem dL_law_226 : decode cL_law 226 = .ok (.iconst 0, 1) := by decide +kernel
theorem dL_law_227 : decode cL_law 227 = .ok (.ireturn, 1) := by decide +kernel
theorem dL_law_228 : decode cL_law 228 = .ok (.aload_n 1, 1) := by decide +kernel
theorem dL_law_229 : decode cL_law 229 = .ok (.invokevirtual 30, 3) := by decide +kernel
theorem dL_law_232 : decode cL_law 232 = .ok (.aload_n 2, 1) := by decide +kernel
theorem dL_law_233 : decode cL_law 233 = .ok (.invokevirtual 34, 3) := by decide +kernel
theorem dL_law_236 : decode cL_law 236 = .ok (.if_icmp .eq 416, 3) := by decide +kernel
theorem dL_law_239 : decode cL_law 239 = .ok (.iconst 0, 1) := by decide +kernel
theorem dL_law_240 : decode cL_law 240 = .ok (.ireturn, 1) := by decide +kernel
theorem dL_law_241 : decode cL_law 241 = .ok (.aload_n 1, 1) := by decide +kernel
theorem dL_law_242 : decode cL_law 242 = .ok (.aload_n 0, 1) := by decide +kernel
theorem dL_law_243 : decode cL_law 243 = .ok (.iload_n 3, 1) := by decide +kernel
theorem dL_law_244 : decode cL_law 244 = .ok (.iconst 1, 1) := by decide +kernel
theorem dL_law_245 : decode cL_law 245 = .ok (.iadd, 1) := by decide +kernel
theorem dL_law_246 : decode cL_law 246 = .ok (.iaload, 1) := by decide +kernel
theorem dL_law_247 : decode cL_law 247 = .ok (.invokevirtual 35, 3) := by decide +kernel
theorem dL_law_250 : decode cL_law 250 = .ok (.aload_n 2, 1) := by decide +kernel
theorem dL_law_251 : decode cL_law 251 = .ok (.aload_n 0, 1) := by decide +kernel
theorem dL_law_252 : decode cL_law 252 = .ok (.iload_n 3, 1) := by decide +kernel
theorem dL_law_253 : decode cL_law 253 = .ok (.iconst 1, 1) := by decide +kernel
theorem dL_law_254 : decode cL_law 254 = .ok (.iadd, 1) := by decide +kernel
theorem dL_law_255 : decode cL_law 255 = .ok (.iaload, 1) := by decide +kernel
theorem dL_law_256 : decode cL_law 256 = .ok (.invokevirtual 38, 3) := by decide +kernel
theorem dL_law_259 : decode cL_law 259 = .ok (.if_icmp .eq 393, 3) := by decide +kernel
theorem dL_law_262 : decode cL_law 262 = .ok (.iconst 0, 1) := by decide +kernel
theorem dL_law_263 : decode cL_law 263 = .ok (.ireturn, 1) := by decide +kernel
theorem dL_law_264 : decode cL_law 264 = .ok (.aload_n 1, 1) := by decide +kernel
theorem dL_law_265 : decode cL_law 265 = .ok (.aload_n 0, 1) := by decide +kernel
theorem dL_law_266 : decode cL_law 266 = .ok (.iload_n 3, 1) := by decide +kernel
theorem dL_law_267 : decode cL_law 267 = .ok (.iconst 1, 1) := by decide +kernel
theorem dL_law_268 : decode cL_law 268 = .ok (.iadd, 1) := by decide +kernel
theorem dL_law_269 : decode cL_law 269 = .ok (.iaload, 1) := by decide +kernel
theorem dL_law_270 : decode cL_law 270 = .ok (.aload_n 0, 1) := by decide +kernel
theorem dL_law_271 : decode cL_law 271 = .ok (.iload_n 3, 1) := by decide +kernel
theorem dL_law_272 : decode cL_law 272 = .ok (.iconst 2, 1) := by decide +kernel
theorem dL_law_273 : decode cL_law 273 = .ok (.iadd, 1) := by decide +kernel
theorem dL_law_274 : decode cL_law 274 = .ok (.iaload, 1) := by decide +kernel
theorem dL_law_275 : decode cL_law 275 = .ok (.invokevirtual 39, 3) := by decide +kernel
theorem dL_law_278 : decode cL_law 278 = .ok (.aload_n 2, 1) := by decide +kernel
theorem dL_law_279 : decode cL_law 279 = .ok (.aload_n 0, 1) := by decide +kernel
theorem dL_law_280 : decode cL_law 280 = .ok (.iload_n 3, 1) := by decide +kernel
theorem dL_law_281 : decode cL_law 281 = .ok (.iconst 1, 1) := by decide +kernel
theorem dL_law_282 : decode cL_law 282 = .ok (.iadd, 1) := by decide +kernel
theorem dL_law_283 : decode cL_law 283 = .ok (.iaload, 1) := by decide +kernel
theorem dL_law_284 : decode cL_law 284 = .ok (.aload_n 0, 1) := by decide +kernel
theorem dL_law_285 : decode cL_law 285 = .ok (.iload_n 3, 1) := by decide +kernel
theorem dL_law_286 : decode cL_law 286 = .ok (.iconst 2, 1) := by decide +kernel
theorem dL_law_287 : decode cL_law 287 = .ok (.iadd, 1) := by decide +kernel
theorem dL_law_288 : decode cL_law 288 = .ok (.iaload, 1) := by decide +kernel
theorem dL_law_289 : decode cL_law 289 = .ok (.invokevirtual 43, 3) := by decide +kernel
theorem dL_law_292 : decode cL_law 292 = .ok (.if_icmp .eq 360, 3) := by decide +kernel
theorem dL_law_295 : decode cL_law 295 = .ok (.iconst 0, 1) := by decide +kernel
theorem dL_law_296 : decode cL_law 296 = .ok (.ireturn, 1) := by decide +kernel
theorem dL_law_297 : decode cL_law 297 = .ok (.aload_n 1, 1) := by decide +kernel
theorem dL_law_298 : decode cL_law 298 = .ok (.aload_n 0, 1) := by decide +kernel
theorem dL_law_299 : decode cL_law 299 = .ok (.iload_n 3, 1) := by decide +kernel
theorem dL_law_300 : decode cL_law 300 = .ok (.iconst 1, 1) := by decide +kernel
theorem dL_law_301 : decode cL_law 301 = .ok (.iadd, 1) := by decide +kernel
theorem dL_law_302 : decode cL_law 302 = .ok (.iaload, 1) := by decide +kernel
theorem dL_law_303 : decode cL_law 303 = .ok (.aload_n 0, 1) := by decide +kernel
theorem dL_law_304 : decode cL_law 304 = .ok (.iload_n 3, 1) := by decide +kernel
theorem dL_law_305 : decode cL_law 305 = .ok (.iconst 2, 1) := by decide +kernel
theorem dL_law_306 : decode cL_law 306 = .ok (.iadd, 1) := by decide +kernel
theorem dL_law_307 : decode cL_law 307 = .ok (.iaload, 1) := by decide +kernel
theorem dL_law_308 : decode cL_law 308 = .ok (.aload_n 0, 1) := by decide +kernel
theorem dL_law_309 : decode cL_law 309 = .ok (.iload_n 3, 1) := by decide +kernel
theorem dL_law_310 : decode cL_law 310 = .ok (.iconst 3, 1) := by decide +kernel
theorem dL_law_311 : decode cL_law 311 = .ok (.iadd, 1) := by decide +kernel
theorem dL_law_312 : decode cL_law 312 = .ok (.iaload, 1) := by decide +kernel
theorem dL_law_313 : decode cL_law 313 = .ok (.invokevirtual 44, 3) := by decide +kernel
theorem dL_law_316 : decode cL_law 316 = .ok (.aload_n 2, 1) := by decide +kernel
theorem dL_law_317 : decode cL_law 317 = .ok (.aload_n 0, 1) := by decide +kernel
theorem dL_law_318 : decode cL_law 318 = .ok (.iload_n 3, 1) := by decide +kernel
theorem dL_law_319 : decode cL_law 319 = .ok (.iconst 1, 1) := by decide +kernel
theorem dL_law_320 : decode cL_law 320 = .ok (.iadd, 1) := by decide +kernel
theorem dL_law_321 : decode cL_law 321 = .ok (.iaload, 1) := by decide +kernel
theorem dL_law_322 : decode cL_law 322 = .ok (.aload_n 0, 1) := by decide +kernel
theorem dL_law_323 : decode cL_law 323 = .ok (.iload_n 3, 1) := by decide +kernel
theorem dL_law_324 : decode cL_law 324 = .ok (.iconst 2, 1) := by decide +kernel
theorem dL_law_325 : decode cL_law 325 = .ok (.iadd, 1) := by decide +kernel
theorem dL_law_326 : decode cL_law 326 = .ok (.iaload, 1) := by decide +kernel
theorem dL_law_327 : decode cL_law 327 = .ok (.aload_n 0, 1) := by decide +kernel
theorem dL_law_328 : decode cL_law 328 = .ok (.iload_n 3, 1) := by decide +kernel
theorem dL_law_329 : decode cL_law 329 = .ok (.iconst 3, 1) := by decide +kernel
theorem dL_law_330 : decode cL_law 330 = .ok (.iadd, 1) := by decide +kernel
theorem dL_law_331 : decode cL_law 331 = .ok (.iaload, 1) := by decide +kernel
theorem dL_law_332 : decode cL_law 332 = .ok (.invokevirtual 48, 3) := by decide +kernel
theorem dL_law_335 : decode cL_law 335 = .ok (.if_icmp .eq 317, 3) := by decide +kernel
theorem dL_law_338 : decode cL_law 338 = .ok (.iconst 0, 1) := by decide +kernel
theorem dL_law_339 : decode cL_law 339 = .ok (.ireturn, 1) := by decide +kernel
theorem dL_law_340 : decode cL_law 340 = .ok (.aload_n 1, 1) := by decide +kernel
theorem dL_law_341 : decode cL_law 341 = .ok (.aload_n 0, 1) := by decide +kernel
theorem dL_law_342 : decode cL_law 342 = .ok (.iload_n 3, 1) := by decide +kernel
theorem dL_law_343 : decode cL_law 343 = .ok (.iconst 1, 1) := by decide +kernel
theorem dL_law_344 : decode cL_law 344 = .ok (.iadd, 1) := by decide +kernel
theorem dL_law_345 : decode cL_law 345 = .ok (.iaload, 1) := by decide +kernel
theorem dL_law_346 : decode cL_law 346 = .ok (.aload_n 0, 1) := by decide +kernel
theorem dL_law_347 : decode cL_law 347 = .ok (.iload_n 3, 1) := by decide +kernel
theorem dL_law_348 : decode cL_law 348 = .ok (.iconst 2, 1) := by decide +kernel
theorem dL_law_349 : decode cL_law 349 = .ok (.iadd, 1) := by decide +kernel
theorem dL_law_350 : decode cL_law 350 = .ok (.iaload, 1) := by decide +kernel
theorem dL_law_351 : decode cL_law 351 = .ok (.aload_n 0, 1) := by decide +kernel
theorem dL_law_352 : decode cL_law 352 = .ok (.iload_n 3, 1) := by decide +kernel
theorem dL_law_353 : decode cL_law 353 = .ok (.iconst 3, 1) := by decide +kernel
theorem dL_law_354 : decode cL_law 354 = .ok (.iadd, 1) := by decide +kernel
theorem dL_law_355 : decode cL_law 355 = .ok (.iaload, 1) := by decide +kernel
theorem dL_law_356 : decode cL_law 356 = .ok (.invokevirtual 49, 3) := by decide +kernel
theorem dL_law_359 : decode cL_law 359 = .ok (.aload_n 2, 1) := by decide +kernel
theorem dL_law_360 : decode cL_law 360 = .ok (.aload_n 0, 1) := by decide +kernel
theorem dL_law_361 : decode cL_law 361 = .ok (.iload_n 3, 1) := by decide +kernel
theorem dL_law_362 : decode cL_law 362 = .ok (.iconst 1, 1) := by decide +kernel
theorem dL_law_363 : decode cL_law 363 = .ok (.iadd, 1) := by decide +kernel
theorem dL_law_364 : decode cL_law 364 = .ok (.iaload, 1) := by decide +kernel
theorem dL_law_365 : decode cL_law 365 = .ok (.aload_n 0, 1) := by decide +kernel
theorem dL_law_366 : decode cL_law 366 = .ok (.iload_n 3, 1) := by decide +kernel
theorem dL_law_367 : decode cL_law 367 = .ok (.iconst 2, 1) := by decide +kernel
theorem dL_law_368 : decode cL_law 368 = .ok (.iadd, 1) := by decide +kernel
theorem dL_law_369 : decode cL_law 369 = .ok (.iaload, 1) := by decide +kernel
theorem dL_law_370 : decode cL_law 370 = .ok (.aload_n 0, 1) := by decide +kernel
theorem dL_law_371 : decode cL_law 371 = .ok (.iload_n 3, 1) := by decide +kernel
theorem dL_law_372 : decode cL_law 372 = .ok (.iconst 3, 1) := by decide +kernel
theorem dL_law_373 : decode cL_law 373 = .ok (.iadd, 1) := by decide +kernel
theorem dL_law_374 : decode cL_law 374 = .ok (.iaload, 1) := by decide +kernel
theorem dL_law_375 : decode cL_law 375 = .ok (.invokevirtual 52, 3) := by decide +kernel
theorem dL_law_378 : decode cL_law 378 = .ok (.if_icmp .eq 274, 3) := by decide +kernel
theorem dL_law_381 : decode cL_law 381 = .ok (.iconst 0, 1) := by decide +kernel
theorem dL_law_382 : decode cL_law 382 = .ok (.ireturn, 1) := by decide +kernel
theorem dL_law_383 : decode cL_law 383 = .ok (.aload_n 1, 1) := by decide +kernel
theorem dL_law_384 : decode cL_law 384 = .ok (.aload_n 0, 1) := by decide +kernel
theorem dL_law_385 : decode cL_law 385 = .ok (.iload_n 3, 1) := by decide +kernel
theorem dL_law_386 : decode cL_law 386 = .ok (.iconst 1, 1) := by decide +kernel
theorem dL_law_387 : decode cL_law 387 = .ok (.iadd, 1) := by decide +kernel
theorem dL_law_388 : decode cL_law 388 = .ok (.iaload, 1) := by decide +kernel
theorem dL_law_389 : decode cL_law 389 = .ok (.invokevirtual 53, 3) := by decide +kernel
theorem dL_law_392 : decode cL_law 392 = .ok (.aload_n 2, 1) := by decide +kernel
theorem dL_law_393 : decode cL_law 393 = .ok (.aload_n 0, 1) := by decide +kernel
theorem dL_law_394 : decode cL_law 394 = .ok (.iload_n 3, 1) := by decide +kernel
theorem dL_law_395 : decode cL_law 395 = .ok (.iconst 1, 1) := by decide +kernel
theorem dL_law_396 : decode cL_law 396 = .ok (.iadd, 1) := by decide +kernel
theorem dL_law_397 : decode cL_law 397 = .ok (.iaload, 1) := by decide +kernel
theorem dL_law_398 : decode cL_law 398 = .ok (.invokevirtual 56, 3) := by decide +kernel
theorem dL_law_401 : decode cL_law 401 = .ok (.if_icmp .eq 251, 3) := by decide +kernel
theorem dL_law_404 : decode cL_law 404 = .ok (.iconst 0, 1) := by decide +kernel
theorem dL_law_405 : decode cL_law 405 = .ok (.ireturn, 1) := by decide +kernel
theorem dL_law_406 : decode cL_law 406 = .ok (.aload_n 1, 1) := by decide +kernel
theorem dL_law_407 : decode cL_law 407 = .ok (.aload_n 0, 1) := by decide +kernel
theorem dL_law_408 : decode cL_law 408 = .ok (.iload_n 3, 1) := by decide +kernel
theorem dL_law_409 : decode cL_law 409 = .ok (.iconst 1, 1) := by decide +kernel
theorem dL_law_410 : decode cL_law 410 = .ok (.iadd, 1) := by decide +kernel
theorem dL_law_411 : decode cL_law 411 = .ok (.iaload, 1) := by decide +kernel
theorem dL_law_412 : decode cL_law 412 = .ok (.aload_n 0, 1) := by decide +kernel
theorem dL_law_413 : decode cL_law 413 = .ok (.iload_n 3, 1) := by decide +kernel
theorem dL_law_414 : decode cL_law 414 = .ok (.iconst 2, 1) := by decide +kernel
theorem dL_law_415 : decode cL_law 415 = .ok (.iadd, 1) := by decide +kernel
theorem dL_law_416 : decode cL_law 416 = .ok (.iaload, 1) := by decide +kernel
theorem dL_law_417 : decode cL_law 417 = .ok (.invokevirtual 57, 3) := by decide +kernel
theorem dL_law_420 : decode cL_law 420 = .ok (.aload_n 2, 1) := by decide +kernel
theorem dL_law_421 : decode cL_law 421 = .ok (.aload_n 0, 1) := by decide +kernel
theorem dL_law_422 : decode cL_law 422 = .ok (.iload_n 3, 1) := by decide +kernel
theorem dL_law_423 : decode cL_law 423 = .ok (.iconst 1, 1) := by decide +kernel
theorem dL_law_424 : decode cL_law 424 = .ok (.iadd, 1) := by decide +kernel
theorem dL_law_425 : decode cL_law 425 = .ok (.iaload, 1) := by decide +kernel
theorem dL_law_426 : decode cL_law 426 = .ok (.aload_n 0, 1) := by decide +kernel
theorem dL_law_427 : decode cL_law 427 = .ok (.iload_n 3, 1) := by decide +kernel
theorem dL_law_428 : decode cL_law 428 = .ok (.iconst 2, 1) := by decide +kernel
theorem dL_law_429 : decode cL_law 429 = .ok (.iadd, 1) := by decide +kernel
theorem dL_law_430 : decode cL_law 430 = .ok (.iaload, 1) := by decide +kernel
theorem dL_law_431 : decode cL_law 431 = .ok (.invokevirtual 60, 3) := by decide +kernel
theorem dL_law_434 : decode cL_law 434 = .ok (.if_icmp .eq 218, 3) := by decide +kernel
theorem dL_law_437 : decode cL_law 437 = .ok (.iconst 0, 1) := by decide +kernel
theorem dL_law_438 : decode cL_law 438 = .ok (.ireturn, 1) := by decide +kernel
theorem dL_law_439 : decode cL_law 439 = .ok (.aload_n 1, 1) := by decide +kernel
theorem dL_law_440 : decode cL_law 440 = .ok (.aload_n 0, 1) := by decide +kernel
theorem dL_law_441 : decode cL_law 441 = .ok (.iload_n 3, 1) := by decide +kernel
theorem dL_law_442 : decode cL_law 442 = .ok (.iconst 1, 1) := by decide +kernel
theorem dL_law_443 : decode cL_law 443 = .ok (.iadd, 1) := by decide +kernel
theorem dL_law_444 : decode cL_law 444 = .ok (.iaload, 1) := by decide +kernel
theorem dL_law_445 : decode cL_law 445 = .ok (.invokevirtual 61, 3) := by decide +kernel
theorem dL_law_448 : decode cL_law 448 = .ok (.aload_n 2, 1) := by decide +kernel
theorem dL_law_449 : decode cL_law 449 = .ok (.aload_n 0, 1) := by decide +kernel
theorem dL_law_450 : decode cL_law 450 = .ok (.iload_n 3, 1) := by decide +kernel
theorem dL_law_451 : decode cL_law 451 = .ok (.iconst 1, 1) := by decide +kernel
theorem dL_law_452 : decode cL_law 452 = .ok (.iadd, 1) := by decide +kernel
theorem dL_law_453 : decode cL_law 453 = .ok (.iaload, 1) := by decide +kernel
theorem dL_law_454 : decode cL_law 454 = .ok (.invokevirtual 64, 3) := by decide +kernel
theorem dL_law_457 : decode cL_law 457 = .ok (.if_icmp .eq 195, 3) := by decide +kernel
theorem dL_law_460 : decode cL_law 460 = .ok (.iconst 0, 1) := by decide +kernel
theorem dL_law_461 : decode cL_law 461 = .ok (.ireturn, 1) := by decide +kernel
theorem dL_law_462 : decode cL_law 462 = .ok (.aload_n 1, 1) := by decide +kernel
theorem dL_law_463 : decode cL_law 463 = .ok (.invokevirtual 65, 3) := by decide +kernel
theorem dL_law_466 : decode cL_law 466 = .ok (.aload_n 2, 1) := by decide +kernel
theorem dL_law_467 : decode cL_law 467 = .ok (.invokevirtual 68, 3) := by decide +kernel
theorem dL_law_470 : decode cL_law 470 = .ok (.if_icmp .eq 182, 3) := by decide +kernel
theorem dL_law_473 : decode cL_law 473 = .ok (.iconst 0, 1) := by decide +kernel
theorem dL_law_474 : decode cL_law 474 = .ok (.ireturn, 1) := by decide +kernel
theorem dL_law_475 : decode cL_law 475 = .ok (.aload_n 1, 1) := by decide +kernel
theorem dL_law_476 : decode cL_law 476 = .ok (.aload_n 0, 1) := by decide +kernel
theorem dL_law_477 : decode cL_law 477 = .ok (.iload_n 3, 1) := by decide +kernel
theorem dL_law_478 : decode cL_law 478 = .ok (.iconst 1, 1) := by decide +kernel
theorem dL_law_479 : decode cL_law 479 = .ok (.iadd, 1) := by decide +kernel
theorem dL_law_480 : decode cL_law 480 = .ok (.iaload, 1) := by decide +kernel
theorem dL_law_481 : decode cL_law 481 = .ok (.invokevirtual 69, 3) := by decide +kernel
theorem dL_law_484 : decode cL_law 484 = .ok (.aload_n 2, 1) := by decide +kernel
theorem dL_law_485 : decode cL_law 485 = .ok (.aload_n 0, 1) := by decide +kernel
theorem dL_law_486 : decode cL_law 486 = .ok (.iload_n 3, 1) := by decide +kernel
theorem dL_law_487 : decode cL_law 487 = .ok (.iconst 1, 1) := by decide +kernel
theorem dL_law_488 : decode cL_law 488 = .ok (.iadd, 1) := by decide +kernel
theorem dL_law_489 : decode cL_law 489 = .ok (.iaload, 1) := by decide +kernel
theorem dL_law_490 : decode cL_law 490 = .ok (.invokevirtual 72, 3) := by decide +kernel
theorem dL_law_493 : decode cL_law 493 = .ok (.if_icmp .eq 159, 3) := by decide +kernel
theorem dL_law_496 : decode cL_law 496 = .ok (.iconst 0, 1) := by decide +kernel
theorem dL_law_497 : decode cL_law 497 = .ok (.ireturn, 1) := by decide +kernel
theorem dL_law_498 : decode cL_law 498 = .ok (.aload_n 1, 1) := by decide +kernel
theorem dL_law_499 : decode cL_law 499 = .ok (.aload_n 0, 1) := by decide +kernel
theorem dL_law_500 : decode cL_law 500 = .ok (.iload_n 3, 1) := by decide +kernel
theorem dL_law_501 : decode cL_law 501 = .ok (.iconst 1, 1) := by decide +kernel
theorem dL_law_502 : decode cL_law 502 = .ok (.iadd, 1) := by decide +kernel
theorem dL_law_503 : decode cL_law 503 = .ok (.iaload, 1) := by decide +kernel
theorem dL_law_504 : decode cL_law 504 = .ok (.invokevirtual 73, 3) := by decide +kernel
theorem dL_law_507 : decode cL_law 507 = .ok (.aload_n 2, 1) := by decide +kernel
theorem dL_law_508 : decode cL_law 508 = .ok (.aload_n 0, 1) := by decide +kernel
theorem dL_law_509 : decode cL_law 509 = .ok (.iload_n 3, 1) := by decide +kernel
theorem dL_law_510 : decode cL_law 510 = .ok (.iconst 1, 1) := by decide +kernel
theorem dL_law_511 : decode cL_law 511 = .ok (.iadd, 1) := by decide +kernel
theorem dL_law_512 : decode cL_law 512 = .ok (.iaload, 1) := by decide +kernel
theorem dL_law_513 : decode cL_law 513 = .ok (.invokevirtual 76, 3) := by decide +kernel
theorem dL_law_516 : decode cL_law 516 = .ok (.if_icmp .eq 136, 3) := by decide +kernel
theorem dL_law_519 : decode cL_law 519 = .ok (.iconst 0, 1) := by decide +kernel
theorem dL_law_520 : decode cL_law 520 = .ok (.ireturn, 1) := by decide +kernel
theorem dL_law_521 : decode cL_law 521 = .ok (.aload_n 1, 1) := by decide +kernel
theorem dL_law_522 : decode cL_law 522 = .ok (.aload_n 0, 1) := by decide +kernel
theorem dL_law_523 : decode cL_law 523 = .ok (.iload_n 3, 1) := by decide +kernel
theorem dL_law_524 : decode cL_law 524 = .ok (.iconst 1, 1) := by decide +kernel
theorem dL_law_525 : decode cL_law 525 = .ok (.iadd, 1) := by decide +kernel
theorem dL_law_526 : decode cL_law 526 = .ok (.iaload, 1) := by decide +kernel
theorem dL_law_527 : decode cL_law 527 = .ok (.invokevirtual 77, 3) := by decide +kernel
theorem dL_law_530 : decode cL_law 530 = .ok (.aload_n 2, 1) := by decide +kernel
theorem dL_law_531 : decode cL_law 531 = .ok (.aload_n 0, 1) := by decide +kernel
theorem dL_law_532 : decode cL_law 532 = .ok (.iload_n 3, 1) := by decide +kernel
theorem dL_law_533 : decode cL_law 533 = .ok (.iconst 1, 1) := by decide +kernel
theorem dL_law_534 : decode cL_law 534 = .ok (.iadd, 1) := by decide +kernel
theorem dL_law_535 : decode cL_law 535 = .ok (.iaload, 1) := by decide +kernel
theorem dL_law_536 : decode cL_law 536 = .ok (.invokevirtual 80, 3) := by decide +kernel
theorem dL_law_539 : decode cL_law 539 = .ok (.if_icmp .eq 113, 3) := by decide +kernel
theorem dL_law_542 : decode cL_law 542 = .ok (.iconst 0, 1) := by decide +kernel
theorem dL_law_543 : decode cL_law 543 = .ok (.ireturn, 1) := by decide +kernel
theorem dL_law_544 : decode cL_law 544 = .ok (.aload_n 1, 1) := by decide +kernel
theorem dL_law_545 : decode cL_law 545 = .ok (.aload_n 0, 1) := by decide +kernel
theorem dL_law_546 : decode cL_law 546 = .ok (.iload_n 3, 1) := by decide +kernel
theorem dL_law_547 : decode cL_law 547 = .ok (.iconst 1, 1) := by decide +kernel
theorem dL_law_548 : decode cL_law 548 = .ok (.iadd, 1) := by decide +kernel
theorem dL_law_549 : decode cL_law 549 = .ok (.iaload, 1) := by decide +kernel
theorem dL_law_550 : decode cL_law 550 = .ok (.invokevirtual 81, 3) := by decide +kernel
theorem dL_law_553 : decode cL_law 553 = .ok (.aload_n 2, 1) := by decide +kernel
theorem dL_law_554 : decode cL_law 554 = .ok (.aload_n 0, 1) := by decide +kernel
theorem dL_law_555 : decode cL_law 555 = .ok (.iload_n 3, 1) := by decide +kernel
theorem dL_law_556 : decode cL_law 556 = .ok (.iconst 1, 1) := by decide +kernel
theorem dL_law_557 : decode cL_law 557 = .ok (.iadd, 1) := by decide +kernel
theorem dL_law_558 : decode cL_law 558 = .ok (.iaload, 1) := by decide +kernel
theorem dL_law_559 : decode cL_law 559 = .ok (.invokevirtual 84, 3) := by decide +kernel
theorem dL_law_562 : decode cL_law 562 = .ok (.if_icmp .eq 90, 3) := by decide +kernel
theorem dL_law_565 : decode cL_law 565 = .ok (.iconst 0, 1) := by decide +kernel
theorem dL_law_566 : decode cL_law 566 = .ok (.ireturn, 1) := by decide +kernel
theorem dL_law_567 : decode cL_law 567 = .ok (.aload_n 1, 1) := by decide +kernel
theorem dL_law_568 : decode cL_law 568 = .ok (.invokevirtual 85, 3) := by decide +kernel
theorem dL_law_571 : decode cL_law 571 = .ok (.aload_n 2, 1) := by decide +kernel
theorem dL_law_572 : decode cL_law 572 = .ok (.invokevirtual 88, 3) := by decide +kernel
theorem dL_law_575 : decode cL_law 575 = .ok (.if_icmp .eq 77, 3) := by decide +kernel
theorem dL_law_578 : decode cL_law 578 = .ok (.iconst 0, 1) := by decide +kernel
theorem dL_law_579 : decode cL_law 579 = .ok (.ireturn, 1) := by decide +kernel
theorem dL_law_580 : decode cL_law 580 = .ok (.aload_n 1, 1) := by decide +kernel
theorem dL_law_581 : decode cL_law 581 = .ok (.aload_n 0, 1) := by decide +kernel
theorem dL_law_582 : decode cL_law 582 = .ok (.iload_n 3, 1) := by decide +kernel
theorem dL_law_583 : decode cL_law 583 = .ok (.iconst 1, 1) := by decide +kernel
theorem dL_law_584 : decode cL_law 584 = .ok (.iadd, 1) := by decide +kernel
theorem dL_law_585 : decode cL_law 585 = .ok (.iaload, 1) := by decide +kernel
theorem dL_law_586 : decode cL_law 586 = .ok (.invokevirtual 89, 3) := by decide +kernel
theorem dL_law_589 : decode cL_law 589 = .ok (.aload_n 2, 1) := by decide +kernel
theorem dL_law_590 : decode cL_law 590 = .ok (.aload_n 0, 1) := by decide +kernel
theorem dL_law_591 : decode cL_law 591 = .ok (.iload_n 3, 1) := by decide +kernel
theorem dL_law_592 : decode cL_law 592 = .ok (.iconst 1, 1) := by decide +kernel
theorem dL_law_593 : decode cL_law 593 = .ok (.iadd, 1) := by decide +kernel
theorem dL_law_594 : decode cL_law 594 = .ok (.iaload, 1) := by decide +kernel
theorem dL_law_595 : decode cL_law 595 = .ok (.invokevirtual 92, 3) := by decide +kernel
theorem dL_law_598 : decode cL_law 598 = .ok (.if_icmp .eq 54, 3) := by decide +kernel
theorem dL_law_601 : decode cL_law 601 = .ok (.iconst 0, 1) := by decide +kernel
theorem dL_law_602 : decode cL_law 602 = .ok (.ireturn, 1) := by decide +kernel
theorem dL_law_603 : decode cL_law 603 = .ok (.aload_n 1, 1) := by decide +kernel
theorem dL_law_604 : decode cL_law 604 = .ok (.invokevirtual 93, 3) := by decide +kernel
theorem dL_law_607 : decode cL_law 607 = .ok (.aload_n 2, 1) := by decide +kernel
theorem dL_law_608 : decode cL_law 608 = .ok (.invokevirtual 96, 3) := by decide +kernel
theorem dL_law_611 : decode cL_law 611 = .ok (.if_icmp .eq 41, 3) := by decide +kernel
theorem dL_law_614 : decode cL_law 614 = .ok (.iconst 0, 1) := by decide +kernel
theorem dL_law_615 : decode cL_law 615 = .ok (.ireturn, 1) := by decide +kernel
theorem dL_law_616 : decode cL_law 616 = .ok (.aload_n 1, 1) := by decide +kernel
theorem dL_law_617 : decode cL_law 617 = .ok (.aload_n 0, 1) := by decide +kernel
theorem dL_law_618 : decode cL_law 618 = .ok (.iload_n 3, 1) := by decide +kernel
theorem dL_law_619 : decode cL_law 619 = .ok (.iconst 1, 1) := by decide +kernel
theorem dL_law_620 : decode cL_law 620 = .ok (.iadd, 1) := by decide +kernel
theorem dL_law_621 : decode cL_law 621 = .ok (.iaload, 1) := by decide +kernel
theorem dL_law_622 : decode cL_law 622 = .ok (.invokevirtual 97, 3) := by decide +kernel
theorem dL_law_625 : decode cL_law 625 = .ok (.aload_n 2, 1) := by decide +kernel
theorem dL_law_626 : decode cL_law 626 = .ok (.aload_n 0, 1) := by decide +kernel
theorem dL_law_627 : decode cL_law 627 = .ok (.iload_n 3, 1) := by decide +kernel
theorem dL_law_628 : decode cL_law 628 = .ok (.iconst 1, 1) := by decide +kernel
theorem dL_law_629 : decode cL_law 629 = .ok (.iadd, 1) := by decide +kernel
theorem dL_law_630 : decode cL_law 630 = .ok (.iaload, 1) := by decide +kernel
theorem dL_law_631 : decode cL_law 631 = .ok (.invokevirtual 100, 3) := by decide +kernel
theorem dL_law_634 : decode cL_law 634 = .ok (.if_icmp .eq 18, 3) := by decide +kernel
theorem dL_law_637 : decode cL_law 637 = .ok (.iconst 0, 1) := by decide +kernel
theorem dL_law_638 : decode cL_law 638 = .ok (.ireturn, 1) := by decide +kernel
theorem dL_law_639 : decode cL_law 639 = .ok (.aload_n 1, 1) := by decide +kernel
theorem dL_law_640 : decode cL_law 640 = .ok (.invokevirtual 101, 3) := by decide +kernel
theorem dL_law_643 : decode cL_law 643 = .ok (.aload_n 2, 1) := by decide +kernel
theorem dL_law_644 : decode cL_law 644 = .ok (.invokevirtual 104, 3) := by decide +kernel
theorem dL_law_647 : decode cL_law 647 = .ok (.if_icmp .eq 5, 3) := by decide +kernel
theorem dL_law_650 : decode cL_law 650 = .ok (.iconst 0, 1) := by decide +kernel
theorem dL_law_651 : decode cL_law 651 = .ok (.ireturn, 1) := by decide +kernel
theorem dL_law_652 : decode cL_law 652 = .ok (.iinc 3 4, 3) := by decide +kernel
theorem dL_law_655 : decode cL_law 655 = .ok (.goto (-637), 3) := by decide +kernel
theorem dL_law_658 : decode cL_law 658 = .ok (.iconst 1, 1) := by decide +kernel
theorem dL_law_659 : decode cL_law 659 = .ok (.ireturn, 1) := by decide +kernel
end
section
theorem tw_in1 : ∀ w ∈ wsL_law_r1, w ∈ wsL_law := fun w h => List.mem_append_left _ (List.mem_append_left _ (List.mem_append_left _ (List.mem_append_left _ (List.mem_append_left _ (h)))))
theorem tw_in2 : ∀ w ∈ wsL_law_r2, w ∈ wsL_law := fun w h => List.mem_append_left _ (List.mem_append_left _ (List.mem_append_left _ (List.mem_append_left _ (List.mem_append_right _ (List.mem_append_left _ (h))))))
theorem tw_in3 : ∀ w ∈ wsL_law_r3, w ∈ wsL_law := fun w h => List.mem_append_left _ (List.mem_append_left _ (List.mem_append_left _ (List.mem_append_left _ (List.mem_append_right _ (List.mem_append_right _ (List.mem_append_left _ (h)))))))
theorem tw_in4 : ∀ w ∈ wsL_law_r4, w ∈ wsL_law := fun w h => List.mem_append_left _ (List.mem_append_left _ (List.mem_append_left _ (List.mem_append_left _ (List.mem_append_right _ (List.mem_append_right _ (List.mem_append_right _ (List.mem_append_left _ (h))))))))
theorem tw_in5 : ∀ w ∈ wsL_law_r5, w ∈ wsL_law := fun w h => List.mem_append_left _ (List.mem_append_left _ (List.mem_append_left _ (List.mem_append_left _ (List.mem_append_right _ (List.mem_append_right _ (List.mem_append_right _ (List.mem_append_right _ (List.mem_append_left _ (h)))))))))
theorem tw_in6 : ∀ w ∈ wsL_law_r6, w ∈ wsL_law := fun w h => List.mem_append_left _ (List.mem_append_left _ (List.mem_append_left _ (List.mem_append_left _ (List.mem_append_right _ (List.mem_append_right _ (List.mem_append_right _ (List.mem_append_right _ (List.mem_append_right _ (List.mem_append_left _ (h))))))))))
theorem tw_in7 : ∀ w ∈ wsL_law_r7, w ∈ wsL_law := fun w h => List.mem_append_left _ (List.mem_append_left _ (List.mem_append_left _ (List.mem_append_left _ (List.mem_append_right _ (List.mem_append_right _ (List.mem_append_right _ (List.mem_append_right _ (List.mem_append_right _ (List.mem_append_right _ (List.mem_append_left _ (h)))))))))))
theorem tw_in8 : ∀ w ∈ wsL_law_r8, w ∈ wsL_law := fun w h => List.mem_append_left _ (List.mem_append_left _ (List.mem_append_left _ (List.mem_append_left _ (List.mem_append_right _ (List.mem_append_right _ (List.mem_append_right _ (List.mem_append_right _ (List.mem_append_right _ (List.mem_append_right _ (List.mem_append_right _ (List.mem_append_left _ (h))))))))))))
theorem tw_in9 : ∀ w ∈ wsL_law_r9, w ∈ wsL_law := fun w h => List.mem_append_left _ (List.mem_append_left _ (List.mem_append_left _ (List.mem_append_left _ (List.mem_append_right _ (List.mem_append_right _ (List.mem_append_right _ (List.mem_append_right _ (List.mem_append_right _ (List.mem_append_right _ (List.mem_append_right _ (List.mem_append_right _ (List.mem_append_left _ (h)))))))))))))
theorem tw_in10 : ∀ w ∈ wsL_law_r10, w ∈ wsL_law := fun w h => List.mem_append_left _ (List.mem_append_left _ (List.mem_append_left _ (List.mem_append_left _ (List.mem_append_right _ (List.mem_append_right _ (List.mem_append_right _ (List.mem_append_right _ (List.mem_append_right _ (List.mem_append_right _ (List.mem_append_right _ (List.mem_append_right _ (List.mem_append_right _ (List.mem_append_left _ (h))))))))))))))
theorem tw_in11 : ∀ w ∈ wsL_law_r11, w ∈ wsL_law := fun w h => List.mem_append_left _ (List.mem_append_left _ (List.mem_append_left _ (List.mem_append_left _ (List.mem_append_right _ (List.mem_append_right _ (List.mem_append_right _ (List.mem_append_right _ (List.mem_append_right _ (List.mem_append_right _ (List.mem_append_right _ (List.mem_append_right _ (List.mem_append_right _ (List.mem_append_right _ (List.mem_append_left _ (h)))))))))))))))
theorem tw_in12 : ∀ w ∈ wsL_law_r12, w ∈ wsL_law := fun w h => List.mem_append_left _ (List.mem_append_left _ (List.mem_append_left _ (List.mem_append_left _ (List.mem_append_right _ (List.mem_append_right _ (List.mem_append_right _ (List.mem_append_right _ (List.mem_append_right _ (List.mem_append_right _ (List.mem_append_right _ (List.mem_append_right _ (List.mem_append_right _ (List.mem_append_right _ (List.mem_append_right _ (List.mem_append_left _ (h))))))))))))))))
theorem tw_in13 : ∀ w ∈ wsL_law_r13, w ∈ wsL_law := fun w h => List.mem_append_left _ (List.mem_append_left _ (List.mem_append_left _ (List.mem_append_left _ (List.mem_append_right _ (List.mem_append_right _ (List.mem_append_right _ (List.mem_append_right _ (List.mem_append_right _ (List.mem_append_right _ (List.mem_append_right _ (List.mem_append_right _ (List.mem_append_right _ (List.mem_append_right _ (List.mem_append_right _ (List.mem_append_right _ (List.mem_append_left _ (h)))))))))))))))))
theorem tw_in14 : ∀ w ∈ wsL_law_r14, w ∈ wsL_law := fun w h => List.mem_append_left _ (List.mem_append_left _ (List.mem_append_left _ (List.mem_append_left _ (List.mem_append_right _ (List.mem_append_right _ (List.mem_append_right _ (List.mem_append_right _ (List.mem_append_right _ (List.mem_append_right _ (List.mem_append_right _ (List.mem_append_right _ (List.mem_append_right _ (List.mem_append_right _ (List.mem_append_right _ (List.mem_append_right _ (List.mem_append_right _ (List.mem_append_left _ (h))))))))))))))))))
theorem tw_in15 : ∀ w ∈ wsL_law_r15, w ∈ wsL_law := fun w h => List.mem_append_left _ (List.mem_append_left _ (List.mem_append_left _ (List.mem_append_left _ (List.mem_append_right _ (List.mem_append_right _ (List.mem_append_right _ (List.mem_append_right _ (List.mem_append_right _ (List.mem_append_right _ (List.mem_append_right _ (List.mem_append_right _ (List.mem_append_right _ (List.mem_append_right _ (List.mem_append_right _ (List.mem_append_right _ (List.mem_append_right _ (List.mem_append_right _ (List.mem_append_left _ (h)))))))))))))))))))
theorem tw_in16 : ∀ w ∈ wsL_law_r16, w ∈ wsL_law := fun w h => List.mem_append_left _ (List.mem_append_left _ (List.mem_append_left _ (List.mem_append_left _ (List.mem_append_right _ (List.mem_append_right _ (List.mem_append_right _ (List.mem_append_right _ (List.mem_append_right _ (List.mem_append_right _ (List.mem_append_right _ (List.mem_append_right _ (List.mem_append_right _ (List.mem_append_right _ (List.mem_append_right _ (List.mem_append_right _ (List.mem_append_right _ (List.mem_append_right _ (List.mem_append_right _ (List.mem_append_left _ (h))))))))))))))))))))
theorem tw_in17 : ∀ w ∈ wsL_law_r17, w ∈ wsL_law := fun w h => List.mem_append_left _ (List.mem_append_left _ (List.mem_append_left _ (List.mem_append_left _ (List.mem_append_right _ (List.mem_append_right _ (List.mem_append_right _ (List.mem_append_right _ (List.mem_append_right _ (List.mem_append_right _ (List.mem_append_right _ (List.mem_append_right _ (List.mem_append_right _ (List.mem_append_right _ (List.mem_append_right _ (List.mem_append_right _ (List.mem_append_right _ (List.mem_append_right _ (List.mem_append_right _ (List.mem_append_right _ (List.mem_append_left _ (h)))))))))))))))))))))
theorem tw_in18 : ∀ w ∈ wsL_law_r18, w ∈ wsL_law := fun w h => List.mem_append_left _ (List.mem_append_left _ (List.mem_append_left _ (List.mem_append_left _ (List.mem_append_right _ (List.mem_append_right _ (List.mem_append_right _ (List.mem_append_right _ (List.mem_append_right _ (List.mem_append_right _ (List.mem_append_right _ (List.mem_append_right _ (List.mem_append_right _ (List.mem_append_right _ (List.mem_append_right _ (List.mem_append_right _ (List.mem_append_right _ (List.mem_append_right _ (List.mem_append_right _ (List.mem_append_right _ (List.mem_append_right _ (List.mem_append_left _ (h))))))))))))))))))))))
theorem tw_in19 : ∀ w ∈ wsL_law_r19, w ∈ wsL_law := fun w h => List.mem_append_left _ (List.mem_append_left _ (List.mem_append_left _ (List.mem_append_left _ (List.mem_append_right _ (List.mem_append_right _ (List.mem_append_right _ (List.mem_append_right _ (List.mem_append_right _ (List.mem_append_right _ (List.mem_append_right _ (List.mem_append_right _ (List.mem_append_right _ (List.mem_append_right _ (List.mem_append_right _ (List.mem_append_right _ (List.mem_append_right _ (List.mem_append_right _ (List.mem_append_right _ (List.mem_append_right _ (List.mem_append_right _ (List.mem_append_right _ (List.mem_append_left _ (h)))))))))))))))))))))))
theorem tw_in20 : ∀ w ∈ wsL_law_r20, w ∈ wsL_law := fun w h => List.mem_append_left _ (List.mem_append_left _ (List.mem_append_left _ (List.mem_append_left _ (List.mem_append_right _ (List.mem_append_right _ (List.mem_append_right _ (List.mem_append_right _ (List.mem_append_right _ (List.mem_append_right _ (List.mem_append_right _ (List.mem_append_right _ (List.mem_append_right _ (List.mem_append_right _ (List.mem_append_right _ (List.mem_append_right _ (List.mem_append_right _ (List.mem_append_right _ (List.mem_append_right _ (List.mem_append_right _ (List.mem_append_right _ (List.mem_append_right _ (List.mem_append_right _ (List.mem_append_left _ (h))))))))))))))))))))))))
theorem tw_in21 : ∀ w ∈ wsL_law_r21, w ∈ wsL_law := fun w h => List.mem_append_left _ (List.mem_append_left _ (List.mem_append_left _ (List.mem_append_left _ (List.mem_append_right _ (List.mem_append_right _ (List.mem_append_right _ (List.mem_append_right _ (List.mem_append_right _ (List.mem_append_right _ (List.mem_append_right _ (List.mem_append_right _ (List.mem_append_right _ (List.mem_append_right _ (List.mem_append_right _ (List.mem_append_right _ (List.mem_append_right _ (List.mem_append_right _ (List.mem_append_right _ (List.mem_append_right _ (List.mem_append_right _ (List.mem_append_right _ (List.mem_append_right _ (List.mem_append_right _ (List.mem_append_left _ (h)))))))))))))))))))))))))
theorem tw_in22 : ∀ w ∈ wsL_law_r22, w ∈ wsL_law := fun w h => List.mem_append_left _ (List.mem_append_left _ (List.mem_append_left _ (List.mem_append_left _ (List.mem_append_right _ (List.mem_append_right _ (List.mem_append_right _ (List.mem_append_right _ (List.mem_append_right _ (List.mem_append_right _ (List.mem_append_right _ (List.mem_append_right _ (List.mem_append_right _ (List.mem_append_right _ (List.mem_append_right _ (List.mem_append_right _ (List.mem_append_right _ (List.mem_append_right _ (List.mem_append_right _ (List.mem_append_right _ (List.mem_append_right _ (List.mem_append_right _ (List.mem_append_right _ (List.mem_append_right _ (List.mem_append_right _ (List.mem_append_left _ (h))))))))))))))))))))))))))
theorem tw_in23 : ∀ w ∈ wsL_law_r23, w ∈ wsL_law := fun w h => List.mem_append_left _ (List.mem_append_left _ (List.mem_append_left _ (List.mem_append_left _ (List.mem_append_right _ (List.mem_append_right _ (List.mem_append_right _ (List.mem_append_right _ (List.mem_append_right _ (List.mem_append_right _ (List.mem_append_right _ (List.mem_append_right _ (List.mem_append_right _ (List.mem_append_right _ (List.mem_append_right _ (List.mem_append_right _ (List.mem_append_right _ (List.mem_append_right _ (List.mem_append_right _ (List.mem_append_right _ (List.mem_append_right _ (List.mem_append_right _ (List.mem_append_right _ (List.mem_append_right _ (List.mem_append_right _ (List.mem_append_right _ (List.mem_append_left _ (h)))))))))))))))))))))))))))
theorem tw_in24 : ∀ w ∈ wsL_law_r24, w ∈ wsL_law := fun w h => List.mem_append_left _ (List.mem_append_left _ (List.mem_append_left _ (List.mem_append_left _ (List.mem_append_right _ (List.mem_append_right _ (List.mem_append_right _ (List.mem_append_right _ (List.mem_append_right _ (List.mem_append_right _ (List.mem_append_right _ (List.mem_append_right _ (List.mem_append_right _ (List.mem_append_right _ (List.mem_append_right _ (List.mem_append_right _ (List.mem_append_right _ (List.mem_append_right _ (List.mem_append_right _ (List.mem_append_right _ (List.mem_append_right _ (List.mem_append_right _ (List.mem_append_right _ (List.mem_append_right _ (List.mem_append_right _ (List.mem_append_right _ (List.mem_append_right _ (List.mem_append_left _ (h))))))))))))))))))))))))))))
theorem tw_in25 : ∀ w ∈ wsL_law_r25, w ∈ wsL_law := fun w h => List.mem_append_left _ (List.mem_append_left _ (List.mem_append_left _ (List.mem_append_left _ (List.mem_append_right _ (List.mem_append_right _ (List.mem_append_right _ (List.mem_append_right _ (List.mem_append_right _ (List.mem_append_right _ (List.mem_append_right _ (List.mem_append_right _ (List.mem_append_right _ (List.mem_append_right _ (List.mem_append_right _ (List.mem_append_right _ (List.mem_append_right _ (List.mem_append_right _ (List.mem_append_right _ (List.mem_append_right _ (List.mem_append_right _ (List.mem_append_right _ (List.mem_append_right _ (List.mem_append_right _ (List.mem_append_right _ (List.mem_append_right _ (List.mem_append_right _ (List.mem_append_right _ (List.mem_append_left _ (h)))))))))))))))))))))))))))))
theorem tw_in26 : ∀ w ∈ wsL_law_r26, w ∈ wsL_law := fun w h => List.mem_append_left _ (List.mem_append_left _ (List.mem_append_left _ (List.mem_append_left _ (List.mem_append_right _ (List.mem_append_right _ (List.mem_append_right _ (List.mem_append_right _ (List.mem_append_right _ (List.mem_append_right _ (List.mem_append_right _ (List.mem_append_right _ (List.mem_append_right _ (List.mem_append_right _ (List.mem_append_right _ (List.mem_append_right _ (List.mem_append_right _ (List.mem_append_right _ (List.mem_append_right _ (List.mem_append_right _ (List.mem_append_right _ (List.mem_append_right _ (List.mem_append_right _ (List.mem_append_right _ (List.mem_append_right _ (List.mem_append_right _ (List.mem_append_right _ (List.mem_append_right _ (List.mem_append_right _ (h)))))))))))))))))))))))))))))
set_option maxRecDepth 20000 in
theorem tw_good : ∀ w ∈ wsL_law, (w.onTables && w.keeps) = true ∨ ∃ ty, w = .arrayClass ty := fun w h => good_of_word (List.all_eq_true.mp (show wsL_law.all goodWord = true by decide +kernel) w h)
/-- the words of a method: its code, and all of the law's -/
abbrev wU (y : MethodName) (b : ByteArray) (n : Nat) (r : Option FieldType) : List Cond := .code y b n r :: wsL_law
theorem tw_gU {y : MethodName} {b : ByteArray} {n : Nat} {r : Option FieldType} {own C : String} {i : Nat} (h1 : Cond.methodLink own i y ∈ wsL_law) (h2 : Cond.instanceMethod y ∈ wsL_law) (h3 : Cond.selects C y y ∈ wsL_law) (h4 : Cond.initialized C ∈ wsL_law) (h5 : Cond.code y b n r ∈ wsL_law) : GoodIn wsL_law (wsV own i C y (wU y b n r)) := by
  have k : ∀ w ∈ wsV own i C y (wU y b n r), w ∈ wsL_law := by
    intro w hw
    simp only [wsV, wU, List.mem_append, List.mem_cons, List.not_mem_nil, or_false] at hw
    rcases hw with (rfl | rfl | rfl | rfl) | rfl | h <;> assumption
  exact fun w hw => ⟨k w hw, tw_good w (k w hw)⟩
theorem tw_gS {y : MethodName} {b : ByteArray} {n : Nat} {r : Option FieldType} {own : String} {i : Nat} (h1 : Cond.methodLink own i y ∈ wsL_law) (h2 : Cond.static y ∈ wsL_law) (h4 : Cond.initialized y.cls ∈ wsL_law) (h5 : Cond.code y b n r ∈ wsL_law) : GoodIn wsL_law (va_wsS own i y (wU y b n r)) := by
  have k : ∀ w ∈ va_wsS own i y (wU y b n r), w ∈ wsL_law := by
    intro w hw
    simp only [va_wsS, wU, List.mem_append, List.mem_cons, List.not_mem_nil, or_false] at hw
    rcases hw with (rfl | rfl | rfl) | rfl | h <;> assumption
  exact fun w hw => ⟨k w hw, tw_good w (k w hw)⟩
theorem tw_gI {y : MethodName} {b : ByteArray} {n : Nat} {r : Option FieldType} (h5 : Cond.code y b n r ∈ wsL_law) : GoodIn wsL_law (wU y b n r) := by
  have k : ∀ w ∈ wU y b n r, w ∈ wsL_law := by
    intro w hw
    rcases List.mem_cons.mp hw with rfl | h <;> assumption
  exact fun w hw => ⟨k w hw, tw_good w (k w hw)⟩
theorem tg_RL_9 : GoodIn wsL_law (wU yX1_init cX1_init 2 none) := tw_gI (tw_in1 _ (List.mem_of_getElem? (i := 8) rfl))
theorem tm_RL_9 : Cond.methodLink RL 9 yX1_init ∈ wsL_law := tw_in1 _ (List.mem_of_getElem? (i := 6) rfl)
theorem tl_RX1_10 : Cond.fieldLink RX1 10 "TurningShop" "now" "LTurningShop$Game;" ∈ wsL_law := tw_in1 _ (List.mem_of_getElem? (i := 15) rfl)
theorem tl_RX1_16 : Cond.fieldLink RX1 16 "TurningShop" "spare" "LTurningShop$Game;" ∈ wsL_law := tw_in1 _ (List.mem_of_getElem? (i := 16) rfl)
theorem tl_RX1_19 : Cond.fieldLink RX1 19 "TurningShop" "history" "[LTurningShop$Game;" ∈ wsL_law := tw_in1 _ (List.mem_of_getElem? (i := 17) rfl)
theorem tl_RX1_23 : Cond.fieldLink RX1 23 "TurningShop" "text" "[C" ∈ wsL_law := tw_in1 _ (List.mem_of_getElem? (i := 19) rfl)
theorem tl_RX1_27 : Cond.fieldLink RX1 27 "TurningShop$Game" "setting" "I" ∈ wsL_law := tw_in1 _ (List.mem_of_getElem? (i := 20) rfl)
theorem tg_RX1_9 : GoodIn wsL_law (wU yX0_init cX0_init 1 none) := tw_gI (tw_in1 _ (List.mem_of_getElem? (i := 23) rfl))
theorem tm_RX1_9 : Cond.methodLink RX1 9 yX0_init ∈ wsL_law := tw_in1 _ (List.mem_of_getElem? (i := 21) rfl)
theorem tl_RX0_9 : Cond.fieldLink RX0 9 "TurningShop$Game" "cards" "[I" ∈ wsL_law := tw_in2 _ (List.mem_of_getElem? (i := 2) rfl)
theorem tl_RX0_15 : Cond.fieldLink RX0 15 "TurningShop$Game" "starts" "[I" ∈ wsL_law := tw_in2 _ (List.mem_of_getElem? (i := 3) rfl)
theorem tl_RX0_18 : Cond.fieldLink RX0 18 "TurningShop$Game" "piles" "[I" ∈ wsL_law := tw_in2 _ (List.mem_of_getElem? (i := 4) rfl)
theorem tl_RX0_21 : Cond.fieldLink RX0 21 "TurningShop$Game" "scrapped" "[I" ∈ wsL_law := tw_in2 _ (List.mem_of_getElem? (i := 5) rfl)
theorem tg_RX1_31 : GoodIn wsL_law (wsV RX1 31 RX0 yX0_startGame (wU yX0_startGame cX0_startGame 3 (some .int))) := tw_gU (tw_in2 _ (List.mem_of_getElem? (i := 6) rfl)) (tw_in2 _ (List.mem_of_getElem? (i := 7) rfl)) (tw_in2 _ (List.mem_of_getElem? (i := 8) rfl)) (tw_in1 _ (List.mem_of_getElem? (i := 14) rfl)) (tw_in2 _ (List.mem_of_getElem? (i := 9) rfl))
theorem tk_RX0_62 : Cond.constant RX0 62 (Int32.ofInt (-1000001)) ∈ wsL_law := tw_in2 _ (List.mem_of_getElem? (i := 10) rfl)
theorem tl_RX0_30 : Cond.fieldLink RX0 30 "TurningShop$Game" "players" "I" ∈ wsL_law := tw_in2 _ (List.mem_of_getElem? (i := 11) rfl)
theorem tl_RX0_34 : Cond.fieldLink RX0 34 "TurningShop$Game" "player" "I" ∈ wsL_law := tw_in2 _ (List.mem_of_getElem? (i := 12) rfl)
theorem tl_RX0_49 : Cond.fieldLink RX0 49 "TurningShop$Game" "rowFirst" "I" ∈ wsL_law := tw_in2 _ (List.mem_of_getElem? (i := 13) rfl)
theorem tl_RX0_55 : Cond.fieldLink RX0 55 "TurningShop$Game" "endedTurns" "I" ∈ wsL_law := tw_in2 _ (List.mem_of_getElem? (i := 14) rfl)
theorem tl_RX0_58 : Cond.fieldLink RX0 58 "TurningShop$Game" "over" "Z" ∈ wsL_law := tw_in2 _ (List.mem_of_getElem? (i := 15) rfl)
theorem tg_RX0_66 : GoodIn wsL_law (va_wsS RX0 66 yJ7_fill_53178 (wU yJ7_fill_53178 cJ7_fill_53178 4 none)) := tw_gS (tw_in2 _ (List.mem_of_getElem? (i := 20) rfl)) (tw_in2 _ (List.mem_of_getElem? (i := 21) rfl)) (tw_in2 _ (List.mem_of_getElem? (i := 22) rfl)) (tw_in2 _ (List.mem_of_getElem? (i := 23) rfl))
theorem tg_RX0_72 : GoodIn wsL_law (wsV RX0 72 RX0 yX0_dealDecks (wU yX0_dealDecks cX0_dealDecks 4 none)) := tw_gU (tw_in3 _ (List.mem_of_getElem? (i := 0) rfl)) (tw_in3 _ (List.mem_of_getElem? (i := 1) rfl)) (tw_in3 _ (List.mem_of_getElem? (i := 2) rfl)) (tw_in1 _ (List.mem_of_getElem? (i := 14) rfl)) (tw_in3 _ (List.mem_of_getElem? (i := 3) rfl))
theorem tg_RX0_75 : GoodIn wsL_law (wsV RX0 75 RX0 yX0_drawCards (wU yX0_drawCards cX0_drawCards 5 none)) := tw_gU (tw_in3 _ (List.mem_of_getElem? (i := 4) rfl)) (tw_in3 _ (List.mem_of_getElem? (i := 5) rfl)) (tw_in3 _ (List.mem_of_getElem? (i := 6) rfl)) (tw_in1 _ (List.mem_of_getElem? (i := 14) rfl)) (tw_in3 _ (List.mem_of_getElem? (i := 7) rfl))
theorem tg_RX0_90 : GoodIn wsL_law (wsV RX0 90 RX0 yX0_moveToEnd (wU yX0_moveToEnd cX0_moveToEnd 8 none)) := tw_gU (tw_in3 _ (List.mem_of_getElem? (i := 8) rfl)) (tw_in3 _ (List.mem_of_getElem? (i := 9) rfl)) (tw_in3 _ (List.mem_of_getElem? (i := 10) rfl)) (tw_in1 _ (List.mem_of_getElem? (i := 14) rfl)) (tw_in3 _ (List.mem_of_getElem? (i := 11) rfl))
theorem tg_RX0_79 : GoodIn wsL_law (wsV RX0 79 RX0 yX0_beginTurn (wU yX0_beginTurn cX0_beginTurn 1 none)) := tw_gU (tw_in3 _ (List.mem_of_getElem? (i := 12) rfl)) (tw_in3 _ (List.mem_of_getElem? (i := 13) rfl)) (tw_in3 _ (List.mem_of_getElem? (i := 14) rfl)) (tw_in1 _ (List.mem_of_getElem? (i := 14) rfl)) (tw_in3 _ (List.mem_of_getElem? (i := 15) rfl))
theorem tl_RX0_37 : Cond.fieldLink RX0 37 "TurningShop$Game" "coins" "I" ∈ wsL_law := tw_in3 _ (List.mem_of_getElem? (i := 16) rfl)
theorem tl_RX0_40 : Cond.fieldLink RX0 40 "TurningShop$Game" "buys" "I" ∈ wsL_law := tw_in3 _ (List.mem_of_getElem? (i := 17) rfl)
theorem tl_RX0_43 : Cond.fieldLink RX0 43 "TurningShop$Game" "actions" "I" ∈ wsL_law := tw_in3 _ (List.mem_of_getElem? (i := 18) rfl)
theorem tl_RX0_46 : Cond.fieldLink RX0 46 "TurningShop$Game" "scraps" "I" ∈ wsL_law := tw_in3 _ (List.mem_of_getElem? (i := 19) rfl)
theorem tg_RL_12 : GoodIn wsL_law (wU yX2_init cX2_init 1 none) := tw_gI (tw_in3 _ (List.mem_of_getElem? (i := 22) rfl))
theorem tm_RL_12 : Cond.methodLink RL 12 yX2_init ∈ wsL_law := tw_in3 _ (List.mem_of_getElem? (i := 20) rfl)
theorem tl_RX2_7 : Cond.fieldLink RX2 7 "TurningShopModel" "s" "[I" ∈ wsL_law := tw_in4 _ (List.mem_of_getElem? (i := 0) rfl)
theorem tl_RX2_13 : Cond.fieldLink RX2 13 "TurningShopModel" "aside" "[I" ∈ wsL_law := tw_in4 _ (List.mem_of_getElem? (i := 1) rfl)
theorem tl_RX2_16 : Cond.fieldLink RX2 16 "TurningShopModel" "before" "[I" ∈ wsL_law := tw_in4 _ (List.mem_of_getElem? (i := 2) rfl)
theorem tl_RX2_19 : Cond.fieldLink RX2 19 "TurningShopModel" "text" "[I" ∈ wsL_law := tw_in4 _ (List.mem_of_getElem? (i := 3) rfl)
theorem tg_RX2_22 : GoodIn wsL_law (wsV RX2 22 RX2 yX2_begins (wU yX2_begins cX2_begins 6 (some .int))) := tw_gU (tw_in4 _ (List.mem_of_getElem? (i := 4) rfl)) (tw_in4 _ (List.mem_of_getElem? (i := 5) rfl)) (tw_in4 _ (List.mem_of_getElem? (i := 6) rfl)) (tw_in1 _ (List.mem_of_getElem? (i := 5) rfl)) (tw_in4 _ (List.mem_of_getElem? (i := 7) rfl))
theorem tg_RX2_52 : GoodIn wsL_law (va_wsS RX2 52 yX2_inPile (wU yX2_inPile cX2_inPile 1 (some .int))) := tw_gS (tw_in4 _ (List.mem_of_getElem? (i := 8) rfl)) (tw_in4 _ (List.mem_of_getElem? (i := 9) rfl)) (tw_in1 _ (List.mem_of_getElem? (i := 5) rfl)) (tw_in4 _ (List.mem_of_getElem? (i := 10) rfl))
theorem tg_RX2_30 : GoodIn wsL_law (wsV RX2 30 RX2 yX2_put (wU yX2_put cX2_put 5 none)) := tw_gU (tw_in4 _ (List.mem_of_getElem? (i := 11) rfl)) (tw_in4 _ (List.mem_of_getElem? (i := 12) rfl)) (tw_in4 _ (List.mem_of_getElem? (i := 13) rfl)) (tw_in1 _ (List.mem_of_getElem? (i := 5) rfl)) (tw_in4 _ (List.mem_of_getElem? (i := 14) rfl))
theorem tg_RX2_26 : GoodIn wsL_law (va_wsS RX2 26 yX2_placeOf (wU yX2_placeOf cX2_placeOf 2 (some .int))) := tw_gS (tw_in4 _ (List.mem_of_getElem? (i := 15) rfl)) (tw_in4 _ (List.mem_of_getElem? (i := 16) rfl)) (tw_in1 _ (List.mem_of_getElem? (i := 5) rfl)) (tw_in4 _ (List.mem_of_getElem? (i := 17) rfl))
theorem tg_RX2_55 : GoodIn wsL_law (wsV RX2 55 RX2 yX2_draw (wU yX2_draw cX2_draw 4 none)) := tw_gU (tw_in4 _ (List.mem_of_getElem? (i := 18) rfl)) (tw_in4 _ (List.mem_of_getElem? (i := 19) rfl)) (tw_in4 _ (List.mem_of_getElem? (i := 20) rfl)) (tw_in1 _ (List.mem_of_getElem? (i := 5) rfl)) (tw_in4 _ (List.mem_of_getElem? (i := 21) rfl))
theorem tg_RX2_34 : GoodIn wsL_law (wsV RX2 34 RX2 yX2_manyAt (wU yX2_manyAt cX2_manyAt 3 (some .int))) := tw_gU (tw_in4 _ (List.mem_of_getElem? (i := 22) rfl)) (tw_in4 _ (List.mem_of_getElem? (i := 23) rfl)) (tw_in5 _ (List.mem_of_getElem? (i := 0) rfl)) (tw_in1 _ (List.mem_of_getElem? (i := 5) rfl)) (tw_in5 _ (List.mem_of_getElem? (i := 1) rfl))
theorem tg_RX2_37 : GoodIn wsL_law (wsV RX2 37 RX2 yX2_moveAll (wU yX2_moveAll cX2_moveAll 6 none)) := tw_gU (tw_in5 _ (List.mem_of_getElem? (i := 2) rfl)) (tw_in5 _ (List.mem_of_getElem? (i := 3) rfl)) (tw_in5 _ (List.mem_of_getElem? (i := 4) rfl)) (tw_in1 _ (List.mem_of_getElem? (i := 5) rfl)) (tw_in5 _ (List.mem_of_getElem? (i := 5) rfl))
theorem tg_RX2_40 : GoodIn wsL_law (wsV RX2 40 RX2 yX2_take (wU yX2_take cX2_take 7 (some .int))) := tw_gU (tw_in5 _ (List.mem_of_getElem? (i := 6) rfl)) (tw_in5 _ (List.mem_of_getElem? (i := 7) rfl)) (tw_in5 _ (List.mem_of_getElem? (i := 8) rfl)) (tw_in1 _ (List.mem_of_getElem? (i := 5) rfl)) (tw_in5 _ (List.mem_of_getElem? (i := 9) rfl))
theorem tg_RL_13 : GoodIn wsL_law (wsV RL 13 RX1 yX1_begin (wU yX1_begin cX1_begin 2 (some .int))) := tw_gU (tw_in5 _ (List.mem_of_getElem? (i := 10) rfl)) (tw_in5 _ (List.mem_of_getElem? (i := 11) rfl)) (tw_in5 _ (List.mem_of_getElem? (i := 12) rfl)) (tw_in1 _ (List.mem_of_getElem? (i := 2) rfl)) (tw_in5 _ (List.mem_of_getElem? (i := 13) rfl))
theorem tg_RX1_35 : GoodIn wsL_law (wsV RX1 35 RX1 yX1_copyOfNow (wU yX1_copyOfNow cX1_copyOfNow 1 (some (.object "TurningShop$Game")))) := tw_gU (tw_in5 _ (List.mem_of_getElem? (i := 14) rfl)) (tw_in5 _ (List.mem_of_getElem? (i := 15) rfl)) (tw_in5 _ (List.mem_of_getElem? (i := 16) rfl)) (tw_in1 _ (List.mem_of_getElem? (i := 2) rfl)) (tw_in5 _ (List.mem_of_getElem? (i := 17) rfl))
theorem tg_RX1_169 : GoodIn wsL_law (wsV RX1 169 RX0 yX0_copyFrom (wU yX0_copyFrom cX0_copyFrom 2 none)) := tw_gU (tw_in5 _ (List.mem_of_getElem? (i := 18) rfl)) (tw_in5 _ (List.mem_of_getElem? (i := 19) rfl)) (tw_in5 _ (List.mem_of_getElem? (i := 20) rfl)) (tw_in1 _ (List.mem_of_getElem? (i := 14) rfl)) (tw_in5 _ (List.mem_of_getElem? (i := 21) rfl))
theorem tl_RX0_52 : Cond.fieldLink RX0 52 "TurningShop$Game" "setting" "I" ∈ wsL_law := tw_in5 _ (List.mem_of_getElem? (i := 22) rfl)
theorem tg_RX1_39 : GoodIn wsL_law (wsV RX1 39 RX1 yX1_settle (wU yX1_settle cX1_settle 3 (some .int))) := tw_gU (tw_in5 _ (List.mem_of_getElem? (i := 23) rfl)) (tw_in6 _ (List.mem_of_getElem? (i := 0) rfl)) (tw_in6 _ (List.mem_of_getElem? (i := 1) rfl)) (tw_in1 _ (List.mem_of_getElem? (i := 2) rfl)) (tw_in6 _ (List.mem_of_getElem? (i := 2) rfl))
theorem tl_RX1_150 : Cond.fieldLink RX1 150 "TurningShop" "states" "I" ∈ wsL_law := tw_in6 _ (List.mem_of_getElem? (i := 3) rfl)
theorem tg_RX1_173 : GoodIn wsL_law (wsV RX1 173 RX1 yX1_dropOldestState (wU yX1_dropOldestState cX1_dropOldestState 3 none)) := tw_gU (tw_in6 _ (List.mem_of_getElem? (i := 4) rfl)) (tw_in6 _ (List.mem_of_getElem? (i := 5) rfl)) (tw_in6 _ (List.mem_of_getElem? (i := 6) rfl)) (tw_in1 _ (List.mem_of_getElem? (i := 2) rfl)) (tw_in6 _ (List.mem_of_getElem? (i := 7) rfl))
theorem tg_RL_17 : GoodIn wsL_law (wsV RL 17 RX2 yX2_begin (wU yX2_begin cX2_begin 2 (some .int))) := tw_gU (tw_in6 _ (List.mem_of_getElem? (i := 8) rfl)) (tw_in6 _ (List.mem_of_getElem? (i := 9) rfl)) (tw_in6 _ (List.mem_of_getElem? (i := 10) rfl)) (tw_in1 _ (List.mem_of_getElem? (i := 5) rfl)) (tw_in6 _ (List.mem_of_getElem? (i := 11) rfl))
theorem tk_RX2_63 : Cond.constant RX2 63 (Int32.ofInt (-1000001)) ∈ wsL_law := tw_in6 _ (List.mem_of_getElem? (i := 12) rfl)
theorem tg_RX2_48 : GoodIn wsL_law (va_wsS RX2 48 yX2_in (wU yX2_in cX2_in 3 (some .boolean))) := tw_gS (tw_in6 _ (List.mem_of_getElem? (i := 13) rfl)) (tw_in6 _ (List.mem_of_getElem? (i := 14) rfl)) (tw_in1 _ (List.mem_of_getElem? (i := 5) rfl)) (tw_in6 _ (List.mem_of_getElem? (i := 15) rfl))
theorem tg_RX2_106 : GoodIn wsL_law (wsV RX2 106 RX2 yX2_know (wU yX2_know cX2_know 2 none)) := tw_gU (tw_in6 _ (List.mem_of_getElem? (i := 16) rfl)) (tw_in6 _ (List.mem_of_getElem? (i := 17) rfl)) (tw_in6 _ (List.mem_of_getElem? (i := 18) rfl)) (tw_in1 _ (List.mem_of_getElem? (i := 5) rfl)) (tw_in6 _ (List.mem_of_getElem? (i := 19) rfl))
theorem tl_RX2_44 : Cond.fieldLink RX2 44 "TurningShopModel" "known" "I" ∈ wsL_law := tw_in6 _ (List.mem_of_getElem? (i := 20) rfl)
theorem tg_RL_18 : GoodIn wsL_law (wsV RL 18 RX1 yX1_play (wU yX1_play cX1_play 2 (some .int))) := tw_gU (tw_in6 _ (List.mem_of_getElem? (i := 21) rfl)) (tw_in6 _ (List.mem_of_getElem? (i := 22) rfl)) (tw_in6 _ (List.mem_of_getElem? (i := 23) rfl)) (tw_in1 _ (List.mem_of_getElem? (i := 2) rfl)) (tw_in7 _ (List.mem_of_getElem? (i := 0) rfl))
theorem tg_RX1_42 : GoodIn wsL_law (wsV RX1 42 RX0 yX0_playCard (wU yX0_playCard cX0_playCard 5 (some .int))) := tw_gU (tw_in7 _ (List.mem_of_getElem? (i := 1) rfl)) (tw_in7 _ (List.mem_of_getElem? (i := 2) rfl)) (tw_in7 _ (List.mem_of_getElem? (i := 3) rfl)) (tw_in1 _ (List.mem_of_getElem? (i := 14) rfl)) (tw_in7 _ (List.mem_of_getElem? (i := 4) rfl))
theorem tk_RX0_89 : Cond.constant RX0 89 (Int32.ofInt (-1000002)) ∈ wsL_law := tw_in7 _ (List.mem_of_getElem? (i := 5) rfl)
theorem tg_RX0_85 : GoodIn wsL_law (wsV RX0 85 RX0 yX0_cardOf (wU yX0_cardOf cX0_cardOf 6 (some .int))) := tw_gU (tw_in7 _ (List.mem_of_getElem? (i := 6) rfl)) (tw_in7 _ (List.mem_of_getElem? (i := 7) rfl)) (tw_in7 _ (List.mem_of_getElem? (i := 8) rfl)) (tw_in1 _ (List.mem_of_getElem? (i := 14) rfl)) (tw_in7 _ (List.mem_of_getElem? (i := 9) rfl))
theorem tg_RX0_109 : GoodIn wsL_law (wsV RX0 109 RX0 yX0_giveCurses (wU yX0_giveCurses cX0_giveCurses 3 none)) := tw_gU (tw_in7 _ (List.mem_of_getElem? (i := 10) rfl)) (tw_in7 _ (List.mem_of_getElem? (i := 11) rfl)) (tw_in7 _ (List.mem_of_getElem? (i := 12) rfl)) (tw_in1 _ (List.mem_of_getElem? (i := 14) rfl)) (tw_in7 _ (List.mem_of_getElem? (i := 13) rfl))
theorem tg_RX0_115 : GoodIn wsL_law (wsV RX0 115 RX0 yX0_playerBehind (wU yX0_playerBehind cX0_playerBehind 2 (some .int))) := tw_gU (tw_in7 _ (List.mem_of_getElem? (i := 14) rfl)) (tw_in7 _ (List.mem_of_getElem? (i := 15) rfl)) (tw_in7 _ (List.mem_of_getElem? (i := 16) rfl)) (tw_in1 _ (List.mem_of_getElem? (i := 14) rfl)) (tw_in7 _ (List.mem_of_getElem? (i := 17) rfl))
theorem tg_RX0_119 : GoodIn wsL_law (wsV RX0 119 RX0 yX0_takeFromPile (wU yX0_takeFromPile cX0_takeFromPile 5 none)) := tw_gU (tw_in7 _ (List.mem_of_getElem? (i := 18) rfl)) (tw_in7 _ (List.mem_of_getElem? (i := 19) rfl)) (tw_in7 _ (List.mem_of_getElem? (i := 20) rfl)) (tw_in1 _ (List.mem_of_getElem? (i := 14) rfl)) (tw_in7 _ (List.mem_of_getElem? (i := 21) rfl))
theorem tg_RL_21 : GoodIn wsL_law (wsV RL 21 RX2 yX2_play (wU yX2_play cX2_play 3 (some .int))) := tw_gU (tw_in7 _ (List.mem_of_getElem? (i := 22) rfl)) (tw_in7 _ (List.mem_of_getElem? (i := 23) rfl)) (tw_in8 _ (List.mem_of_getElem? (i := 0) rfl)) (tw_in1 _ (List.mem_of_getElem? (i := 5) rfl)) (tw_in8 _ (List.mem_of_getElem? (i := 1) rfl))
theorem tg_RX2_109 : GoodIn wsL_law (wsV RX2 109 RX2 yX2_playFault (wU yX2_playFault cX2_playFault 4 (some .int))) := tw_gU (tw_in8 _ (List.mem_of_getElem? (i := 2) rfl)) (tw_in8 _ (List.mem_of_getElem? (i := 3) rfl)) (tw_in8 _ (List.mem_of_getElem? (i := 4) rfl)) (tw_in1 _ (List.mem_of_getElem? (i := 5) rfl)) (tw_in8 _ (List.mem_of_getElem? (i := 5) rfl))
theorem tk_RX2_67 : Cond.constant RX2 67 (Int32.ofInt (-1000002)) ∈ wsL_law := tw_in8 _ (List.mem_of_getElem? (i := 6) rfl)
theorem tg_RX2_59 : GoodIn wsL_law (wsV RX2 59 RX2 yX2_isInHand (wU yX2_isInHand cX2_isInHand 2 (some .boolean))) := tw_gU (tw_in8 _ (List.mem_of_getElem? (i := 7) rfl)) (tw_in8 _ (List.mem_of_getElem? (i := 8) rfl)) (tw_in8 _ (List.mem_of_getElem? (i := 9) rfl)) (tw_in1 _ (List.mem_of_getElem? (i := 5) rfl)) (tw_in8 _ (List.mem_of_getElem? (i := 10) rfl))
theorem tg_RX2_64 : GoodIn wsL_law (wsV RX2 64 RX2 yX2_inHand (wU yX2_inHand cX2_inHand 2 (some .int))) := tw_gU (tw_in8 _ (List.mem_of_getElem? (i := 11) rfl)) (tw_in8 _ (List.mem_of_getElem? (i := 12) rfl)) (tw_in8 _ (List.mem_of_getElem? (i := 13) rfl)) (tw_in1 _ (List.mem_of_getElem? (i := 5) rfl)) (tw_in8 _ (List.mem_of_getElem? (i := 14) rfl))
theorem tg_RX2_91 : GoodIn wsL_law (wsV RX2 91 RX2 yX2_plays (wU yX2_plays cX2_plays 5 (some .int))) := tw_gU (tw_in8 _ (List.mem_of_getElem? (i := 15) rfl)) (tw_in8 _ (List.mem_of_getElem? (i := 16) rfl)) (tw_in8 _ (List.mem_of_getElem? (i := 17) rfl)) (tw_in1 _ (List.mem_of_getElem? (i := 5) rfl)) (tw_in8 _ (List.mem_of_getElem? (i := 18) rfl))
theorem tg_RX2_68 : GoodIn wsL_law (va_wsS RX2 68 yX2_coins (wU yX2_coins cX2_coins 1 (some .int))) := tw_gS (tw_in8 _ (List.mem_of_getElem? (i := 19) rfl)) (tw_in8 _ (List.mem_of_getElem? (i := 20) rfl)) (tw_in1 _ (List.mem_of_getElem? (i := 5) rfl)) (tw_in8 _ (List.mem_of_getElem? (i := 21) rfl))
theorem tg_RX2_71 : GoodIn wsL_law (va_wsS RX2 71 yX2_cards (wU yX2_cards cX2_cards 1 (some .int))) := tw_gS (tw_in8 _ (List.mem_of_getElem? (i := 22) rfl)) (tw_in8 _ (List.mem_of_getElem? (i := 23) rfl)) (tw_in1 _ (List.mem_of_getElem? (i := 5) rfl)) (tw_in9 _ (List.mem_of_getElem? (i := 0) rfl))
theorem tg_RL_22 : GoodIn wsL_law (wsV RL 22 RX1 yX1_buy (wU yX1_buy cX1_buy 2 (some .int))) := tw_gU (tw_in9 _ (List.mem_of_getElem? (i := 1) rfl)) (tw_in9 _ (List.mem_of_getElem? (i := 2) rfl)) (tw_in9 _ (List.mem_of_getElem? (i := 3) rfl)) (tw_in1 _ (List.mem_of_getElem? (i := 2) rfl)) (tw_in9 _ (List.mem_of_getElem? (i := 4) rfl))
theorem tg_RX1_45 : GoodIn wsL_law (wsV RX1 45 RX0 yX0_buyCard (wU yX0_buyCard cX0_buyCard 2 (some .int))) := tw_gU (tw_in9 _ (List.mem_of_getElem? (i := 5) rfl)) (tw_in9 _ (List.mem_of_getElem? (i := 6) rfl)) (tw_in9 _ (List.mem_of_getElem? (i := 7) rfl)) (tw_in1 _ (List.mem_of_getElem? (i := 14) rfl)) (tw_in9 _ (List.mem_of_getElem? (i := 8) rfl))
theorem tg_RX0_122 : GoodIn wsL_law (wsV RX0 122 RX0 yX0_whyNotBought (wU yX0_whyNotBought cX0_whyNotBought 2 (some .int))) := tw_gU (tw_in9 _ (List.mem_of_getElem? (i := 9) rfl)) (tw_in9 _ (List.mem_of_getElem? (i := 10) rfl)) (tw_in9 _ (List.mem_of_getElem? (i := 11) rfl)) (tw_in1 _ (List.mem_of_getElem? (i := 14) rfl)) (tw_in9 _ (List.mem_of_getElem? (i := 12) rfl))
theorem tg_RX0_158 : GoodIn wsL_law (wsV RX0 158 RX0 yX0_isInRow (wU yX0_isInRow cX0_isInRow 2 (some .boolean))) := tw_gU (tw_in9 _ (List.mem_of_getElem? (i := 13) rfl)) (tw_in9 _ (List.mem_of_getElem? (i := 14) rfl)) (tw_in9 _ (List.mem_of_getElem? (i := 15) rfl)) (tw_in1 _ (List.mem_of_getElem? (i := 14) rfl)) (tw_in9 _ (List.mem_of_getElem? (i := 16) rfl))
theorem tg_RL_25 : GoodIn wsL_law (wsV RL 25 RX2 yX2_buy (wU yX2_buy cX2_buy 3 (some .int))) := tw_gU (tw_in9 _ (List.mem_of_getElem? (i := 17) rfl)) (tw_in9 _ (List.mem_of_getElem? (i := 18) rfl)) (tw_in9 _ (List.mem_of_getElem? (i := 19) rfl)) (tw_in1 _ (List.mem_of_getElem? (i := 5) rfl)) (tw_in9 _ (List.mem_of_getElem? (i := 20) rfl))
theorem tg_RX2_112 : GoodIn wsL_law (wsV RX2 112 RX2 yX2_buyFault (wU yX2_buyFault cX2_buyFault 2 (some .int))) := tw_gU (tw_in9 _ (List.mem_of_getElem? (i := 21) rfl)) (tw_in9 _ (List.mem_of_getElem? (i := 22) rfl)) (tw_in9 _ (List.mem_of_getElem? (i := 23) rfl)) (tw_in1 _ (List.mem_of_getElem? (i := 5) rfl)) (tw_in10 _ (List.mem_of_getElem? (i := 0) rfl))
theorem tg_RX2_80 : GoodIn wsL_law (wsV RX2 80 RX2 yX2_whyNot (wU yX2_whyNot cX2_whyNot 2 (some .int))) := tw_gU (tw_in10 _ (List.mem_of_getElem? (i := 1) rfl)) (tw_in10 _ (List.mem_of_getElem? (i := 2) rfl)) (tw_in10 _ (List.mem_of_getElem? (i := 3) rfl)) (tw_in1 _ (List.mem_of_getElem? (i := 5) rfl)) (tw_in10 _ (List.mem_of_getElem? (i := 4) rfl))
theorem tg_RX2_74 : GoodIn wsL_law (wsV RX2 74 RX2 yX2_isInRow (wU yX2_isInRow cX2_isInRow 2 (some .boolean))) := tw_gU (tw_in10 _ (List.mem_of_getElem? (i := 5) rfl)) (tw_in10 _ (List.mem_of_getElem? (i := 6) rfl)) (tw_in10 _ (List.mem_of_getElem? (i := 7) rfl)) (tw_in1 _ (List.mem_of_getElem? (i := 5) rfl)) (tw_in10 _ (List.mem_of_getElem? (i := 8) rfl))
theorem tg_RX2_77 : GoodIn wsL_law (va_wsS RX2 77 yX2_price (wU yX2_price cX2_price 1 (some .int))) := tw_gS (tw_in10 _ (List.mem_of_getElem? (i := 9) rfl)) (tw_in10 _ (List.mem_of_getElem? (i := 10) rfl)) (tw_in1 _ (List.mem_of_getElem? (i := 5) rfl)) (tw_in10 _ (List.mem_of_getElem? (i := 11) rfl))
theorem tg_RX2_97 : GoodIn wsL_law (wsV RX2 97 RX2 yX2_buys (wU yX2_buys cX2_buys 2 (some .int))) := tw_gU (tw_in10 _ (List.mem_of_getElem? (i := 12) rfl)) (tw_in10 _ (List.mem_of_getElem? (i := 13) rfl)) (tw_in10 _ (List.mem_of_getElem? (i := 14) rfl)) (tw_in1 _ (List.mem_of_getElem? (i := 5) rfl)) (tw_in10 _ (List.mem_of_getElem? (i := 15) rfl))
theorem tg_RL_26 : GoodIn wsL_law (wsV RL 26 RX1 yX1_scrap (wU yX1_scrap cX1_scrap 2 (some .int))) := tw_gU (tw_in10 _ (List.mem_of_getElem? (i := 16) rfl)) (tw_in10 _ (List.mem_of_getElem? (i := 17) rfl)) (tw_in10 _ (List.mem_of_getElem? (i := 18) rfl)) (tw_in1 _ (List.mem_of_getElem? (i := 2) rfl)) (tw_in10 _ (List.mem_of_getElem? (i := 19) rfl))
theorem tg_RX1_48 : GoodIn wsL_law (wsV RX1 48 RX0 yX0_scrapCard (wU yX0_scrapCard cX0_scrapCard 5 (some .int))) := tw_gU (tw_in10 _ (List.mem_of_getElem? (i := 20) rfl)) (tw_in10 _ (List.mem_of_getElem? (i := 21) rfl)) (tw_in10 _ (List.mem_of_getElem? (i := 22) rfl)) (tw_in1 _ (List.mem_of_getElem? (i := 14) rfl)) (tw_in10 _ (List.mem_of_getElem? (i := 23) rfl))
theorem tg_RL_29 : GoodIn wsL_law (wsV RL 29 RX2 yX2_scrap (wU yX2_scrap cX2_scrap 3 (some .int))) := tw_gU (tw_in11 _ (List.mem_of_getElem? (i := 0) rfl)) (tw_in11 _ (List.mem_of_getElem? (i := 1) rfl)) (tw_in11 _ (List.mem_of_getElem? (i := 2) rfl)) (tw_in1 _ (List.mem_of_getElem? (i := 5) rfl)) (tw_in11 _ (List.mem_of_getElem? (i := 3) rfl))
theorem tg_RX2_115 : GoodIn wsL_law (wsV RX2 115 RX2 yX2_scrapFault (wU yX2_scrapFault cX2_scrapFault 2 (some .int))) := tw_gU (tw_in11 _ (List.mem_of_getElem? (i := 4) rfl)) (tw_in11 _ (List.mem_of_getElem? (i := 5) rfl)) (tw_in11 _ (List.mem_of_getElem? (i := 6) rfl)) (tw_in1 _ (List.mem_of_getElem? (i := 5) rfl)) (tw_in11 _ (List.mem_of_getElem? (i := 7) rfl))
theorem tg_RX2_118 : GoodIn wsL_law (wsV RX2 118 RX2 yX2_scraps (wU yX2_scraps cX2_scraps 3 (some .int))) := tw_gU (tw_in11 _ (List.mem_of_getElem? (i := 8) rfl)) (tw_in11 _ (List.mem_of_getElem? (i := 9) rfl)) (tw_in11 _ (List.mem_of_getElem? (i := 10) rfl)) (tw_in1 _ (List.mem_of_getElem? (i := 5) rfl)) (tw_in11 _ (List.mem_of_getElem? (i := 11) rfl))
theorem tg_RL_30 : GoodIn wsL_law (wsV RL 30 RX1 yX1_end (wU yX1_end cX1_end 1 (some .int))) := tw_gU (tw_in11 _ (List.mem_of_getElem? (i := 12) rfl)) (tw_in11 _ (List.mem_of_getElem? (i := 13) rfl)) (tw_in11 _ (List.mem_of_getElem? (i := 14) rfl)) (tw_in1 _ (List.mem_of_getElem? (i := 2) rfl)) (tw_in11 _ (List.mem_of_getElem? (i := 15) rfl))
theorem tg_RX1_51 : GoodIn wsL_law (wsV RX1 51 RX0 yX0_endTurn (wU yX0_endTurn cX0_endTurn 2 (some .int))) := tw_gU (tw_in11 _ (List.mem_of_getElem? (i := 16) rfl)) (tw_in11 _ (List.mem_of_getElem? (i := 17) rfl)) (tw_in11 _ (List.mem_of_getElem? (i := 18) rfl)) (tw_in1 _ (List.mem_of_getElem? (i := 14) rfl)) (tw_in11 _ (List.mem_of_getElem? (i := 19) rfl))
theorem tg_RX0_128 : GoodIn wsL_law (wsV RX0 128 RX0 yX0_emptyPiles (wU yX0_emptyPiles cX0_emptyPiles 3 (some .int))) := tw_gU (tw_in11 _ (List.mem_of_getElem? (i := 20) rfl)) (tw_in11 _ (List.mem_of_getElem? (i := 21) rfl)) (tw_in11 _ (List.mem_of_getElem? (i := 22) rfl)) (tw_in1 _ (List.mem_of_getElem? (i := 14) rfl)) (tw_in11 _ (List.mem_of_getElem? (i := 23) rfl))
theorem tg_RL_34 : GoodIn wsL_law (wsV RL 34 RX2 yX2_end (wU yX2_end cX2_end 1 (some .int))) := tw_gU (tw_in12 _ (List.mem_of_getElem? (i := 0) rfl)) (tw_in12 _ (List.mem_of_getElem? (i := 1) rfl)) (tw_in12 _ (List.mem_of_getElem? (i := 2) rfl)) (tw_in1 _ (List.mem_of_getElem? (i := 5) rfl)) (tw_in12 _ (List.mem_of_getElem? (i := 3) rfl))
theorem tg_RX2_100 : GoodIn wsL_law (wsV RX2 100 RX2 yX2_ends (wU yX2_ends cX2_ends 2 (some .int))) := tw_gU (tw_in12 _ (List.mem_of_getElem? (i := 4) rfl)) (tw_in12 _ (List.mem_of_getElem? (i := 5) rfl)) (tw_in12 _ (List.mem_of_getElem? (i := 6) rfl)) (tw_in1 _ (List.mem_of_getElem? (i := 5) rfl)) (tw_in12 _ (List.mem_of_getElem? (i := 7) rfl))
theorem tg_RX2_83 : GoodIn wsL_law (wsV RX2 83 RX2 yX2_emptyPiles (wU yX2_emptyPiles cX2_emptyPiles 3 (some .int))) := tw_gU (tw_in12 _ (List.mem_of_getElem? (i := 8) rfl)) (tw_in12 _ (List.mem_of_getElem? (i := 9) rfl)) (tw_in12 _ (List.mem_of_getElem? (i := 10) rfl)) (tw_in1 _ (List.mem_of_getElem? (i := 5) rfl)) (tw_in12 _ (List.mem_of_getElem? (i := 11) rfl))
theorem tg_RL_35 : GoodIn wsL_law (wsV RL 35 RX1 yX1_alike (wU yX1_alike cX1_alike 2 (some .int))) := tw_gU (tw_in12 _ (List.mem_of_getElem? (i := 12) rfl)) (tw_in12 _ (List.mem_of_getElem? (i := 13) rfl)) (tw_in12 _ (List.mem_of_getElem? (i := 14) rfl)) (tw_in1 _ (List.mem_of_getElem? (i := 2) rfl)) (tw_in12 _ (List.mem_of_getElem? (i := 15) rfl))
theorem tk_RX1_55 : Cond.constant RX1 55 (Int32.ofInt (-1000001)) ∈ wsL_law := tw_in12 _ (List.mem_of_getElem? (i := 16) rfl)
theorem tl_RX1_56 : Cond.fieldLink RX1 56 "TurningShop$Game" "over" "Z" ∈ wsL_law := tw_in12 _ (List.mem_of_getElem? (i := 17) rfl)
theorem tk_RX1_60 : Cond.constant RX1 60 (Int32.ofInt (-1000002)) ∈ wsL_law := tw_in12 _ (List.mem_of_getElem? (i := 18) rfl)
theorem tg_RX1_61 : GoodIn wsL_law (wsV RX1 61 RX0 yX0_goOnAlike (wU yX0_goOnAlike cX0_goOnAlike 3 (some .int))) := tw_gU (tw_in12 _ (List.mem_of_getElem? (i := 19) rfl)) (tw_in12 _ (List.mem_of_getElem? (i := 20) rfl)) (tw_in12 _ (List.mem_of_getElem? (i := 21) rfl)) (tw_in1 _ (List.mem_of_getElem? (i := 14) rfl)) (tw_in12 _ (List.mem_of_getElem? (i := 22) rfl))
theorem tg_RX0_132 : GoodIn wsL_law (wsV RX0 132 RX0 yX0_playTurnAlike (wU yX0_playTurnAlike cX0_playTurnAlike 3 none)) := tw_gU (tw_in12 _ (List.mem_of_getElem? (i := 23) rfl)) (tw_in13 _ (List.mem_of_getElem? (i := 0) rfl)) (tw_in13 _ (List.mem_of_getElem? (i := 1) rfl)) (tw_in1 _ (List.mem_of_getElem? (i := 14) rfl)) (tw_in13 _ (List.mem_of_getElem? (i := 2) rfl))
theorem tg_RX0_135 : GoodIn wsL_law (wsV RX0 135 RX0 yX0_firstInHand (wU yX0_firstInHand cX0_firstInHand 6 (some .int))) := tw_gU (tw_in13 _ (List.mem_of_getElem? (i := 3) rfl)) (tw_in13 _ (List.mem_of_getElem? (i := 4) rfl)) (tw_in13 _ (List.mem_of_getElem? (i := 5) rfl)) (tw_in1 _ (List.mem_of_getElem? (i := 14) rfl)) (tw_in13 _ (List.mem_of_getElem? (i := 6) rfl))
theorem tg_RX0_139 : GoodIn wsL_law (wsV RX0 139 RX0 yX0_playCard (wU yX0_playCard cX0_playCard 5 (some .int))) := tw_gU (tw_in13 _ (List.mem_of_getElem? (i := 7) rfl)) (tw_in7 _ (List.mem_of_getElem? (i := 2) rfl)) (tw_in7 _ (List.mem_of_getElem? (i := 3) rfl)) (tw_in1 _ (List.mem_of_getElem? (i := 14) rfl)) (tw_in7 _ (List.mem_of_getElem? (i := 4) rfl))
theorem tg_RX0_142 : GoodIn wsL_law (wsV RX0 142 RX0 yX0_dearestToBuy (wU yX0_dearestToBuy cX0_dearestToBuy 4 (some .int))) := tw_gU (tw_in13 _ (List.mem_of_getElem? (i := 8) rfl)) (tw_in13 _ (List.mem_of_getElem? (i := 9) rfl)) (tw_in13 _ (List.mem_of_getElem? (i := 10) rfl)) (tw_in1 _ (List.mem_of_getElem? (i := 14) rfl)) (tw_in13 _ (List.mem_of_getElem? (i := 11) rfl))
theorem tg_RX0_145 : GoodIn wsL_law (wsV RX0 145 RX0 yX0_buyCard (wU yX0_buyCard cX0_buyCard 2 (some .int))) := tw_gU (tw_in13 _ (List.mem_of_getElem? (i := 12) rfl)) (tw_in9 _ (List.mem_of_getElem? (i := 6) rfl)) (tw_in9 _ (List.mem_of_getElem? (i := 7) rfl)) (tw_in1 _ (List.mem_of_getElem? (i := 14) rfl)) (tw_in9 _ (List.mem_of_getElem? (i := 8) rfl))
theorem tg_RX0_148 : GoodIn wsL_law (wsV RX0 148 RX0 yX0_endTurn (wU yX0_endTurn cX0_endTurn 2 (some .int))) := tw_gU (tw_in13 _ (List.mem_of_getElem? (i := 13) rfl)) (tw_in11 _ (List.mem_of_getElem? (i := 17) rfl)) (tw_in11 _ (List.mem_of_getElem? (i := 18) rfl)) (tw_in1 _ (List.mem_of_getElem? (i := 14) rfl)) (tw_in11 _ (List.mem_of_getElem? (i := 19) rfl))
theorem tg_RL_38 : GoodIn wsL_law (wsV RL 38 RX2 yX2_alike (wU yX2_alike cX2_alike 2 (some .int))) := tw_gU (tw_in13 _ (List.mem_of_getElem? (i := 14) rfl)) (tw_in13 _ (List.mem_of_getElem? (i := 15) rfl)) (tw_in13 _ (List.mem_of_getElem? (i := 16) rfl)) (tw_in1 _ (List.mem_of_getElem? (i := 5) rfl)) (tw_in13 _ (List.mem_of_getElem? (i := 17) rfl))
theorem tg_RX2_121 : GoodIn wsL_law (wsV RX2 121 RX2 yX2_goesOn (wU yX2_goesOn cX2_goesOn 3 (some .int))) := tw_gU (tw_in13 _ (List.mem_of_getElem? (i := 18) rfl)) (tw_in13 _ (List.mem_of_getElem? (i := 19) rfl)) (tw_in13 _ (List.mem_of_getElem? (i := 20) rfl)) (tw_in1 _ (List.mem_of_getElem? (i := 5) rfl)) (tw_in13 _ (List.mem_of_getElem? (i := 21) rfl))
theorem tg_RX2_103 : GoodIn wsL_law (wsV RX2 103 RX2 yX2_goOn (wU yX2_goOn cX2_goOn 2 none)) := tw_gU (tw_in13 _ (List.mem_of_getElem? (i := 22) rfl)) (tw_in13 _ (List.mem_of_getElem? (i := 23) rfl)) (tw_in14 _ (List.mem_of_getElem? (i := 0) rfl)) (tw_in1 _ (List.mem_of_getElem? (i := 5) rfl)) (tw_in14 _ (List.mem_of_getElem? (i := 1) rfl))
theorem tg_RX2_87 : GoodIn wsL_law (wsV RX2 87 RX2 yX2_firstOf (wU yX2_firstOf cX2_firstOf 3 (some .int))) := tw_gU (tw_in14 _ (List.mem_of_getElem? (i := 2) rfl)) (tw_in14 _ (List.mem_of_getElem? (i := 3) rfl)) (tw_in14 _ (List.mem_of_getElem? (i := 4) rfl)) (tw_in1 _ (List.mem_of_getElem? (i := 5) rfl)) (tw_in14 _ (List.mem_of_getElem? (i := 5) rfl))
theorem tg_RX2_94 : GoodIn wsL_law (wsV RX2 94 RX2 yX2_dearest (wU yX2_dearest cX2_dearest 4 (some .int))) := tw_gU (tw_in14 _ (List.mem_of_getElem? (i := 6) rfl)) (tw_in14 _ (List.mem_of_getElem? (i := 7) rfl)) (tw_in14 _ (List.mem_of_getElem? (i := 8) rfl)) (tw_in1 _ (List.mem_of_getElem? (i := 5) rfl)) (tw_in14 _ (List.mem_of_getElem? (i := 9) rfl))
theorem tg_RL_39 : GoodIn wsL_law (wsV RL 39 RX1 yX1_set (wU yX1_set cX1_set 4 (some .int))) := tw_gU (tw_in14 _ (List.mem_of_getElem? (i := 10) rfl)) (tw_in14 _ (List.mem_of_getElem? (i := 11) rfl)) (tw_in14 _ (List.mem_of_getElem? (i := 12) rfl)) (tw_in1 _ (List.mem_of_getElem? (i := 2) rfl)) (tw_in14 _ (List.mem_of_getElem? (i := 13) rfl))
theorem tg_RL_43 : GoodIn wsL_law (wsV RL 43 RX2 yX2_set (wU yX2_set cX2_set 4 (some .int))) := tw_gU (tw_in14 _ (List.mem_of_getElem? (i := 14) rfl)) (tw_in14 _ (List.mem_of_getElem? (i := 15) rfl)) (tw_in14 _ (List.mem_of_getElem? (i := 16) rfl)) (tw_in1 _ (List.mem_of_getElem? (i := 5) rfl)) (tw_in14 _ (List.mem_of_getElem? (i := 17) rfl))
theorem tg_RL_44 : GoodIn wsL_law (wsV RL 44 RX1 yX1_card (wU yX1_card cX1_card 5 (some .int))) := tw_gU (tw_in14 _ (List.mem_of_getElem? (i := 18) rfl)) (tw_in14 _ (List.mem_of_getElem? (i := 19) rfl)) (tw_in14 _ (List.mem_of_getElem? (i := 20) rfl)) (tw_in1 _ (List.mem_of_getElem? (i := 2) rfl)) (tw_in14 _ (List.mem_of_getElem? (i := 21) rfl))
theorem tk_RX1_75 : Cond.constant RX1 75 (Int32.ofInt (-1000004)) ∈ wsL_law := tw_in14 _ (List.mem_of_getElem? (i := 22) rfl)
theorem tg_RX1_64 : GoodIn wsL_law (wsV RX1 64 RX0 yX0_hasPlayer (wU yX0_hasPlayer cX0_hasPlayer 2 (some .boolean))) := tw_gU (tw_in14 _ (List.mem_of_getElem? (i := 23) rfl)) (tw_in15 _ (List.mem_of_getElem? (i := 0) rfl)) (tw_in15 _ (List.mem_of_getElem? (i := 1) rfl)) (tw_in1 _ (List.mem_of_getElem? (i := 14) rfl)) (tw_in15 _ (List.mem_of_getElem? (i := 2) rfl))
theorem tg_RX1_68 : GoodIn wsL_law (va_wsS RX1 68 yX1_partAt (wU yX1_partAt cX1_partAt 1 (some .int))) := tw_gS (tw_in15 _ (List.mem_of_getElem? (i := 3) rfl)) (tw_in15 _ (List.mem_of_getElem? (i := 4) rfl)) (tw_in1 _ (List.mem_of_getElem? (i := 2) rfl)) (tw_in15 _ (List.mem_of_getElem? (i := 5) rfl))
theorem tg_RX1_71 : GoodIn wsL_law (wsV RX1 71 RX0 yX0_cardOf (wU yX0_cardOf cX0_cardOf 6 (some .int))) := tw_gU (tw_in15 _ (List.mem_of_getElem? (i := 6) rfl)) (tw_in7 _ (List.mem_of_getElem? (i := 7) rfl)) (tw_in7 _ (List.mem_of_getElem? (i := 8) rfl)) (tw_in1 _ (List.mem_of_getElem? (i := 14) rfl)) (tw_in7 _ (List.mem_of_getElem? (i := 9) rfl))
theorem tg_RL_48 : GoodIn wsL_law (wsV RL 48 RX2 yX2_card (wU yX2_card cX2_card 4 (some .int))) := tw_gU (tw_in15 _ (List.mem_of_getElem? (i := 7) rfl)) (tw_in15 _ (List.mem_of_getElem? (i := 8) rfl)) (tw_in15 _ (List.mem_of_getElem? (i := 9) rfl)) (tw_in1 _ (List.mem_of_getElem? (i := 5) rfl)) (tw_in15 _ (List.mem_of_getElem? (i := 10) rfl))
theorem tk_RX2_127 : Cond.constant RX2 127 (Int32.ofInt (-1000004)) ∈ wsL_law := tw_in15 _ (List.mem_of_getElem? (i := 11) rfl)
theorem tg_RX2_124 : GoodIn wsL_law (wsV RX2 124 RX2 yX2_isPlayer (wU yX2_isPlayer cX2_isPlayer 2 (some .boolean))) := tw_gU (tw_in15 _ (List.mem_of_getElem? (i := 12) rfl)) (tw_in15 _ (List.mem_of_getElem? (i := 13) rfl)) (tw_in15 _ (List.mem_of_getElem? (i := 14) rfl)) (tw_in1 _ (List.mem_of_getElem? (i := 5) rfl)) (tw_in15 _ (List.mem_of_getElem? (i := 15) rfl))
theorem tg_RL_49 : GoodIn wsL_law (wsV RL 49 RX1 yX1_many (wU yX1_many cX1_many 5 (some .int))) := tw_gU (tw_in15 _ (List.mem_of_getElem? (i := 16) rfl)) (tw_in15 _ (List.mem_of_getElem? (i := 17) rfl)) (tw_in15 _ (List.mem_of_getElem? (i := 18) rfl)) (tw_in1 _ (List.mem_of_getElem? (i := 2) rfl)) (tw_in15 _ (List.mem_of_getElem? (i := 19) rfl))
theorem tg_RX1_76 : GoodIn wsL_law (wsV RX1 76 RX0 yX0_howMany (wU yX0_howMany cX0_howMany 9 (some .int))) := tw_gU (tw_in15 _ (List.mem_of_getElem? (i := 20) rfl)) (tw_in15 _ (List.mem_of_getElem? (i := 21) rfl)) (tw_in15 _ (List.mem_of_getElem? (i := 22) rfl)) (tw_in1 _ (List.mem_of_getElem? (i := 14) rfl)) (tw_in15 _ (List.mem_of_getElem? (i := 23) rfl))
theorem tg_RL_52 : GoodIn wsL_law (wsV RL 52 RX2 yX2_many (wU yX2_many cX2_many 4 (some .int))) := tw_gU (tw_in16 _ (List.mem_of_getElem? (i := 0) rfl)) (tw_in16 _ (List.mem_of_getElem? (i := 1) rfl)) (tw_in16 _ (List.mem_of_getElem? (i := 2) rfl)) (tw_in1 _ (List.mem_of_getElem? (i := 5) rfl)) (tw_in16 _ (List.mem_of_getElem? (i := 3) rfl))
theorem tg_RX2_128 : GoodIn wsL_law (wsV RX2 128 RX2 yX2_cardsOf (wU yX2_cardsOf cX2_cardsOf 8 (some .int))) := tw_gU (tw_in16 _ (List.mem_of_getElem? (i := 4) rfl)) (tw_in16 _ (List.mem_of_getElem? (i := 5) rfl)) (tw_in16 _ (List.mem_of_getElem? (i := 6) rfl)) (tw_in1 _ (List.mem_of_getElem? (i := 5) rfl)) (tw_in16 _ (List.mem_of_getElem? (i := 7) rfl))
theorem tg_RL_53 : GoodIn wsL_law (wsV RL 53 RX1 yX1_points (wU yX1_points cX1_points 2 (some .int))) := tw_gU (tw_in16 _ (List.mem_of_getElem? (i := 8) rfl)) (tw_in16 _ (List.mem_of_getElem? (i := 9) rfl)) (tw_in16 _ (List.mem_of_getElem? (i := 10) rfl)) (tw_in1 _ (List.mem_of_getElem? (i := 2) rfl)) (tw_in16 _ (List.mem_of_getElem? (i := 11) rfl))
theorem tl_RX1_80 : Cond.fieldLink RX1 80 "TurningShop" "POINTS" "[I" ∈ wsL_law := tw_in16 _ (List.mem_of_getElem? (i := 12) rfl)
theorem tg_RX1_84 : GoodIn wsL_law (wsV RX1 84 RX0 yX0_sumOf (wU yX0_sumOf cX0_sumOf 8 (some .int))) := tw_gU (tw_in16 _ (List.mem_of_getElem? (i := 13) rfl)) (tw_in16 _ (List.mem_of_getElem? (i := 14) rfl)) (tw_in16 _ (List.mem_of_getElem? (i := 15) rfl)) (tw_in1 _ (List.mem_of_getElem? (i := 14) rfl)) (tw_in16 _ (List.mem_of_getElem? (i := 16) rfl))
theorem tg_RL_56 : GoodIn wsL_law (wsV RL 56 RX2 yX2_points (wU yX2_points cX2_points 2 (some .int))) := tw_gU (tw_in16 _ (List.mem_of_getElem? (i := 17) rfl)) (tw_in16 _ (List.mem_of_getElem? (i := 18) rfl)) (tw_in16 _ (List.mem_of_getElem? (i := 19) rfl)) (tw_in1 _ (List.mem_of_getElem? (i := 5) rfl)) (tw_in16 _ (List.mem_of_getElem? (i := 20) rfl))
theorem tg_RX2_135 : GoodIn wsL_law (wsV RX2 135 RX2 yX2_pointsBy (wU yX2_pointsBy cX2_pointsBy 4 (some .int))) := tw_gU (tw_in16 _ (List.mem_of_getElem? (i := 21) rfl)) (tw_in16 _ (List.mem_of_getElem? (i := 22) rfl)) (tw_in16 _ (List.mem_of_getElem? (i := 23) rfl)) (tw_in1 _ (List.mem_of_getElem? (i := 5) rfl)) (tw_in17 _ (List.mem_of_getElem? (i := 0) rfl))
theorem tg_RX2_132 : GoodIn wsL_law (va_wsS RX2 132 yX2_pointsOf (wU yX2_pointsOf cX2_pointsOf 1 (some .int))) := tw_gS (tw_in17 _ (List.mem_of_getElem? (i := 1) rfl)) (tw_in17 _ (List.mem_of_getElem? (i := 2) rfl)) (tw_in1 _ (List.mem_of_getElem? (i := 5) rfl)) (tw_in17 _ (List.mem_of_getElem? (i := 3) rfl))
theorem tg_RL_57 : GoodIn wsL_law (wsV RL 57 RX1 yX1_kindOf (wU yX1_kindOf cX1_kindOf 3 (some .int))) := tw_gU (tw_in17 _ (List.mem_of_getElem? (i := 4) rfl)) (tw_in17 _ (List.mem_of_getElem? (i := 5) rfl)) (tw_in17 _ (List.mem_of_getElem? (i := 6) rfl)) (tw_in1 _ (List.mem_of_getElem? (i := 2) rfl)) (tw_in17 _ (List.mem_of_getElem? (i := 7) rfl))
theorem tl_RX1_88 : Cond.fieldLink RX1 88 "TurningShop" "PRICE" "[I" ∈ wsL_law := tw_in17 _ (List.mem_of_getElem? (i := 8) rfl)
theorem tl_RX1_91 : Cond.fieldLink RX1 91 "TurningShop$Game" "piles" "[I" ∈ wsL_law := tw_in17 _ (List.mem_of_getElem? (i := 9) rfl)
theorem tl_RX1_97 : Cond.fieldLink RX1 97 "TurningShop$Game" "scrapped" "[I" ∈ wsL_law := tw_in17 _ (List.mem_of_getElem? (i := 10) rfl)
theorem tg_RX1_94 : GoodIn wsL_law (wsV RX1 94 RX0 yX0_isInRow (wU yX0_isInRow cX0_isInRow 2 (some .boolean))) := tw_gU (tw_in17 _ (List.mem_of_getElem? (i := 11) rfl)) (tw_in9 _ (List.mem_of_getElem? (i := 14) rfl)) (tw_in9 _ (List.mem_of_getElem? (i := 15) rfl)) (tw_in1 _ (List.mem_of_getElem? (i := 14) rfl)) (tw_in9 _ (List.mem_of_getElem? (i := 16) rfl))
theorem tg_RX1_100 : GoodIn wsL_law (wsV RX1 100 RX0 yX0_whyNotBought (wU yX0_whyNotBought cX0_whyNotBought 2 (some .int))) := tw_gU (tw_in17 _ (List.mem_of_getElem? (i := 12) rfl)) (tw_in9 _ (List.mem_of_getElem? (i := 10) rfl)) (tw_in9 _ (List.mem_of_getElem? (i := 11) rfl)) (tw_in1 _ (List.mem_of_getElem? (i := 14) rfl)) (tw_in9 _ (List.mem_of_getElem? (i := 12) rfl))
theorem tg_RL_60 : GoodIn wsL_law (wsV RL 60 RX2 yX2_kindOf (wU yX2_kindOf cX2_kindOf 3 (some .int))) := tw_gU (tw_in17 _ (List.mem_of_getElem? (i := 13) rfl)) (tw_in17 _ (List.mem_of_getElem? (i := 14) rfl)) (tw_in17 _ (List.mem_of_getElem? (i := 15) rfl)) (tw_in1 _ (List.mem_of_getElem? (i := 5) rfl)) (tw_in17 _ (List.mem_of_getElem? (i := 16) rfl))
theorem tg_RL_61 : GoodIn wsL_law (wsV RL 61 RX1 yX1_turn (wU yX1_turn cX1_turn 2 (some .int))) := tw_gU (tw_in17 _ (List.mem_of_getElem? (i := 17) rfl)) (tw_in17 _ (List.mem_of_getElem? (i := 18) rfl)) (tw_in17 _ (List.mem_of_getElem? (i := 19) rfl)) (tw_in1 _ (List.mem_of_getElem? (i := 2) rfl)) (tw_in17 _ (List.mem_of_getElem? (i := 20) rfl))
theorem tl_RX1_103 : Cond.fieldLink RX1 103 "TurningShop$Game" "player" "I" ∈ wsL_law := tw_in17 _ (List.mem_of_getElem? (i := 21) rfl)
theorem tl_RX1_106 : Cond.fieldLink RX1 106 "TurningShop$Game" "coins" "I" ∈ wsL_law := tw_in17 _ (List.mem_of_getElem? (i := 22) rfl)
theorem tl_RX1_109 : Cond.fieldLink RX1 109 "TurningShop$Game" "buys" "I" ∈ wsL_law := tw_in17 _ (List.mem_of_getElem? (i := 23) rfl)
theorem tl_RX1_112 : Cond.fieldLink RX1 112 "TurningShop$Game" "actions" "I" ∈ wsL_law := tw_in18 _ (List.mem_of_getElem? (i := 0) rfl)
theorem tl_RX1_115 : Cond.fieldLink RX1 115 "TurningShop$Game" "scraps" "I" ∈ wsL_law := tw_in18 _ (List.mem_of_getElem? (i := 1) rfl)
theorem tl_RX1_121 : Cond.fieldLink RX1 121 "TurningShop$Game" "rowFirst" "I" ∈ wsL_law := tw_in18 _ (List.mem_of_getElem? (i := 2) rfl)
theorem tg_RX1_118 : GoodIn wsL_law (wsV RX1 118 RX0 yX0_kindsToBuy (wU yX0_kindsToBuy cX0_kindsToBuy 3 (some .int))) := tw_gU (tw_in18 _ (List.mem_of_getElem? (i := 3) rfl)) (tw_in18 _ (List.mem_of_getElem? (i := 4) rfl)) (tw_in18 _ (List.mem_of_getElem? (i := 5) rfl)) (tw_in1 _ (List.mem_of_getElem? (i := 14) rfl)) (tw_in18 _ (List.mem_of_getElem? (i := 6) rfl))
theorem tg_RL_64 : GoodIn wsL_law (wsV RL 64 RX2 yX2_turn (wU yX2_turn cX2_turn 2 (some .int))) := tw_gU (tw_in18 _ (List.mem_of_getElem? (i := 7) rfl)) (tw_in18 _ (List.mem_of_getElem? (i := 8) rfl)) (tw_in18 _ (List.mem_of_getElem? (i := 9) rfl)) (tw_in1 _ (List.mem_of_getElem? (i := 5) rfl)) (tw_in18 _ (List.mem_of_getElem? (i := 10) rfl))
theorem tg_RX2_138 : GoodIn wsL_law (wsV RX2 138 RX2 yX2_canBuy (wU yX2_canBuy cX2_canBuy 3 (some .int))) := tw_gU (tw_in18 _ (List.mem_of_getElem? (i := 11) rfl)) (tw_in18 _ (List.mem_of_getElem? (i := 12) rfl)) (tw_in18 _ (List.mem_of_getElem? (i := 13) rfl)) (tw_in1 _ (List.mem_of_getElem? (i := 5) rfl)) (tw_in18 _ (List.mem_of_getElem? (i := 14) rfl))
theorem tg_RL_65 : GoodIn wsL_law (wsV RL 65 RX1 yX1_purse (wU yX1_purse cX1_purse 3 (some .int))) := tw_gU (tw_in18 _ (List.mem_of_getElem? (i := 15) rfl)) (tw_in18 _ (List.mem_of_getElem? (i := 16) rfl)) (tw_in18 _ (List.mem_of_getElem? (i := 17) rfl)) (tw_in1 _ (List.mem_of_getElem? (i := 2) rfl)) (tw_in18 _ (List.mem_of_getElem? (i := 18) rfl))
theorem tl_RX1_124 : Cond.fieldLink RX1 124 "TurningShop" "GIVES_COINS" "[I" ∈ wsL_law := tw_in18 _ (List.mem_of_getElem? (i := 19) rfl)
theorem tg_RL_68 : GoodIn wsL_law (wsV RL 68 RX2 yX2_purse (wU yX2_purse cX2_purse 3 (some .int))) := tw_gU (tw_in18 _ (List.mem_of_getElem? (i := 20) rfl)) (tw_in18 _ (List.mem_of_getElem? (i := 21) rfl)) (tw_in18 _ (List.mem_of_getElem? (i := 22) rfl)) (tw_in1 _ (List.mem_of_getElem? (i := 5) rfl)) (tw_in18 _ (List.mem_of_getElem? (i := 23) rfl))
theorem tg_RL_69 : GoodIn wsL_law (wsV RL 69 RX1 yX1_outcome (wU yX1_outcome cX1_outcome 5 (some .int))) := tw_gU (tw_in19 _ (List.mem_of_getElem? (i := 0) rfl)) (tw_in19 _ (List.mem_of_getElem? (i := 1) rfl)) (tw_in19 _ (List.mem_of_getElem? (i := 2) rfl)) (tw_in1 _ (List.mem_of_getElem? (i := 2) rfl)) (tw_in19 _ (List.mem_of_getElem? (i := 3) rfl))
theorem tg_RX1_127 : GoodIn wsL_law (wsV RX1 127 RX0 yX0_leader (wU yX0_leader cX0_leader 3 (some .int))) := tw_gU (tw_in19 _ (List.mem_of_getElem? (i := 4) rfl)) (tw_in19 _ (List.mem_of_getElem? (i := 5) rfl)) (tw_in19 _ (List.mem_of_getElem? (i := 6) rfl)) (tw_in1 _ (List.mem_of_getElem? (i := 14) rfl)) (tw_in19 _ (List.mem_of_getElem? (i := 7) rfl))
theorem tg_RX0_154 : GoodIn wsL_law (wsV RX0 154 RX0 yX0_sumOf (wU yX0_sumOf cX0_sumOf 8 (some .int))) := tw_gU (tw_in19 _ (List.mem_of_getElem? (i := 8) rfl)) (tw_in16 _ (List.mem_of_getElem? (i := 14) rfl)) (tw_in16 _ (List.mem_of_getElem? (i := 15) rfl)) (tw_in1 _ (List.mem_of_getElem? (i := 14) rfl)) (tw_in16 _ (List.mem_of_getElem? (i := 16) rfl))
theorem tg_RL_72 : GoodIn wsL_law (wsV RL 72 RX2 yX2_outcome (wU yX2_outcome cX2_outcome 5 (some .int))) := tw_gU (tw_in19 _ (List.mem_of_getElem? (i := 9) rfl)) (tw_in19 _ (List.mem_of_getElem? (i := 10) rfl)) (tw_in19 _ (List.mem_of_getElem? (i := 11) rfl)) (tw_in1 _ (List.mem_of_getElem? (i := 5) rfl)) (tw_in19 _ (List.mem_of_getElem? (i := 12) rfl))
theorem tg_RX2_141 : GoodIn wsL_law (wsV RX2 141 RX2 yX2_putAside (wU yX2_putAside cX2_putAside 2 none)) := tw_gU (tw_in19 _ (List.mem_of_getElem? (i := 13) rfl)) (tw_in19 _ (List.mem_of_getElem? (i := 14) rfl)) (tw_in19 _ (List.mem_of_getElem? (i := 15) rfl)) (tw_in1 _ (List.mem_of_getElem? (i := 5) rfl)) (tw_in19 _ (List.mem_of_getElem? (i := 16) rfl))
theorem tg_RX2_144 : GoodIn wsL_law (wsV RX2 144 RX2 yX2_leader (wU yX2_leader cX2_leader 3 (some .int))) := tw_gU (tw_in19 _ (List.mem_of_getElem? (i := 17) rfl)) (tw_in19 _ (List.mem_of_getElem? (i := 18) rfl)) (tw_in19 _ (List.mem_of_getElem? (i := 19) rfl)) (tw_in1 _ (List.mem_of_getElem? (i := 5) rfl)) (tw_in19 _ (List.mem_of_getElem? (i := 20) rfl))
theorem tg_RX2_147 : GoodIn wsL_law (wsV RX2 147 RX2 yX2_putBack (wU yX2_putBack cX2_putBack 2 none)) := tw_gU (tw_in19 _ (List.mem_of_getElem? (i := 21) rfl)) (tw_in19 _ (List.mem_of_getElem? (i := 22) rfl)) (tw_in19 _ (List.mem_of_getElem? (i := 23) rfl)) (tw_in1 _ (List.mem_of_getElem? (i := 5) rfl)) (tw_in20 _ (List.mem_of_getElem? (i := 0) rfl))
theorem tg_RL_73 : GoodIn wsL_law (wsV RL 73 RX1 yX1_advice (wU yX1_advice cX1_advice 6 (some .int))) := tw_gU (tw_in20 _ (List.mem_of_getElem? (i := 1) rfl)) (tw_in20 _ (List.mem_of_getElem? (i := 2) rfl)) (tw_in20 _ (List.mem_of_getElem? (i := 3) rfl)) (tw_in1 _ (List.mem_of_getElem? (i := 2) rfl)) (tw_in20 _ (List.mem_of_getElem? (i := 4) rfl))
theorem tg_RX1_130 : GoodIn wsL_law (wsV RX1 130 RX1 yX1_pointsAfter (wU yX1_pointsAfter cX1_pointsAfter 3 (some .int))) := tw_gU (tw_in20 _ (List.mem_of_getElem? (i := 5) rfl)) (tw_in20 _ (List.mem_of_getElem? (i := 6) rfl)) (tw_in20 _ (List.mem_of_getElem? (i := 7) rfl)) (tw_in1 _ (List.mem_of_getElem? (i := 2) rfl)) (tw_in20 _ (List.mem_of_getElem? (i := 8) rfl))
theorem tg_RL_76 : GoodIn wsL_law (wsV RL 76 RX2 yX2_advice (wU yX2_advice cX2_advice 7 (some .int))) := tw_gU (tw_in20 _ (List.mem_of_getElem? (i := 9) rfl)) (tw_in20 _ (List.mem_of_getElem? (i := 10) rfl)) (tw_in20 _ (List.mem_of_getElem? (i := 11) rfl)) (tw_in1 _ (List.mem_of_getElem? (i := 5) rfl)) (tw_in20 _ (List.mem_of_getElem? (i := 12) rfl))
theorem tg_RX2_150 : GoodIn wsL_law (wsV RX2 150 RX2 yX2_wouldHave (wU yX2_wouldHave cX2_wouldHave 6 (some .int))) := tw_gU (tw_in20 _ (List.mem_of_getElem? (i := 13) rfl)) (tw_in20 _ (List.mem_of_getElem? (i := 14) rfl)) (tw_in20 _ (List.mem_of_getElem? (i := 15) rfl)) (tw_in1 _ (List.mem_of_getElem? (i := 5) rfl)) (tw_in20 _ (List.mem_of_getElem? (i := 16) rfl))
theorem tg_RL_77 : GoodIn wsL_law (wsV RL 77 RX1 yX1_wealth (wU yX1_wealth cX1_wealth 4 (some .int))) := tw_gU (tw_in20 _ (List.mem_of_getElem? (i := 17) rfl)) (tw_in20 _ (List.mem_of_getElem? (i := 18) rfl)) (tw_in20 _ (List.mem_of_getElem? (i := 19) rfl)) (tw_in1 _ (List.mem_of_getElem? (i := 2) rfl)) (tw_in20 _ (List.mem_of_getElem? (i := 20) rfl))
theorem tg_RX1_133 : GoodIn wsL_law (va_wsS RX1 133 yX1_bitsOf (wU yX1_bitsOf cX1_bitsOf 4 (some .int))) := tw_gS (tw_in20 _ (List.mem_of_getElem? (i := 21) rfl)) (tw_in20 _ (List.mem_of_getElem? (i := 22) rfl)) (tw_in1 _ (List.mem_of_getElem? (i := 2) rfl)) (tw_in20 _ (List.mem_of_getElem? (i := 23) rfl))
theorem tg_RL_80 : GoodIn wsL_law (wsV RL 80 RX2 yX2_wealth (wU yX2_wealth cX2_wealth 5 (some .int))) := tw_gU (tw_in21 _ (List.mem_of_getElem? (i := 1) rfl)) (tw_in21 _ (List.mem_of_getElem? (i := 2) rfl)) (tw_in21 _ (List.mem_of_getElem? (i := 3) rfl)) (tw_in1 _ (List.mem_of_getElem? (i := 5) rfl)) (tw_in21 _ (List.mem_of_getElem? (i := 4) rfl))
theorem tg_RX2_156 : GoodIn wsL_law (va_wsS RX2 156 yX2_bitsOf (wU yX2_bitsOf cX2_bitsOf 3 (some .int))) := tw_gS (tw_in21 _ (List.mem_of_getElem? (i := 5) rfl)) (tw_in21 _ (List.mem_of_getElem? (i := 6) rfl)) (tw_in1 _ (List.mem_of_getElem? (i := 5) rfl)) (tw_in21 _ (List.mem_of_getElem? (i := 7) rfl))
theorem tk_RX2_154 : Cond.constant RX2 154 (Int32.ofInt (8388608)) ∈ wsL_law := tw_in21 _ (List.mem_of_getElem? (i := 9) rfl)
theorem tg_RL_81 : GoodIn wsL_law (wsV RL 81 RX1 yX1_count (wU yX1_count cX1_count 2 (some .int))) := tw_gU (tw_in21 _ (List.mem_of_getElem? (i := 11) rfl)) (tw_in21 _ (List.mem_of_getElem? (i := 12) rfl)) (tw_in21 _ (List.mem_of_getElem? (i := 13) rfl)) (tw_in1 _ (List.mem_of_getElem? (i := 2) rfl)) (tw_in21 _ (List.mem_of_getElem? (i := 14) rfl))
theorem tl_RX1_137 : Cond.fieldLink RX1 137 "TurningShop$Game" "players" "I" ∈ wsL_law := tw_in21 _ (List.mem_of_getElem? (i := 15) rfl)
theorem tl_RX1_140 : Cond.fieldLink RX1 140 "TurningShop$Game" "endedTurns" "I" ∈ wsL_law := tw_in21 _ (List.mem_of_getElem? (i := 16) rfl)
theorem tl_RX1_153 : Cond.fieldLink RX1 153 "TurningShop" "textLength" "I" ∈ wsL_law := tw_in21 _ (List.mem_of_getElem? (i := 17) rfl)
theorem tg_RX1_143 : GoodIn wsL_law (wsV RX1 143 RX0 yX0_emptyPiles (wU yX0_emptyPiles cX0_emptyPiles 3 (some .int))) := tw_gU (tw_in21 _ (List.mem_of_getElem? (i := 18) rfl)) (tw_in11 _ (List.mem_of_getElem? (i := 21) rfl)) (tw_in11 _ (List.mem_of_getElem? (i := 22) rfl)) (tw_in1 _ (List.mem_of_getElem? (i := 14) rfl)) (tw_in11 _ (List.mem_of_getElem? (i := 23) rfl))
theorem tg_RX1_146 : GoodIn wsL_law (va_wsS RX1 146 yX1_sum (wU yX1_sum cX1_sum 3 (some .int))) := tw_gS (tw_in21 _ (List.mem_of_getElem? (i := 19) rfl)) (tw_in21 _ (List.mem_of_getElem? (i := 20) rfl)) (tw_in1 _ (List.mem_of_getElem? (i := 2) rfl)) (tw_in21 _ (List.mem_of_getElem? (i := 21) rfl))
theorem tg_RL_84 : GoodIn wsL_law (wsV RL 84 RX2 yX2_count (wU yX2_count cX2_count 2 (some .int))) := tw_gU (tw_in21 _ (List.mem_of_getElem? (i := 22) rfl)) (tw_in21 _ (List.mem_of_getElem? (i := 23) rfl)) (tw_in22 _ (List.mem_of_getElem? (i := 0) rfl)) (tw_in1 _ (List.mem_of_getElem? (i := 5) rfl)) (tw_in22 _ (List.mem_of_getElem? (i := 1) rfl))
theorem tl_RX2_163 : Cond.fieldLink RX2 163 "TurningShopModel" "length" "I" ∈ wsL_law := tw_in22 _ (List.mem_of_getElem? (i := 2) rfl)
theorem tg_RX2_160 : GoodIn wsL_law (wsV RX2 160 RX2 yX2_sum (wU yX2_sum cX2_sum 4 (some .int))) := tw_gU (tw_in22 _ (List.mem_of_getElem? (i := 3) rfl)) (tw_in22 _ (List.mem_of_getElem? (i := 4) rfl)) (tw_in22 _ (List.mem_of_getElem? (i := 5) rfl)) (tw_in1 _ (List.mem_of_getElem? (i := 5) rfl)) (tw_in22 _ (List.mem_of_getElem? (i := 6) rfl))
theorem tg_RL_85 : GoodIn wsL_law (wsV RL 85 RX1 yX1_undo (wU yX1_undo cX1_undo 2 (some .int))) := tw_gU (tw_in22 _ (List.mem_of_getElem? (i := 7) rfl)) (tw_in22 _ (List.mem_of_getElem? (i := 8) rfl)) (tw_in22 _ (List.mem_of_getElem? (i := 9) rfl)) (tw_in1 _ (List.mem_of_getElem? (i := 2) rfl)) (tw_in22 _ (List.mem_of_getElem? (i := 10) rfl))
theorem tg_RL_88 : GoodIn wsL_law (wsV RL 88 RX2 yX2_undo (wU yX2_undo cX2_undo 2 (some .int))) := tw_gU (tw_in22 _ (List.mem_of_getElem? (i := 11) rfl)) (tw_in22 _ (List.mem_of_getElem? (i := 12) rfl)) (tw_in22 _ (List.mem_of_getElem? (i := 13) rfl)) (tw_in1 _ (List.mem_of_getElem? (i := 5) rfl)) (tw_in22 _ (List.mem_of_getElem? (i := 14) rfl))
theorem tg_RL_89 : GoodIn wsL_law (wsV RL 89 RX1 yX1_type (wU yX1_type cX1_type 2 (some .int))) := tw_gU (tw_in22 _ (List.mem_of_getElem? (i := 15) rfl)) (tw_in22 _ (List.mem_of_getElem? (i := 16) rfl)) (tw_in22 _ (List.mem_of_getElem? (i := 17) rfl)) (tw_in1 _ (List.mem_of_getElem? (i := 2) rfl)) (tw_in22 _ (List.mem_of_getElem? (i := 18) rfl))
theorem tk_RX1_156 : Cond.constant RX1 156 (Int32.ofInt (-1000003)) ∈ wsL_law := tw_in22 _ (List.mem_of_getElem? (i := 19) rfl)
theorem tg_RL_92 : GoodIn wsL_law (wsV RL 92 RX2 yX2_type (wU yX2_type cX2_type 2 (some .int))) := tw_gU (tw_in22 _ (List.mem_of_getElem? (i := 20) rfl)) (tw_in22 _ (List.mem_of_getElem? (i := 21) rfl)) (tw_in22 _ (List.mem_of_getElem? (i := 22) rfl)) (tw_in1 _ (List.mem_of_getElem? (i := 5) rfl)) (tw_in22 _ (List.mem_of_getElem? (i := 23) rfl))
theorem tk_RX2_166 : Cond.constant RX2 166 (Int32.ofInt (-1000003)) ∈ wsL_law := tw_in23 _ (List.mem_of_getElem? (i := 0) rfl)
theorem tg_RL_93 : GoodIn wsL_law (wsV RL 93 RX1 yX1_clearText (wU yX1_clearText cX1_clearText 2 (some .int))) := tw_gU (tw_in23 _ (List.mem_of_getElem? (i := 1) rfl)) (tw_in23 _ (List.mem_of_getElem? (i := 2) rfl)) (tw_in23 _ (List.mem_of_getElem? (i := 3) rfl)) (tw_in1 _ (List.mem_of_getElem? (i := 2) rfl)) (tw_in23 _ (List.mem_of_getElem? (i := 4) rfl))
theorem tg_RL_96 : GoodIn wsL_law (wsV RL 96 RX2 yX2_clearText (wU yX2_clearText cX2_clearText 2 (some .int))) := tw_gU (tw_in23 _ (List.mem_of_getElem? (i := 5) rfl)) (tw_in23 _ (List.mem_of_getElem? (i := 6) rfl)) (tw_in23 _ (List.mem_of_getElem? (i := 7) rfl)) (tw_in1 _ (List.mem_of_getElem? (i := 5) rfl)) (tw_in23 _ (List.mem_of_getElem? (i := 8) rfl))
theorem tg_RL_97 : GoodIn wsL_law (wsV RL 97 RX1 yX1_fault (wU yX1_fault cX1_fault 2 (some .int))) := tw_gU (tw_in23 _ (List.mem_of_getElem? (i := 9) rfl)) (tw_in23 _ (List.mem_of_getElem? (i := 10) rfl)) (tw_in23 _ (List.mem_of_getElem? (i := 11) rfl)) (tw_in1 _ (List.mem_of_getElem? (i := 2) rfl)) (tw_in23 _ (List.mem_of_getElem? (i := 12) rfl))
theorem tl_RX1_160 : Cond.fieldLink RX1 160 "TurningShop" "faultPosition" "I" ∈ wsL_law := tw_in23 _ (List.mem_of_getElem? (i := 13) rfl)
theorem tl_RX1_163 : Cond.fieldLink RX1 163 "TurningShop" "faultReason" "I" ∈ wsL_law := tw_in23 _ (List.mem_of_getElem? (i := 14) rfl)
theorem tl_RX1_166 : Cond.fieldLink RX1 166 "TurningShop" "faultCause" "I" ∈ wsL_law := tw_in23 _ (List.mem_of_getElem? (i := 15) rfl)
theorem tg_RX1_157 : GoodIn wsL_law (wsV RX1 157 RX1 yX1_tryText (wU yX1_tryText cX1_tryText 7 (some .int))) := tw_gU (tw_in23 _ (List.mem_of_getElem? (i := 16) rfl)) (tw_in23 _ (List.mem_of_getElem? (i := 17) rfl)) (tw_in23 _ (List.mem_of_getElem? (i := 18) rfl)) (tw_in1 _ (List.mem_of_getElem? (i := 2) rfl)) (tw_in23 _ (List.mem_of_getElem? (i := 19) rfl))
theorem tg_RX1_176 : GoodIn wsL_law (va_wsS RX1 176 yX1_isNumberedOrder (wU yX1_isNumberedOrder cX1_isNumberedOrder 1 (some .boolean))) := tw_gS (tw_in23 _ (List.mem_of_getElem? (i := 20) rfl)) (tw_in23 _ (List.mem_of_getElem? (i := 21) rfl)) (tw_in1 _ (List.mem_of_getElem? (i := 2) rfl)) (tw_in23 _ (List.mem_of_getElem? (i := 22) rfl))
theorem tg_RX1_180 : GoodIn wsL_law (wsV RX1 180 RX1 yX1_keepFault (wU yX1_keepFault cX1_keepFault 4 (some .int))) := tw_gU (tw_in23 _ (List.mem_of_getElem? (i := 23) rfl)) (tw_in24 _ (List.mem_of_getElem? (i := 0) rfl)) (tw_in24 _ (List.mem_of_getElem? (i := 1) rfl)) (tw_in1 _ (List.mem_of_getElem? (i := 2) rfl)) (tw_in24 _ (List.mem_of_getElem? (i := 2) rfl))
theorem tg_RX1_183 : GoodIn wsL_law (wsV RX1 183 RX1 yX1_digitsFrom (wU yX1_digitsFrom cX1_digitsFrom 4 (some .int))) := tw_gU (tw_in24 _ (List.mem_of_getElem? (i := 3) rfl)) (tw_in24 _ (List.mem_of_getElem? (i := 4) rfl)) (tw_in24 _ (List.mem_of_getElem? (i := 5) rfl)) (tw_in1 _ (List.mem_of_getElem? (i := 2) rfl)) (tw_in24 _ (List.mem_of_getElem? (i := 6) rfl))
theorem tg_RX1_186 : GoodIn wsL_law (wsV RX1 186 RX1 yX1_numberBetween (wU yX1_numberBetween cX1_numberBetween 5 (some .int))) := tw_gU (tw_in24 _ (List.mem_of_getElem? (i := 7) rfl)) (tw_in24 _ (List.mem_of_getElem? (i := 8) rfl)) (tw_in24 _ (List.mem_of_getElem? (i := 9) rfl)) (tw_in1 _ (List.mem_of_getElem? (i := 2) rfl)) (tw_in24 _ (List.mem_of_getElem? (i := 10) rfl))
theorem tg_RX1_190 : GoodIn wsL_law (wsV RX1 190 RX1 yX1_doOrder (wU yX1_doOrder cX1_doOrder 3 (some .int))) := tw_gU (tw_in24 _ (List.mem_of_getElem? (i := 11) rfl)) (tw_in24 _ (List.mem_of_getElem? (i := 12) rfl)) (tw_in24 _ (List.mem_of_getElem? (i := 13) rfl)) (tw_in1 _ (List.mem_of_getElem? (i := 2) rfl)) (tw_in24 _ (List.mem_of_getElem? (i := 14) rfl))
theorem tg_RL_100 : GoodIn wsL_law (wsV RL 100 RX2 yX2_fault (wU yX2_fault cX2_fault 2 (some .int))) := tw_gU (tw_in24 _ (List.mem_of_getElem? (i := 15) rfl)) (tw_in24 _ (List.mem_of_getElem? (i := 16) rfl)) (tw_in24 _ (List.mem_of_getElem? (i := 17) rfl)) (tw_in1 _ (List.mem_of_getElem? (i := 5) rfl)) (tw_in24 _ (List.mem_of_getElem? (i := 18) rfl))
theorem tl_RX2_183 : Cond.fieldLink RX2 183 "TurningShopModel" "reason" "I" ∈ wsL_law := tw_in24 _ (List.mem_of_getElem? (i := 19) rfl)
theorem tl_RX2_186 : Cond.fieldLink RX2 186 "TurningShopModel" "position" "I" ∈ wsL_law := tw_in24 _ (List.mem_of_getElem? (i := 20) rfl)
theorem tl_RX2_195 : Cond.fieldLink RX2 195 "TurningShopModel" "cause" "I" ∈ wsL_law := tw_in24 _ (List.mem_of_getElem? (i := 21) rfl)
theorem tg_RX2_201 : GoodIn wsL_law (wsV RX2 201 RX2 yX2_look (wU yX2_look cX2_look 2 none)) := tw_gU (tw_in24 _ (List.mem_of_getElem? (i := 22) rfl)) (tw_in24 _ (List.mem_of_getElem? (i := 23) rfl)) (tw_in25 _ (List.mem_of_getElem? (i := 0) rfl)) (tw_in1 _ (List.mem_of_getElem? (i := 5) rfl)) (tw_in25 _ (List.mem_of_getElem? (i := 1) rfl))
theorem tg_RX2_198 : GoodIn wsL_law (wsV RX2 198 RX2 yX2_go (wU yX2_go cX2_go 2 (some .int))) := tw_gU (tw_in25 _ (List.mem_of_getElem? (i := 2) rfl)) (tw_in25 _ (List.mem_of_getElem? (i := 3) rfl)) (tw_in25 _ (List.mem_of_getElem? (i := 4) rfl)) (tw_in1 _ (List.mem_of_getElem? (i := 5) rfl)) (tw_in25 _ (List.mem_of_getElem? (i := 5) rfl))
theorem tl_RX2_167 : Cond.fieldLink RX2 167 "TurningShopModel" "at" "I" ∈ wsL_law := tw_in25 _ (List.mem_of_getElem? (i := 6) rfl)
theorem tl_RX2_170 : Cond.fieldLink RX2 170 "TurningShopModel" "isWrong" "Z" ∈ wsL_law := tw_in25 _ (List.mem_of_getElem? (i := 7) rfl)
theorem tg_RX2_189 : GoodIn wsL_law (wsV RX2 189 RX2 yX2_read (wU yX2_read cX2_read 3 none)) := tw_gU (tw_in25 _ (List.mem_of_getElem? (i := 8) rfl)) (tw_in25 _ (List.mem_of_getElem? (i := 9) rfl)) (tw_in25 _ (List.mem_of_getElem? (i := 10) rfl)) (tw_in1 _ (List.mem_of_getElem? (i := 5) rfl)) (tw_in25 _ (List.mem_of_getElem? (i := 11) rfl))
theorem tl_RX2_174 : Cond.fieldLink RX2 174 "TurningShopModel" "letter" "I" ∈ wsL_law := tw_in25 _ (List.mem_of_getElem? (i := 12) rfl)
theorem tl_RX2_177 : Cond.fieldLink RX2 177 "TurningShopModel" "number" "I" ∈ wsL_law := tw_in25 _ (List.mem_of_getElem? (i := 13) rfl)
theorem tg_RX2_180 : GoodIn wsL_law (wsV RX2 180 RX2 yX2_sign (wU yX2_sign cX2_sign 4 (some .int))) := tw_gU (tw_in25 _ (List.mem_of_getElem? (i := 14) rfl)) (tw_in25 _ (List.mem_of_getElem? (i := 15) rfl)) (tw_in25 _ (List.mem_of_getElem? (i := 16) rfl)) (tw_in1 _ (List.mem_of_getElem? (i := 5) rfl)) (tw_in25 _ (List.mem_of_getElem? (i := 17) rfl))
theorem tg_RX2_192 : GoodIn wsL_law (wsV RX2 192 RX2 yX2_does (wU yX2_does cX2_does 3 (some .int))) := tw_gU (tw_in25 _ (List.mem_of_getElem? (i := 18) rfl)) (tw_in25 _ (List.mem_of_getElem? (i := 19) rfl)) (tw_in25 _ (List.mem_of_getElem? (i := 20) rfl)) (tw_in1 _ (List.mem_of_getElem? (i := 5) rfl)) (tw_in25 _ (List.mem_of_getElem? (i := 21) rfl))
theorem tg_RL_101 : GoodIn wsL_law (wsV RL 101 RX1 yX1_perform (wU yX1_perform cX1_perform 2 (some .int))) := tw_gU (tw_in25 _ (List.mem_of_getElem? (i := 22) rfl)) (tw_in25 _ (List.mem_of_getElem? (i := 23) rfl)) (tw_in26 _ (List.mem_of_getElem? (i := 0) rfl)) (tw_in1 _ (List.mem_of_getElem? (i := 2) rfl)) (tw_in26 _ (List.mem_of_getElem? (i := 1) rfl))
theorem tg_RL_104 : GoodIn wsL_law (wsV RL 104 RX2 yX2_perform (wU yX2_perform cX2_perform 1 (some .int))) := tw_gU (tw_in26 _ (List.mem_of_getElem? (i := 2) rfl)) (tw_in26 _ (List.mem_of_getElem? (i := 3) rfl)) (tw_in26 _ (List.mem_of_getElem? (i := 4) rfl)) (tw_in1 _ (List.mem_of_getElem? (i := 5) rfl)) (tw_in26 _ (List.mem_of_getElem? (i := 5) rfl))
end
section
/-! numbers: an int is iN of an Int -/
abbrev GS : Type := Nat → Nat → Int
def iN (z : Int) : Int32 := Int32.ofInt z
def u2 (g : GS) (a k : Nat) (v : Int) : GS := fun a' k' => if a' = a ∧ k' = k then v else g a' k'
theorem u2_s (g : GS) (a k : Nat) (v : Int) : u2 g a k v a k = v := if_pos ⟨rfl, rfl⟩
theorem u2_a (g : GS) {a k a' k' : Nat} {v : Int} (h : a' ≠ a) : u2 g a k v a' k' = g a' k' := if_neg fun q => h q.1
theorem u2_k (g : GS) {a k a' k' : Nat} {v : Int} (h : k' ≠ k) : u2 g a k v a' k' = g a' k' := if_neg fun q => h q.2
theorem u2_i (g : GS) (a k a' k' : Nat) (v : Int) : u2 g a k v a' k' = if a' = a ∧ k' = k then v else g a' k' := rfl
theorem iN_toInt (x : Int32) : iN x.toInt = x := Int32.ofInt_toInt x
theorem iN_add (a b : Int) : iN a + iN b = iN (a + b) := (Int32.ofInt_add a b).symm
theorem iN_sub (a b : Int) : iN a - iN b = iN (a - b) := (Int32.ofInt_sub a b).symm
theorem iN_mul (a b : Int) : iN a * iN b = iN (a * b) := (Int32.ofInt_mul a b).symm
theorem toInt_iN {a : Int} (h : -2147483648 ≤ a ∧ a ≤ 2147483647) : (iN a).toInt = a := Int32.toInt_ofInt_of_le (by omega) (by omega)
theorem iN_lt {a b : Int} (ha : -2147483648 ≤ a ∧ a ≤ 2147483647) (hb : -2147483648 ≤ b ∧ b ≤ 2147483647) : iN a < iN b ↔ a < b := by rw [Int32.lt_iff_toInt_lt, toInt_iN ha, toInt_iN hb]
theorem iN_le {a b : Int} (ha : -2147483648 ≤ a ∧ a ≤ 2147483647) (hb : -2147483648 ≤ b ∧ b ≤ 2147483647) : iN a ≤ iN b ↔ a ≤ b := by rw [Int32.le_iff_toInt_le, toInt_iN ha, toInt_iN hb]
theorem iN_inj {a b : Int} (ha : -2147483648 ≤ a ∧ a ≤ 2147483647) (hb : -2147483648 ≤ b ∧ b ≤ 2147483647) : iN a = iN b ↔ a = b := by
  rw [← Int32.toInt_inj, toInt_iN ha, toInt_iN hb]
theorem iN_z : iN 0 = 0 := rfl
theorem iN_nat {a : Int} (h : -2147483648 ≤ a ∧ a ≤ 2147483647) : (iN a).toNatClampNeg = a.toNat := Int32.toNatClampNeg_ofInt_of_le (by omega) (by omega)
theorem iN_in {a : Int} {k n : Nat} (h : a = (k : Int)) (hk : k < n) (hn : n ≤ 2147483647) : vp_in (iN a) n := by
  intro q
  rcases q with q | q
  · rw [← iN_z, iN_lt (by omega) (by omega)] at q
    omega
  · rw [iN_nat (by omega)] at q
    omega
theorem iN_k {a : Int} {k n : Nat} (h : a = (k : Int)) (hk : k < n) (hn : n ≤ 2147483647) : (iN a).toNatClampNeg = k := by
  rw [iN_nat (by omega)]
  omega
theorem iN_upd (F : Nat → Int) (k : Nat) (v : Int) : upd (fun j => iN (F j)) k (iN v) = fun j => iN (if j = k then v else F j) := by
  funext j
  unfold upd
  split <;> rfl
theorem iN_div {a b : Int} (ha : 0 ≤ a ∧ a ≤ 2147483647) (hb : 0 < b ∧ b ≤ 2147483647) : iN a / iN b = iN (a / b) := by
  have h1 := Int.ediv_nonneg ha.1 (show 0 ≤ b by omega)
  have h2 := Int.ediv_le_self b ha.1
  have hne : iN b ≠ -1 := by
    intro q
    have q2 := congrArg Int32.toInt q
    rw [toInt_iN (by omega)] at q2
    have : (-1 : Int32).toInt = -1 := rfl
    omega
  rw [← Int32.toInt_inj, Int32.toInt_div_of_ne_right _ _ hne, toInt_iN (by omega), toInt_iN (by omega), toInt_iN (by omega), Int.tdiv_eq_ediv_of_nonneg ha.1]
theorem iN_rem {a b : Int} (ha : 0 ≤ a ∧ a ≤ 2147483647) (hb : 0 < b ∧ b ≤ 2147483647) : iN a - iN a / iN b * iN b = iN (a % b) := by
  rw [iN_div ha hb, iN_mul, iN_sub, Int.emod_def, Int.mul_comm (a / b) b]
theorem iN_b0 : (-2147483648 : Int) ≤ 0 ∧ (0 : Int) ≤ 2147483647 := by omega
/-! one instruction each -/
section TSR
variable {p : Program} {l : Launch} {e : Env} {R : Room} {s : State} {m : MethodId} {args : Array Value} {below : List Frame} {meth : Method} {c : Code} {H : Heap} {locs : List Loc} {cells slots : Nat} {Q : State → Prop}
variable {cc : ByteArray} {pc : Nat} {ls : Array Slot} {rest : List Value}
theorem ts_iconst (hx : p.tables.exec = Jvm.exec) (hb : c.code = cc) {n : Int} (hdg : decode cc pc = .ok (.iconst n, 1)) (k : W p l e R s m args below meth c H locs cells slots Q (F0 m (pc + 1) ls (.int (iN n) :: rest))) : W p l e R s m args below meth c H locs cells slots Q (F0 m pc ls rest) := lv_iconst hx hb hdg rfl k
theorem ts_bipush (hx : p.tables.exec = Jvm.exec) (hb : c.code = cc) {n : Int} (hdg : decode cc pc = .ok (.bipush n, 2)) (hv : (Int8.ofInt n).toInt32 = iN n) (k : W p l e R s m args below meth c H locs cells slots Q (F0 m (pc + 2) ls (.int (iN n) :: rest))) : W p l e R s m args below meth c H locs cells slots Q (F0 m pc ls rest) := lv_bipush hx hb hdg hv k
theorem ts_sipush (hx : p.tables.exec = Jvm.exec) (hb : c.code = cc) {n : Int} (hdg : decode cc pc = .ok (.sipush n, 3)) (hv : (Int16.ofInt n).toInt32 = iN n) (k : W p l e R s m args below meth c H locs cells slots Q (F0 m (pc + 3) ls (.int (iN n) :: rest))) : W p l e R s m args below meth c H locs cells slots Q (F0 m pc ls rest) := lv_sipush hx hb hdg hv k
theorem ts_iadd (hx : p.tables.exec = Jvm.exec) (hb : c.code = cc) {a b : Int} (hdg : decode cc pc = .ok (.iadd, 1)) (k : ∀ z : Int, z = a + b → W p l e R s m args below meth c H locs cells slots Q (F0 m (pc + 1) ls (.int (iN z) :: rest))) : W p l e R s m args below meth c H locs cells slots Q (F0 m pc ls (.int (iN b) :: .int (iN a) :: rest)) := lv_iadd hx hb hdg (by rw [iN_add]; exact k _ rfl)
theorem ts_isub (hx : p.tables.exec = Jvm.exec) (hb : c.code = cc) {a b : Int} (hdg : decode cc pc = .ok (.isub, 1)) (k : ∀ z : Int, z = a - b → W p l e R s m args below meth c H locs cells slots Q (F0 m (pc + 1) ls (.int (iN z) :: rest))) : W p l e R s m args below meth c H locs cells slots Q (F0 m pc ls (.int (iN b) :: .int (iN a) :: rest)) := lv_isub hx hb hdg (by rw [iN_sub]; exact k _ rfl)
theorem ts_imul (hx : p.tables.exec = Jvm.exec) (hb : c.code = cc) {a b : Int} (hdg : decode cc pc = .ok (.imul, 1)) (k : ∀ z : Int, z = a * b → W p l e R s m args below meth c H locs cells slots Q (F0 m (pc + 1) ls (.int (iN z) :: rest))) : W p l e R s m args below meth c H locs cells slots Q (F0 m pc ls (.int (iN b) :: .int (iN a) :: rest)) := lv_imul hx hb hdg (by rw [iN_mul]; exact k _ rfl)
theorem ts_irem (hx : p.tables.exec = Jvm.exec) (hb : c.code = cc) {a b : Int} (ha : (0 ≤ a ∧ a ≤ 2147483647) ∧ (0 < b ∧ b ≤ 2147483647)) (hdg : decode cc pc = .ok (.irem, 1)) (k : ∀ z : Int, z = a % b → W p l e R s m args below meth c H locs cells slots Q (F0 m (pc + 1) ls (.int (iN z) :: rest))) : W p l e R s m args below meth c H locs cells slots Q (F0 m pc ls (.int (iN b) :: .int (iN a) :: rest)) := lv_irem hx hb hdg (fun q => by rw [← iN_z, iN_inj (by omega) (by omega)] at q; omega) (by rw [iN_rem ha.1 ha.2]; exact k _ rfl)
theorem ts_iinc (hx : p.tables.exec = Jvm.exec) (hb : c.code = cc) {i nL k : Nat} {n a : Int} {lv lv' : Int → List (Nat × Value)} (hdg : decode cc pc = .ok (.iinc i n, 3)) (h : lv_has ls nL (lv a)) (hk : (lv a)[k]? = some (i, .int (iN a))) (hn : i < nL) (hl : ∀ z : Int, (i, Value.int (iN z)) :: (lv a).filter (fun q => !(q.1 == i) && !(q.1 + 1 == i && q.2.category == 2)) = lv' z) (kk : ∀ (z : Int) (ls1 : Array Slot), z = a + n → lv_has ls1 nL (lv' z) → W p l e R s m args below meth c H locs cells slots Q (F0 m (pc + 3) ls1 rest)) : W p l e R s m args below meth c H locs cells slots Q (F0 m pc ls rest) := lv_iinc hx hb hdg h hk (v := iN (a + n)) (iN_add a n) hn (hl _) (fun ls1 h1 => kk _ ls1 rfl h1)
theorem ts_icmp_eq (hx : p.tables.exec = Jvm.exec) (hb : c.code = cc) {a b : Int} {off : Int} {tgt : Nat} (hab : (-2147483648 ≤ a ∧ a ≤ 2147483647) ∧ (-2147483648 ≤ b ∧ b ≤ 2147483647)) (hdg : decode cc pc = .ok (.if_icmp .eq off, 3)) (ht : (pc : Int) + off = (tgt : Int)) (kt : a = b → W p l e R s m args below meth c H locs cells slots Q (F0 m tgt ls rest)) (kf : a ≠ b → W p l e R s m args below meth c H locs cells slots Q (F0 m (pc + 3) ls rest)) : W p l e R s m args below meth c H locs cells slots Q (F0 m pc ls (.int (iN b) :: .int (iN a) :: rest)) := lv_icmp_eq hx hb hdg ht (fun q => kt ((iN_inj hab.1 hab.2).mp q)) (fun q => kf (fun z => q ((iN_inj hab.1 hab.2).mpr z)))
theorem ts_if_eq (hx : p.tables.exec = Jvm.exec) (hb : c.code = cc) {a : Int} {off : Int} {tgt : Nat} (ha : (-2147483648 ≤ a ∧ a ≤ 2147483647)) (hdg : decode cc pc = .ok (.ifCond .eq off, 3)) (ht : (pc : Int) + off = (tgt : Int)) (kt : a = 0 → W p l e R s m args below meth c H locs cells slots Q (F0 m tgt ls rest)) (kf : a ≠ 0 → W p l e R s m args below meth c H locs cells slots Q (F0 m (pc + 3) ls rest)) : W p l e R s m args below meth c H locs cells slots Q (F0 m pc ls (.int (iN a) :: rest)) := lv_if_eq hx hb hdg ht (fun q => kt ((iN_inj ha iN_b0).mp q)) (fun q => kf (fun z => q ((iN_inj ha iN_b0).mpr z)))
theorem ts_icmp_ne (hx : p.tables.exec = Jvm.exec) (hb : c.code = cc) {a b : Int} {off : Int} {tgt : Nat} (hab : (-2147483648 ≤ a ∧ a ≤ 2147483647) ∧ (-2147483648 ≤ b ∧ b ≤ 2147483647)) (hdg : decode cc pc = .ok (.if_icmp .ne off, 3)) (ht : (pc : Int) + off = (tgt : Int)) (kt : a ≠ b → W p l e R s m args below meth c H locs cells slots Q (F0 m tgt ls rest)) (kf : a = b → W p l e R s m args below meth c H locs cells slots Q (F0 m (pc + 3) ls rest)) : W p l e R s m args below meth c H locs cells slots Q (F0 m pc ls (.int (iN b) :: .int (iN a) :: rest)) := lv_icmp_ne hx hb hdg ht (fun q => kt (fun z => q ((iN_inj hab.1 hab.2).mpr z))) (fun q => kf ((iN_inj hab.1 hab.2).mp q))
theorem ts_if_ne (hx : p.tables.exec = Jvm.exec) (hb : c.code = cc) {a : Int} {off : Int} {tgt : Nat} (ha : (-2147483648 ≤ a ∧ a ≤ 2147483647)) (hdg : decode cc pc = .ok (.ifCond .ne off, 3)) (ht : (pc : Int) + off = (tgt : Int)) (kt : a ≠ 0 → W p l e R s m args below meth c H locs cells slots Q (F0 m tgt ls rest)) (kf : a = 0 → W p l e R s m args below meth c H locs cells slots Q (F0 m (pc + 3) ls rest)) : W p l e R s m args below meth c H locs cells slots Q (F0 m pc ls (.int (iN a) :: rest)) := lv_if_ne hx hb hdg ht (fun q => kt (fun z => q ((iN_inj ha iN_b0).mpr z))) (fun q => kf ((iN_inj ha iN_b0).mp q))
theorem ts_icmp_lt (hx : p.tables.exec = Jvm.exec) (hb : c.code = cc) {a b : Int} {off : Int} {tgt : Nat} (hab : (-2147483648 ≤ a ∧ a ≤ 2147483647) ∧ (-2147483648 ≤ b ∧ b ≤ 2147483647)) (hdg : decode cc pc = .ok (.if_icmp .lt off, 3)) (ht : (pc : Int) + off = (tgt : Int)) (kt : a < b → W p l e R s m args below meth c H locs cells slots Q (F0 m tgt ls rest)) (kf : b ≤ a → W p l e R s m args below meth c H locs cells slots Q (F0 m (pc + 3) ls rest)) : W p l e R s m args below meth c H locs cells slots Q (F0 m pc ls (.int (iN b) :: .int (iN a) :: rest)) := lv_icmp_lt hx hb hdg ht (fun q => kt ((iN_lt hab.1 hab.2).mp q)) (fun q => kf (Int.not_lt.mp (fun z => q ((iN_lt hab.1 hab.2).mpr z))))
theorem ts_if_lt (hx : p.tables.exec = Jvm.exec) (hb : c.code = cc) {a : Int} {off : Int} {tgt : Nat} (ha : (-2147483648 ≤ a ∧ a ≤ 2147483647)) (hdg : decode cc pc = .ok (.ifCond .lt off, 3)) (ht : (pc : Int) + off = (tgt : Int)) (kt : a < 0 → W p l e R s m args below meth c H locs cells slots Q (F0 m tgt ls rest)) (kf : 0 ≤ a → W p l e R s m args below meth c H locs cells slots Q (F0 m (pc + 3) ls rest)) : W p l e R s m args below meth c H locs cells slots Q (F0 m pc ls (.int (iN a) :: rest)) := lv_if_lt hx hb hdg ht (fun q => kt ((iN_lt ha iN_b0).mp q)) (fun q => kf (Int.not_lt.mp (fun z => q ((iN_lt ha iN_b0).mpr z))))
theorem ts_icmp_ge (hx : p.tables.exec = Jvm.exec) (hb : c.code = cc) {a b : Int} {off : Int} {tgt : Nat} (hab : (-2147483648 ≤ a ∧ a ≤ 2147483647) ∧ (-2147483648 ≤ b ∧ b ≤ 2147483647)) (hdg : decode cc pc = .ok (.if_icmp .ge off, 3)) (ht : (pc : Int) + off = (tgt : Int)) (kt : b ≤ a → W p l e R s m args below meth c H locs cells slots Q (F0 m tgt ls rest)) (kf : a < b → W p l e R s m args below meth c H locs cells slots Q (F0 m (pc + 3) ls rest)) : W p l e R s m args below meth c H locs cells slots Q (F0 m pc ls (.int (iN b) :: .int (iN a) :: rest)) := lv_icmp_ge hx hb hdg ht (fun q => kt ((iN_le hab.2 hab.1).mp q)) (fun q => kf (Int.not_le.mp (fun z => q ((iN_le hab.2 hab.1).mpr z))))
theorem ts_if_ge (hx : p.tables.exec = Jvm.exec) (hb : c.code = cc) {a : Int} {off : Int} {tgt : Nat} (ha : (-2147483648 ≤ a ∧ a ≤ 2147483647)) (hdg : decode cc pc = .ok (.ifCond .ge off, 3)) (ht : (pc : Int) + off = (tgt : Int)) (kt : 0 ≤ a → W p l e R s m args below meth c H locs cells slots Q (F0 m tgt ls rest)) (kf : a < 0 → W p l e R s m args below meth c H locs cells slots Q (F0 m (pc + 3) ls rest)) : W p l e R s m args below meth c H locs cells slots Q (F0 m pc ls (.int (iN a) :: rest)) := lv_if_ge hx hb hdg ht (fun q => kt ((iN_le iN_b0 ha).mp q)) (fun q => kf (Int.not_le.mp (fun z => q ((iN_le iN_b0 ha).mpr z))))
theorem ts_icmp_gt (hx : p.tables.exec = Jvm.exec) (hb : c.code = cc) {a b : Int} {off : Int} {tgt : Nat} (hab : (-2147483648 ≤ a ∧ a ≤ 2147483647) ∧ (-2147483648 ≤ b ∧ b ≤ 2147483647)) (hdg : decode cc pc = .ok (.if_icmp .gt off, 3)) (ht : (pc : Int) + off = (tgt : Int)) (kt : b < a → W p l e R s m args below meth c H locs cells slots Q (F0 m tgt ls rest)) (kf : a ≤ b → W p l e R s m args below meth c H locs cells slots Q (F0 m (pc + 3) ls rest)) : W p l e R s m args below meth c H locs cells slots Q (F0 m pc ls (.int (iN b) :: .int (iN a) :: rest)) := lv_icmp_gt hx hb hdg ht (fun q => kt ((iN_lt hab.2 hab.1).mp q)) (fun q => kf (Int.not_lt.mp (fun z => q ((iN_lt hab.2 hab.1).mpr z))))
theorem ts_if_gt (hx : p.tables.exec = Jvm.exec) (hb : c.code = cc) {a : Int} {off : Int} {tgt : Nat} (ha : (-2147483648 ≤ a ∧ a ≤ 2147483647)) (hdg : decode cc pc = .ok (.ifCond .gt off, 3)) (ht : (pc : Int) + off = (tgt : Int)) (kt : 0 < a → W p l e R s m args below meth c H locs cells slots Q (F0 m tgt ls rest)) (kf : a ≤ 0 → W p l e R s m args below meth c H locs cells slots Q (F0 m (pc + 3) ls rest)) : W p l e R s m args below meth c H locs cells slots Q (F0 m pc ls (.int (iN a) :: rest)) := lv_if_gt hx hb hdg ht (fun q => kt ((iN_lt iN_b0 ha).mp q)) (fun q => kf (Int.not_lt.mp (fun z => q ((iN_lt iN_b0 ha).mpr z))))
theorem ts_icmp_le (hx : p.tables.exec = Jvm.exec) (hb : c.code = cc) {a b : Int} {off : Int} {tgt : Nat} (hab : (-2147483648 ≤ a ∧ a ≤ 2147483647) ∧ (-2147483648 ≤ b ∧ b ≤ 2147483647)) (hdg : decode cc pc = .ok (.if_icmp .le off, 3)) (ht : (pc : Int) + off = (tgt : Int)) (kt : a ≤ b → W p l e R s m args below meth c H locs cells slots Q (F0 m tgt ls rest)) (kf : b < a → W p l e R s m args below meth c H locs cells slots Q (F0 m (pc + 3) ls rest)) : W p l e R s m args below meth c H locs cells slots Q (F0 m pc ls (.int (iN b) :: .int (iN a) :: rest)) := lv_icmp_le hx hb hdg ht (fun q => kt ((iN_le hab.1 hab.2).mp q)) (fun q => kf (Int.not_le.mp (fun z => q ((iN_le hab.1 hab.2).mpr z))))
theorem ts_if_le (hx : p.tables.exec = Jvm.exec) (hb : c.code = cc) {a : Int} {off : Int} {tgt : Nat} (ha : (-2147483648 ≤ a ∧ a ≤ 2147483647)) (hdg : decode cc pc = .ok (.ifCond .le off, 3)) (ht : (pc : Int) + off = (tgt : Int)) (kt : a ≤ 0 → W p l e R s m args below meth c H locs cells slots Q (F0 m tgt ls rest)) (kf : 0 < a → W p l e R s m args below meth c H locs cells slots Q (F0 m (pc + 3) ls rest)) : W p l e R s m args below meth c H locs cells slots Q (F0 m pc ls (.int (iN a) :: rest)) := lv_if_le hx hb hdg ht (fun q => kt ((iN_le ha iN_b0).mp q)) (fun q => kf (Int.not_le.mp (fun z => q ((iN_le ha iN_b0).mpr z))))
theorem ts_ldc (hx : p.tables.exec = Jvm.exec) (hb : c.code = cc) {own : String} {index : Nat} {z : Int} (hown : s.vm.findClass own = some m.cls) (hts : ∀ w ∈ wsL_law, w.before args s = true) (hc : Jvm.Cond.constant own index (iN z) ∈ wsL_law) (hdg : decode cc pc = .ok (.ldc index, 2)) (k : W p l e R s m args below meth c H locs cells slots Q (F0 m (pc + 2) ls (.int (iN z) :: rest))) : W p l e R s m args below meth c H locs cells slots Q (F0 m pc ls rest) := lv_ldc hx hb hown (hts _ hc) hdg k
end TSR
end
section
/-! ===== TurningShop$Game ===== -/
def gmF (ad : Nat → Nat) (g : GS) : List Value := [.ref (ad 1), .ref (ad 2), .ref (ad 3), .ref (ad 4), .int (iN (g 4 4)), .int (iN (g 4 5)), .int (iN (g 4 6)), .int (iN (g 4 7)), .int (iN (g 4 8)), .int (iN (g 4 9)), .int (iN (g 4 10)), .int (iN (g 4 11)), .int (iN (g 4 12)), .int (iN (g 4 13))]
def gmW (cI : ClassId) (ad : Nat → Nat) (g : GS) : va_W := [(ad 0, .inr (0, gmF ad g)), (ad 1, .inl (cI, 164, .inl (fun j => iN (g 0 j)))), (ad 2, .inl (cI, 17, .inl (fun j => iN (g 1 j)))), (ad 3, .inl (cI, 10, .inl (fun j => iN (g 2 j)))), (ad 4, .inl (cI, 10, .inl (fun j => iN (g 3 j))))]
/-- the world of one, and what was written so far -/
def gmB (D : va_G) (A : Nat → Prop) (s : State) (cI : ClassId) (ad : Nat → Nat) (g : GS) (H : Heap) (locs : List Loc) : Prop := va_P D vwCl (gmW cI ad g) H ∧ va_D A (gmW cI ad g) ∧ va_S A s.heap H locs
theorem gmF_4 (ad : Nat → Nat) (g : GS) (v : Int) : (gmF ad g).set 4 (.int (iN v)) = gmF ad (u2 g 4 4 v) := rfl
theorem gmF_5 (ad : Nat → Nat) (g : GS) (v : Int) : (gmF ad g).set 5 (.int (iN v)) = gmF ad (u2 g 4 5 v) := rfl
theorem gmF_6 (ad : Nat → Nat) (g : GS) (v : Int) : (gmF ad g).set 6 (.int (iN v)) = gmF ad (u2 g 4 6 v) := rfl
theorem gmF_7 (ad : Nat → Nat) (g : GS) (v : Int) : (gmF ad g).set 7 (.int (iN v)) = gmF ad (u2 g 4 7 v) := rfl
theorem gmF_8 (ad : Nat → Nat) (g : GS) (v : Int) : (gmF ad g).set 8 (.int (iN v)) = gmF ad (u2 g 4 8 v) := rfl
theorem gmF_9 (ad : Nat → Nat) (g : GS) (v : Int) : (gmF ad g).set 9 (.int (iN v)) = gmF ad (u2 g 4 9 v) := rfl
theorem gmF_10 (ad : Nat → Nat) (g : GS) (v : Int) : (gmF ad g).set 10 (.int (iN v)) = gmF ad (u2 g 4 10 v) := rfl
theorem gmF_11 (ad : Nat → Nat) (g : GS) (v : Int) : (gmF ad g).set 11 (.int (iN v)) = gmF ad (u2 g 4 11 v) := rfl
theorem gmF_12 (ad : Nat → Nat) (g : GS) (v : Int) : (gmF ad g).set 12 (.int (iN v)) = gmF ad (u2 g 4 12 v) := rfl
theorem gmF_13 (ad : Nat → Nat) (g : GS) (v : Int) : (gmF ad g).set 13 (.int (iN v)) = gmF ad (u2 g 4 13 v) := rfl
theorem gmW_f (cI : ClassId) (ad : Nat → Nat) (g : GS) (k : Nat) (v : Int) : (gmW cI ad g).set 0 (ad 0, .inr (0, gmF ad (u2 g 4 k v))) = gmW cI ad (u2 g 4 k v) := rfl
theorem gmF_a0 (ad : Nat → Nat) (g : GS) (k : Nat) (v : Int) : gmF ad (u2 g 0 k v) = gmF ad g := rfl
theorem gmW_a0 (cI : ClassId) (ad : Nat → Nat) (g : GS) (k : Nat) (v : Int) : (gmW cI ad g).set 1 (ad 1, .inl (cI, 164, .inl (upd (fun j => iN (g 0 j)) k (iN v)))) = gmW cI ad (u2 g 0 k v) := by
  rw [iN_upd]
  have h : (fun j => iN (if j = k then v else g 0 j)) = fun j => iN (u2 g 0 k v 0 j) := by
    funext j
    by_cases hj : j = k
    · subst hj
      rw [u2_s, if_pos rfl]
    · rw [u2_k g hj, if_neg hj]
  rw [h]
  rfl
theorem gmF_a1 (ad : Nat → Nat) (g : GS) (k : Nat) (v : Int) : gmF ad (u2 g 1 k v) = gmF ad g := rfl
theorem gmW_a1 (cI : ClassId) (ad : Nat → Nat) (g : GS) (k : Nat) (v : Int) : (gmW cI ad g).set 2 (ad 2, .inl (cI, 17, .inl (upd (fun j => iN (g 1 j)) k (iN v)))) = gmW cI ad (u2 g 1 k v) := by
  rw [iN_upd]
  have h : (fun j => iN (if j = k then v else g 1 j)) = fun j => iN (u2 g 1 k v 1 j) := by
    funext j
    by_cases hj : j = k
    · subst hj
      rw [u2_s, if_pos rfl]
    · rw [u2_k g hj, if_neg hj]
  rw [h]
  rfl
theorem gmF_a2 (ad : Nat → Nat) (g : GS) (k : Nat) (v : Int) : gmF ad (u2 g 2 k v) = gmF ad g := rfl
theorem gmW_a2 (cI : ClassId) (ad : Nat → Nat) (g : GS) (k : Nat) (v : Int) : (gmW cI ad g).set 3 (ad 3, .inl (cI, 10, .inl (upd (fun j => iN (g 2 j)) k (iN v)))) = gmW cI ad (u2 g 2 k v) := by
  rw [iN_upd]
  have h : (fun j => iN (if j = k then v else g 2 j)) = fun j => iN (u2 g 2 k v 2 j) := by
    funext j
    by_cases hj : j = k
    · subst hj
      rw [u2_s, if_pos rfl]
    · rw [u2_k g hj, if_neg hj]
  rw [h]
  rfl
theorem gmF_a3 (ad : Nat → Nat) (g : GS) (k : Nat) (v : Int) : gmF ad (u2 g 3 k v) = gmF ad g := rfl
theorem gmW_a3 (cI : ClassId) (ad : Nat → Nat) (g : GS) (k : Nat) (v : Int) : (gmW cI ad g).set 4 (ad 4, .inl (cI, 10, .inl (upd (fun j => iN (g 3 j)) k (iN v)))) = gmW cI ad (u2 g 3 k v) := by
  rw [iN_upd]
  have h : (fun j => iN (if j = k then v else g 3 j)) = fun j => iN (u2 g 3 k v 3 j) := by
    funext j
    by_cases hj : j = k
    · subst hj
      rw [u2_s, if_pos rfl]
    · rw [u2_k g hj, if_neg hj]
  rw [h]
  rfl
section GMROWS
variable {p : Program} {l : Launch} {e : Env} {R : Room} {s : State} {m : MethodId} {args : Array Value} {below : List Frame} {meth : Method} {c : Code} {H : Heap} {locs : List Loc} {cells slots : Nat} {Q : State → Prop}
variable {cc : ByteArray} {pc nL : Nat} {ls : Array Slot} {rest : List Value} {D : va_G} {A : Nat → Prop} {cI : ClassId} {ad : Nat → Nat} {g : GS} {own : String} {i : Nat}
theorem gm_get0 (cx : CallFix p m c cc nL s args wsL_law own) (hK : va_K D vwCl [(cI, .int)] s) (hw : gmB D A s cI ad g H locs) (hl : Cond.fieldLink own i "TurningShop$Game" "cards" "[I" ∈ wsL_law) (hdg : decode cc pc = .ok (.getfield i, 3)) (kk : W p l e R s m args below meth c H locs cells slots Q (F0 m (pc + 3) ls (.ref (ad 1) :: rest))) : W p l e R s m args below meth c H locs cells slots Q (F0 m pc ls (.ref (ad 0) :: rest)) := va_get (D := D) (ci := 0) (C := RX0) (T := TX0) (N := 14) cx.1 cx.2.1 cx.2.2.2.2 inlX0 cx.2.2.2.1 hK hw.1 0 (fs := gmF ad g) rfl rfl 0 (by decide) (cx.2.2.2.2 _ hl) (fun _ h9 => h9) rfl hdg kk
theorem gm_get1 (cx : CallFix p m c cc nL s args wsL_law own) (hK : va_K D vwCl [(cI, .int)] s) (hw : gmB D A s cI ad g H locs) (hl : Cond.fieldLink own i "TurningShop$Game" "starts" "[I" ∈ wsL_law) (hdg : decode cc pc = .ok (.getfield i, 3)) (kk : W p l e R s m args below meth c H locs cells slots Q (F0 m (pc + 3) ls (.ref (ad 2) :: rest))) : W p l e R s m args below meth c H locs cells slots Q (F0 m pc ls (.ref (ad 0) :: rest)) := va_get (D := D) (ci := 0) (C := RX0) (T := TX0) (N := 14) cx.1 cx.2.1 cx.2.2.2.2 inlX0 cx.2.2.2.1 hK hw.1 0 (fs := gmF ad g) rfl rfl 1 (by decide) (cx.2.2.2.2 _ hl) (fun _ h9 => h9) rfl hdg kk
theorem gm_get2 (cx : CallFix p m c cc nL s args wsL_law own) (hK : va_K D vwCl [(cI, .int)] s) (hw : gmB D A s cI ad g H locs) (hl : Cond.fieldLink own i "TurningShop$Game" "piles" "[I" ∈ wsL_law) (hdg : decode cc pc = .ok (.getfield i, 3)) (kk : W p l e R s m args below meth c H locs cells slots Q (F0 m (pc + 3) ls (.ref (ad 3) :: rest))) : W p l e R s m args below meth c H locs cells slots Q (F0 m pc ls (.ref (ad 0) :: rest)) := va_get (D := D) (ci := 0) (C := RX0) (T := TX0) (N := 14) cx.1 cx.2.1 cx.2.2.2.2 inlX0 cx.2.2.2.1 hK hw.1 0 (fs := gmF ad g) rfl rfl 2 (by decide) (cx.2.2.2.2 _ hl) (fun _ h9 => h9) rfl hdg kk
theorem gm_get3 (cx : CallFix p m c cc nL s args wsL_law own) (hK : va_K D vwCl [(cI, .int)] s) (hw : gmB D A s cI ad g H locs) (hl : Cond.fieldLink own i "TurningShop$Game" "scrapped" "[I" ∈ wsL_law) (hdg : decode cc pc = .ok (.getfield i, 3)) (kk : W p l e R s m args below meth c H locs cells slots Q (F0 m (pc + 3) ls (.ref (ad 4) :: rest))) : W p l e R s m args below meth c H locs cells slots Q (F0 m pc ls (.ref (ad 0) :: rest)) := va_get (D := D) (ci := 0) (C := RX0) (T := TX0) (N := 14) cx.1 cx.2.1 cx.2.2.2.2 inlX0 cx.2.2.2.1 hK hw.1 0 (fs := gmF ad g) rfl rfl 3 (by decide) (cx.2.2.2.2 _ hl) (fun _ h9 => h9) rfl hdg kk
theorem gm_get4 (cx : CallFix p m c cc nL s args wsL_law own) (hK : va_K D vwCl [(cI, .int)] s) (hw : gmB D A s cI ad g H locs) (hl : Cond.fieldLink own i "TurningShop$Game" "players" "I" ∈ wsL_law) (hdg : decode cc pc = .ok (.getfield i, 3)) (kk : ∀ z : Int, z = g 4 4 → W p l e R s m args below meth c H locs cells slots Q (F0 m (pc + 3) ls (.int (iN z) :: rest))) : W p l e R s m args below meth c H locs cells slots Q (F0 m pc ls (.ref (ad 0) :: rest)) := va_get (D := D) (ci := 0) (C := RX0) (T := TX0) (N := 14) cx.1 cx.2.1 cx.2.2.2.2 inlX0 cx.2.2.2.1 hK hw.1 0 (fs := gmF ad g) rfl rfl 4 (by decide) (cx.2.2.2.2 _ hl) (fun _ h9 => h9) rfl hdg (kk _ rfl)
theorem gm_put4 (cx : CallFix p m c cc nL s args wsL_law own) (hK : va_K D vwCl [(cI, .int)] s) (hw : gmB D A s cI ad g H locs) {v : Int} (hl : Cond.fieldLink own i "TurningShop$Game" "players" "I" ∈ wsL_law) (hdg : decode cc pc = .ok (.putfield i, 3)) (kk : ∀ (g1 : GS) (H1 : Heap) (locs1 : List Loc), g1 = u2 g 4 4 v → gmB D A s cI ad g1 H1 locs1 → W p l e R s m args below meth c H1 locs1 cells slots Q (F0 m (pc + 3) ls rest)) : W p l e R s m args below meth c H locs cells slots Q (F0 m pc ls (.int (iN v) :: .ref (ad 0) :: rest)) := va_put (D := D) (ci := 0) (v := .int (iN v)) (ty := .int) (C := RX0) (T := TX0) (N := 14) cx.1 cx.2.1 cx.2.2.2.2 inlX0 tyX0 tyX0_ok nmX0 cx.2.2.2.1 hK hw.1 hw.2.1 hw.2.2 0 (fs := gmF ad g) rfl rfl 4 (by decide) (cx.2.2.2.2 _ hl) (fun _ h9 => h9) rfl (by decide +kernel) rfl rfl (Nat.le_of_ble_eq_true rfl) hdg (fun H1 locs1 hP hD hS => kk _ H1 locs1 rfl ⟨hP, hD, hS⟩)
theorem gm_get5 (cx : CallFix p m c cc nL s args wsL_law own) (hK : va_K D vwCl [(cI, .int)] s) (hw : gmB D A s cI ad g H locs) (hl : Cond.fieldLink own i "TurningShop$Game" "player" "I" ∈ wsL_law) (hdg : decode cc pc = .ok (.getfield i, 3)) (kk : ∀ z : Int, z = g 4 5 → W p l e R s m args below meth c H locs cells slots Q (F0 m (pc + 3) ls (.int (iN z) :: rest))) : W p l e R s m args below meth c H locs cells slots Q (F0 m pc ls (.ref (ad 0) :: rest)) := va_get (D := D) (ci := 0) (C := RX0) (T := TX0) (N := 14) cx.1 cx.2.1 cx.2.2.2.2 inlX0 cx.2.2.2.1 hK hw.1 0 (fs := gmF ad g) rfl rfl 5 (by decide) (cx.2.2.2.2 _ hl) (fun _ h9 => h9) rfl hdg (kk _ rfl)
theorem gm_put5 (cx : CallFix p m c cc nL s args wsL_law own) (hK : va_K D vwCl [(cI, .int)] s) (hw : gmB D A s cI ad g H locs) {v : Int} (hl : Cond.fieldLink own i "TurningShop$Game" "player" "I" ∈ wsL_law) (hdg : decode cc pc = .ok (.putfield i, 3)) (kk : ∀ (g1 : GS) (H1 : Heap) (locs1 : List Loc), g1 = u2 g 4 5 v → gmB D A s cI ad g1 H1 locs1 → W p l e R s m args below meth c H1 locs1 cells slots Q (F0 m (pc + 3) ls rest)) : W p l e R s m args below meth c H locs cells slots Q (F0 m pc ls (.int (iN v) :: .ref (ad 0) :: rest)) := va_put (D := D) (ci := 0) (v := .int (iN v)) (ty := .int) (C := RX0) (T := TX0) (N := 14) cx.1 cx.2.1 cx.2.2.2.2 inlX0 tyX0 tyX0_ok nmX0 cx.2.2.2.1 hK hw.1 hw.2.1 hw.2.2 0 (fs := gmF ad g) rfl rfl 5 (by decide) (cx.2.2.2.2 _ hl) (fun _ h9 => h9) rfl (by decide +kernel) rfl rfl (Nat.le_of_ble_eq_true rfl) hdg (fun H1 locs1 hP hD hS => kk _ H1 locs1 rfl ⟨hP, hD, hS⟩)
theorem gm_get6 (cx : CallFix p m c cc nL s args wsL_law own) (hK : va_K D vwCl [(cI, .int)] s) (hw : gmB D A s cI ad g H locs) (hl : Cond.fieldLink own i "TurningShop$Game" "coins" "I" ∈ wsL_law) (hdg : decode cc pc = .ok (.getfield i, 3)) (kk : ∀ z : Int, z = g 4 6 → W p l e R s m args below meth c H locs cells slots Q (F0 m (pc + 3) ls (.int (iN z) :: rest))) : W p l e R s m args below meth c H locs cells slots Q (F0 m pc ls (.ref (ad 0) :: rest)) := va_get (D := D) (ci := 0) (C := RX0) (T := TX0) (N := 14) cx.1 cx.2.1 cx.2.2.2.2 inlX0 cx.2.2.2.1 hK hw.1 0 (fs := gmF ad g) rfl rfl 6 (by decide) (cx.2.2.2.2 _ hl) (fun _ h9 => h9) rfl hdg (kk _ rfl)
theorem gm_put6 (cx : CallFix p m c cc nL s args wsL_law own) (hK : va_K D vwCl [(cI, .int)] s) (hw : gmB D A s cI ad g H locs) {v : Int} (hl : Cond.fieldLink own i "TurningShop$Game" "coins" "I" ∈ wsL_law) (hdg : decode cc pc = .ok (.putfield i, 3)) (kk : ∀ (g1 : GS) (H1 : Heap) (locs1 : List Loc), g1 = u2 g 4 6 v → gmB D A s cI ad g1 H1 locs1 → W p l e R s m args below meth c H1 locs1 cells slots Q (F0 m (pc + 3) ls rest)) : W p l e R s m args below meth c H locs cells slots Q (F0 m pc ls (.int (iN v) :: .ref (ad 0) :: rest)) := va_put (D := D) (ci := 0) (v := .int (iN v)) (ty := .int) (C := RX0) (T := TX0) (N := 14) cx.1 cx.2.1 cx.2.2.2.2 inlX0 tyX0 tyX0_ok nmX0 cx.2.2.2.1 hK hw.1 hw.2.1 hw.2.2 0 (fs := gmF ad g) rfl rfl 6 (by decide) (cx.2.2.2.2 _ hl) (fun _ h9 => h9) rfl (by decide +kernel) rfl rfl (Nat.le_of_ble_eq_true rfl) hdg (fun H1 locs1 hP hD hS => kk _ H1 locs1 rfl ⟨hP, hD, hS⟩)
theorem gm_get7 (cx : CallFix p m c cc nL s args wsL_law own) (hK : va_K D vwCl [(cI, .int)] s) (hw : gmB D A s cI ad g H locs) (hl : Cond.fieldLink own i "TurningShop$Game" "buys" "I" ∈ wsL_law) (hdg : decode cc pc = .ok (.getfield i, 3)) (kk : ∀ z : Int, z = g 4 7 → W p l e R s m args below meth c H locs cells slots Q (F0 m (pc + 3) ls (.int (iN z) :: rest))) : W p l e R s m args below meth c H locs cells slots Q (F0 m pc ls (.ref (ad 0) :: rest)) := va_get (D := D) (ci := 0) (C := RX0) (T := TX0) (N := 14) cx.1 cx.2.1 cx.2.2.2.2 inlX0 cx.2.2.2.1 hK hw.1 0 (fs := gmF ad g) rfl rfl 7 (by decide) (cx.2.2.2.2 _ hl) (fun _ h9 => h9) rfl hdg (kk _ rfl)
theorem gm_put7 (cx : CallFix p m c cc nL s args wsL_law own) (hK : va_K D vwCl [(cI, .int)] s) (hw : gmB D A s cI ad g H locs) {v : Int} (hl : Cond.fieldLink own i "TurningShop$Game" "buys" "I" ∈ wsL_law) (hdg : decode cc pc = .ok (.putfield i, 3)) (kk : ∀ (g1 : GS) (H1 : Heap) (locs1 : List Loc), g1 = u2 g 4 7 v → gmB D A s cI ad g1 H1 locs1 → W p l e R s m args below meth c H1 locs1 cells slots Q (F0 m (pc + 3) ls rest)) : W p l e R s m args below meth c H locs cells slots Q (F0 m pc ls (.int (iN v) :: .ref (ad 0) :: rest)) := va_put (D := D) (ci := 0) (v := .int (iN v)) (ty := .int) (C := RX0) (T := TX0) (N := 14) cx.1 cx.2.1 cx.2.2.2.2 inlX0 tyX0 tyX0_ok nmX0 cx.2.2.2.1 hK hw.1 hw.2.1 hw.2.2 0 (fs := gmF ad g) rfl rfl 7 (by decide) (cx.2.2.2.2 _ hl) (fun _ h9 => h9) rfl (by decide +kernel) rfl rfl (Nat.le_of_ble_eq_true rfl) hdg (fun H1 locs1 hP hD hS => kk _ H1 locs1 rfl ⟨hP, hD, hS⟩)
theorem gm_get8 (cx : CallFix p m c cc nL s args wsL_law own) (hK : va_K D vwCl [(cI, .int)] s) (hw : gmB D A s cI ad g H locs) (hl : Cond.fieldLink own i "TurningShop$Game" "actions" "I" ∈ wsL_law) (hdg : decode cc pc = .ok (.getfield i, 3)) (kk : ∀ z : Int, z = g 4 8 → W p l e R s m args below meth c H locs cells slots Q (F0 m (pc + 3) ls (.int (iN z) :: rest))) : W p l e R s m args below meth c H locs cells slots Q (F0 m pc ls (.ref (ad 0) :: rest)) := va_get (D := D) (ci := 0) (C := RX0) (T := TX0) (N := 14) cx.1 cx.2.1 cx.2.2.2.2 inlX0 cx.2.2.2.1 hK hw.1 0 (fs := gmF ad g) rfl rfl 8 (by decide) (cx.2.2.2.2 _ hl) (fun _ h9 => h9) rfl hdg (kk _ rfl)
theorem gm_put8 (cx : CallFix p m c cc nL s args wsL_law own) (hK : va_K D vwCl [(cI, .int)] s) (hw : gmB D A s cI ad g H locs) {v : Int} (hl : Cond.fieldLink own i "TurningShop$Game" "actions" "I" ∈ wsL_law) (hdg : decode cc pc = .ok (.putfield i, 3)) (kk : ∀ (g1 : GS) (H1 : Heap) (locs1 : List Loc), g1 = u2 g 4 8 v → gmB D A s cI ad g1 H1 locs1 → W p l e R s m args below meth c H1 locs1 cells slots Q (F0 m (pc + 3) ls rest)) : W p l e R s m args below meth c H locs cells slots Q (F0 m pc ls (.int (iN v) :: .ref (ad 0) :: rest)) := va_put (D := D) (ci := 0) (v := .int (iN v)) (ty := .int) (C := RX0) (T := TX0) (N := 14) cx.1 cx.2.1 cx.2.2.2.2 inlX0 tyX0 tyX0_ok nmX0 cx.2.2.2.1 hK hw.1 hw.2.1 hw.2.2 0 (fs := gmF ad g) rfl rfl 8 (by decide) (cx.2.2.2.2 _ hl) (fun _ h9 => h9) rfl (by decide +kernel) rfl rfl (Nat.le_of_ble_eq_true rfl) hdg (fun H1 locs1 hP hD hS => kk _ H1 locs1 rfl ⟨hP, hD, hS⟩)
theorem gm_get9 (cx : CallFix p m c cc nL s args wsL_law own) (hK : va_K D vwCl [(cI, .int)] s) (hw : gmB D A s cI ad g H locs) (hl : Cond.fieldLink own i "TurningShop$Game" "scraps" "I" ∈ wsL_law) (hdg : decode cc pc = .ok (.getfield i, 3)) (kk : ∀ z : Int, z = g 4 9 → W p l e R s m args below meth c H locs cells slots Q (F0 m (pc + 3) ls (.int (iN z) :: rest))) : W p l e R s m args below meth c H locs cells slots Q (F0 m pc ls (.ref (ad 0) :: rest)) := va_get (D := D) (ci := 0) (C := RX0) (T := TX0) (N := 14) cx.1 cx.2.1 cx.2.2.2.2 inlX0 cx.2.2.2.1 hK hw.1 0 (fs := gmF ad g) rfl rfl 9 (by decide) (cx.2.2.2.2 _ hl) (fun _ h9 => h9) rfl hdg (kk _ rfl)
theorem gm_put9 (cx : CallFix p m c cc nL s args wsL_law own) (hK : va_K D vwCl [(cI, .int)] s) (hw : gmB D A s cI ad g H locs) {v : Int} (hl : Cond.fieldLink own i "TurningShop$Game" "scraps" "I" ∈ wsL_law) (hdg : decode cc pc = .ok (.putfield i, 3)) (kk : ∀ (g1 : GS) (H1 : Heap) (locs1 : List Loc), g1 = u2 g 4 9 v → gmB D A s cI ad g1 H1 locs1 → W p l e R s m args below meth c H1 locs1 cells slots Q (F0 m (pc + 3) ls rest)) : W p l e R s m args below meth c H locs cells slots Q (F0 m pc ls (.int (iN v) :: .ref (ad 0) :: rest)) := va_put (D := D) (ci := 0) (v := .int (iN v)) (ty := .int) (C := RX0) (T := TX0) (N := 14) cx.1 cx.2.1 cx.2.2.2.2 inlX0 tyX0 tyX0_ok nmX0 cx.2.2.2.1 hK hw.1 hw.2.1 hw.2.2 0 (fs := gmF ad g) rfl rfl 9 (by decide) (cx.2.2.2.2 _ hl) (fun _ h9 => h9) rfl (by decide +kernel) rfl rfl (Nat.le_of_ble_eq_true rfl) hdg (fun H1 locs1 hP hD hS => kk _ H1 locs1 rfl ⟨hP, hD, hS⟩)
theorem gm_get10 (cx : CallFix p m c cc nL s args wsL_law own) (hK : va_K D vwCl [(cI, .int)] s) (hw : gmB D A s cI ad g H locs) (hl : Cond.fieldLink own i "TurningShop$Game" "rowFirst" "I" ∈ wsL_law) (hdg : decode cc pc = .ok (.getfield i, 3)) (kk : ∀ z : Int, z = g 4 10 → W p l e R s m args below meth c H locs cells slots Q (F0 m (pc + 3) ls (.int (iN z) :: rest))) : W p l e R s m args below meth c H locs cells slots Q (F0 m pc ls (.ref (ad 0) :: rest)) := va_get (D := D) (ci := 0) (C := RX0) (T := TX0) (N := 14) cx.1 cx.2.1 cx.2.2.2.2 inlX0 cx.2.2.2.1 hK hw.1 0 (fs := gmF ad g) rfl rfl 10 (by decide) (cx.2.2.2.2 _ hl) (fun _ h9 => h9) rfl hdg (kk _ rfl)
theorem gm_put10 (cx : CallFix p m c cc nL s args wsL_law own) (hK : va_K D vwCl [(cI, .int)] s) (hw : gmB D A s cI ad g H locs) {v : Int} (hl : Cond.fieldLink own i "TurningShop$Game" "rowFirst" "I" ∈ wsL_law) (hdg : decode cc pc = .ok (.putfield i, 3)) (kk : ∀ (g1 : GS) (H1 : Heap) (locs1 : List Loc), g1 = u2 g 4 10 v → gmB D A s cI ad g1 H1 locs1 → W p l e R s m args below meth c H1 locs1 cells slots Q (F0 m (pc + 3) ls rest)) : W p l e R s m args below meth c H locs cells slots Q (F0 m pc ls (.int (iN v) :: .ref (ad 0) :: rest)) := va_put (D := D) (ci := 0) (v := .int (iN v)) (ty := .int) (C := RX0) (T := TX0) (N := 14) cx.1 cx.2.1 cx.2.2.2.2 inlX0 tyX0 tyX0_ok nmX0 cx.2.2.2.1 hK hw.1 hw.2.1 hw.2.2 0 (fs := gmF ad g) rfl rfl 10 (by decide) (cx.2.2.2.2 _ hl) (fun _ h9 => h9) rfl (by decide +kernel) rfl rfl (Nat.le_of_ble_eq_true rfl) hdg (fun H1 locs1 hP hD hS => kk _ H1 locs1 rfl ⟨hP, hD, hS⟩)
theorem gm_get11 (cx : CallFix p m c cc nL s args wsL_law own) (hK : va_K D vwCl [(cI, .int)] s) (hw : gmB D A s cI ad g H locs) (hl : Cond.fieldLink own i "TurningShop$Game" "setting" "I" ∈ wsL_law) (hdg : decode cc pc = .ok (.getfield i, 3)) (kk : ∀ z : Int, z = g 4 11 → W p l e R s m args below meth c H locs cells slots Q (F0 m (pc + 3) ls (.int (iN z) :: rest))) : W p l e R s m args below meth c H locs cells slots Q (F0 m pc ls (.ref (ad 0) :: rest)) := va_get (D := D) (ci := 0) (C := RX0) (T := TX0) (N := 14) cx.1 cx.2.1 cx.2.2.2.2 inlX0 cx.2.2.2.1 hK hw.1 0 (fs := gmF ad g) rfl rfl 11 (by decide) (cx.2.2.2.2 _ hl) (fun _ h9 => h9) rfl hdg (kk _ rfl)
theorem gm_put11 (cx : CallFix p m c cc nL s args wsL_law own) (hK : va_K D vwCl [(cI, .int)] s) (hw : gmB D A s cI ad g H locs) {v : Int} (hl : Cond.fieldLink own i "TurningShop$Game" "setting" "I" ∈ wsL_law) (hdg : decode cc pc = .ok (.putfield i, 3)) (kk : ∀ (g1 : GS) (H1 : Heap) (locs1 : List Loc), g1 = u2 g 4 11 v → gmB D A s cI ad g1 H1 locs1 → W p l e R s m args below meth c H1 locs1 cells slots Q (F0 m (pc + 3) ls rest)) : W p l e R s m args below meth c H locs cells slots Q (F0 m pc ls (.int (iN v) :: .ref (ad 0) :: rest)) := va_put (D := D) (ci := 0) (v := .int (iN v)) (ty := .int) (C := RX0) (T := TX0) (N := 14) cx.1 cx.2.1 cx.2.2.2.2 inlX0 tyX0 tyX0_ok nmX0 cx.2.2.2.1 hK hw.1 hw.2.1 hw.2.2 0 (fs := gmF ad g) rfl rfl 11 (by decide) (cx.2.2.2.2 _ hl) (fun _ h9 => h9) rfl (by decide +kernel) rfl rfl (Nat.le_of_ble_eq_true rfl) hdg (fun H1 locs1 hP hD hS => kk _ H1 locs1 rfl ⟨hP, hD, hS⟩)
theorem gm_get12 (cx : CallFix p m c cc nL s args wsL_law own) (hK : va_K D vwCl [(cI, .int)] s) (hw : gmB D A s cI ad g H locs) (hl : Cond.fieldLink own i "TurningShop$Game" "endedTurns" "I" ∈ wsL_law) (hdg : decode cc pc = .ok (.getfield i, 3)) (kk : ∀ z : Int, z = g 4 12 → W p l e R s m args below meth c H locs cells slots Q (F0 m (pc + 3) ls (.int (iN z) :: rest))) : W p l e R s m args below meth c H locs cells slots Q (F0 m pc ls (.ref (ad 0) :: rest)) := va_get (D := D) (ci := 0) (C := RX0) (T := TX0) (N := 14) cx.1 cx.2.1 cx.2.2.2.2 inlX0 cx.2.2.2.1 hK hw.1 0 (fs := gmF ad g) rfl rfl 12 (by decide) (cx.2.2.2.2 _ hl) (fun _ h9 => h9) rfl hdg (kk _ rfl)
theorem gm_put12 (cx : CallFix p m c cc nL s args wsL_law own) (hK : va_K D vwCl [(cI, .int)] s) (hw : gmB D A s cI ad g H locs) {v : Int} (hl : Cond.fieldLink own i "TurningShop$Game" "endedTurns" "I" ∈ wsL_law) (hdg : decode cc pc = .ok (.putfield i, 3)) (kk : ∀ (g1 : GS) (H1 : Heap) (locs1 : List Loc), g1 = u2 g 4 12 v → gmB D A s cI ad g1 H1 locs1 → W p l e R s m args below meth c H1 locs1 cells slots Q (F0 m (pc + 3) ls rest)) : W p l e R s m args below meth c H locs cells slots Q (F0 m pc ls (.int (iN v) :: .ref (ad 0) :: rest)) := va_put (D := D) (ci := 0) (v := .int (iN v)) (ty := .int) (C := RX0) (T := TX0) (N := 14) cx.1 cx.2.1 cx.2.2.2.2 inlX0 tyX0 tyX0_ok nmX0 cx.2.2.2.1 hK hw.1 hw.2.1 hw.2.2 0 (fs := gmF ad g) rfl rfl 12 (by decide) (cx.2.2.2.2 _ hl) (fun _ h9 => h9) rfl (by decide +kernel) rfl rfl (Nat.le_of_ble_eq_true rfl) hdg (fun H1 locs1 hP hD hS => kk _ H1 locs1 rfl ⟨hP, hD, hS⟩)
theorem gm_get13 (cx : CallFix p m c cc nL s args wsL_law own) (hK : va_K D vwCl [(cI, .int)] s) (hw : gmB D A s cI ad g H locs) (hl : Cond.fieldLink own i "TurningShop$Game" "over" "Z" ∈ wsL_law) (hdg : decode cc pc = .ok (.getfield i, 3)) (kk : ∀ z : Int, z = g 4 13 → W p l e R s m args below meth c H locs cells slots Q (F0 m (pc + 3) ls (.int (iN z) :: rest))) : W p l e R s m args below meth c H locs cells slots Q (F0 m pc ls (.ref (ad 0) :: rest)) := va_get (D := D) (ci := 0) (C := RX0) (T := TX0) (N := 14) cx.1 cx.2.1 cx.2.2.2.2 inlX0 cx.2.2.2.1 hK hw.1 0 (fs := gmF ad g) rfl rfl 13 (by decide) (cx.2.2.2.2 _ hl) (fun _ h9 => h9) rfl hdg (kk _ rfl)
theorem gm_put13 (cx : CallFix p m c cc nL s args wsL_law own) (hK : va_K D vwCl [(cI, .int)] s) (hw : gmB D A s cI ad g H locs) {v : Int} (hz : v = 0 ∨ v = 1) (hl : Cond.fieldLink own i "TurningShop$Game" "over" "Z" ∈ wsL_law) (hdg : decode cc pc = .ok (.putfield i, 3)) (kk : ∀ (g1 : GS) (H1 : Heap) (locs1 : List Loc), g1 = u2 g 4 13 v → gmB D A s cI ad g1 H1 locs1 → W p l e R s m args below meth c H1 locs1 cells slots Q (F0 m (pc + 3) ls rest)) : W p l e R s m args below meth c H locs cells slots Q (F0 m pc ls (.int (iN v) :: .ref (ad 0) :: rest)) := va_put (D := D) (ci := 0) (v := .int (iN v)) (ty := .boolean) (C := RX0) (T := TX0) (N := 14) cx.1 cx.2.1 cx.2.2.2.2 inlX0 tyX0 tyX0_ok nmX0 cx.2.2.2.1 hK hw.1 hw.2.1 hw.2.2 0 (fs := gmF ad g) rfl rfl 13 (by decide) (cx.2.2.2.2 _ hl) (fun _ h9 => h9) rfl (by decide +kernel) (by rcases hz with rfl | rfl <;> rfl) (by rcases hz with rfl | rfl <;> rfl) (Nat.le_of_ble_eq_true rfl) hdg (fun H1 locs1 hP hD hS => kk _ H1 locs1 rfl ⟨hP, hD, hS⟩)
theorem gm_ld0 (cx : CallFix p m c cc nL s args wsL_law own) (hK : va_K D vwCl [(cI, .int)] s) (hw : gmB D A s cI ad g H locs) (k : Nat) {x : Int} (hk : x = (k : Int) ∧ k < 164) (hdg : decode cc pc = .ok (.iaload, 1)) (kk : ∀ z : Int, z = g 0 k → W p l e R s m args below meth c H locs cells slots Q (F0 m (pc + 1) ls (.int (iN z) :: rest))) : W p l e R s m args below meth c H locs cells slots Q (F0 m pc ls (.int (iN x) :: .ref (ad 1) :: rest)) := va_iald (D := D) cx.1 cx.2.1 hK hw.1 1 0 (cA := cI) (n := 164) (f := fun j => iN (g 0 j)) rfl rfl (iN_in hk.1 hk.2 (Nat.le_of_ble_eq_true rfl)) hdg (by rw [iN_k hk.1 hk.2 (Nat.le_of_ble_eq_true rfl)]; exact kk _ rfl)
theorem gm_st0 (cx : CallFix p m c cc nL s args wsL_law own) (hK : va_K D vwCl [(cI, .int)] s) (hw : gmB D A s cI ad g H locs) (k : Nat) {x v : Int} (hk : x = (k : Int) ∧ k < 164) (hdg : decode cc pc = .ok (.iastore, 1)) (kk : ∀ (g1 : GS) (H1 : Heap) (locs1 : List Loc), g1 = u2 g 0 k v → gmB D A s cI ad g1 H1 locs1 → W p l e R s m args below meth c H1 locs1 cells slots Q (F0 m (pc + 1) ls rest)) : W p l e R s m args below meth c H locs cells slots Q (F0 m pc ls (.int (iN v) :: .int (iN x) :: .ref (ad 1) :: rest)) := va_iast (D := D) cx.1 cx.2.1 hK hw.1 hw.2.1 hw.2.2 1 0 (cA := cI) (n := 164) (f := fun j => iN (g 0 j)) rfl rfl (iN_in hk.1 hk.2 (Nat.le_of_ble_eq_true rfl)) hdg (fun H1 locs1 hP hD hS => kk _ H1 locs1 rfl (by
  rw [iN_k hk.1 hk.2 (Nat.le_of_ble_eq_true rfl), gmW_a0] at hP hD
  exact ⟨hP, hD, hS⟩))
theorem gm_ld1 (cx : CallFix p m c cc nL s args wsL_law own) (hK : va_K D vwCl [(cI, .int)] s) (hw : gmB D A s cI ad g H locs) (k : Nat) {x : Int} (hk : x = (k : Int) ∧ k < 17) (hdg : decode cc pc = .ok (.iaload, 1)) (kk : ∀ z : Int, z = g 1 k → W p l e R s m args below meth c H locs cells slots Q (F0 m (pc + 1) ls (.int (iN z) :: rest))) : W p l e R s m args below meth c H locs cells slots Q (F0 m pc ls (.int (iN x) :: .ref (ad 2) :: rest)) := va_iald (D := D) cx.1 cx.2.1 hK hw.1 2 0 (cA := cI) (n := 17) (f := fun j => iN (g 1 j)) rfl rfl (iN_in hk.1 hk.2 (Nat.le_of_ble_eq_true rfl)) hdg (by rw [iN_k hk.1 hk.2 (Nat.le_of_ble_eq_true rfl)]; exact kk _ rfl)
theorem gm_st1 (cx : CallFix p m c cc nL s args wsL_law own) (hK : va_K D vwCl [(cI, .int)] s) (hw : gmB D A s cI ad g H locs) (k : Nat) {x v : Int} (hk : x = (k : Int) ∧ k < 17) (hdg : decode cc pc = .ok (.iastore, 1)) (kk : ∀ (g1 : GS) (H1 : Heap) (locs1 : List Loc), g1 = u2 g 1 k v → gmB D A s cI ad g1 H1 locs1 → W p l e R s m args below meth c H1 locs1 cells slots Q (F0 m (pc + 1) ls rest)) : W p l e R s m args below meth c H locs cells slots Q (F0 m pc ls (.int (iN v) :: .int (iN x) :: .ref (ad 2) :: rest)) := va_iast (D := D) cx.1 cx.2.1 hK hw.1 hw.2.1 hw.2.2 2 0 (cA := cI) (n := 17) (f := fun j => iN (g 1 j)) rfl rfl (iN_in hk.1 hk.2 (Nat.le_of_ble_eq_true rfl)) hdg (fun H1 locs1 hP hD hS => kk _ H1 locs1 rfl (by
  rw [iN_k hk.1 hk.2 (Nat.le_of_ble_eq_true rfl), gmW_a1] at hP hD
  exact ⟨hP, hD, hS⟩))
theorem gm_ld2 (cx : CallFix p m c cc nL s args wsL_law own) (hK : va_K D vwCl [(cI, .int)] s) (hw : gmB D A s cI ad g H locs) (k : Nat) {x : Int} (hk : x = (k : Int) ∧ k < 10) (hdg : decode cc pc = .ok (.iaload, 1)) (kk : ∀ z : Int, z = g 2 k → W p l e R s m args below meth c H locs cells slots Q (F0 m (pc + 1) ls (.int (iN z) :: rest))) : W p l e R s m args below meth c H locs cells slots Q (F0 m pc ls (.int (iN x) :: .ref (ad 3) :: rest)) := va_iald (D := D) cx.1 cx.2.1 hK hw.1 3 0 (cA := cI) (n := 10) (f := fun j => iN (g 2 j)) rfl rfl (iN_in hk.1 hk.2 (Nat.le_of_ble_eq_true rfl)) hdg (by rw [iN_k hk.1 hk.2 (Nat.le_of_ble_eq_true rfl)]; exact kk _ rfl)
theorem gm_st2 (cx : CallFix p m c cc nL s args wsL_law own) (hK : va_K D vwCl [(cI, .int)] s) (hw : gmB D A s cI ad g H locs) (k : Nat) {x v : Int} (hk : x = (k : Int) ∧ k < 10) (hdg : decode cc pc = .ok (.iastore, 1)) (kk : ∀ (g1 : GS) (H1 : Heap) (locs1 : List Loc), g1 = u2 g 2 k v → gmB D A s cI ad g1 H1 locs1 → W p l e R s m args below meth c H1 locs1 cells slots Q (F0 m (pc + 1) ls rest)) : W p l e R s m args below meth c H locs cells slots Q (F0 m pc ls (.int (iN v) :: .int (iN x) :: .ref (ad 3) :: rest)) := va_iast (D := D) cx.1 cx.2.1 hK hw.1 hw.2.1 hw.2.2 3 0 (cA := cI) (n := 10) (f := fun j => iN (g 2 j)) rfl rfl (iN_in hk.1 hk.2 (Nat.le_of_ble_eq_true rfl)) hdg (fun H1 locs1 hP hD hS => kk _ H1 locs1 rfl (by
  rw [iN_k hk.1 hk.2 (Nat.le_of_ble_eq_true rfl), gmW_a2] at hP hD
  exact ⟨hP, hD, hS⟩))
theorem gm_ld3 (cx : CallFix p m c cc nL s args wsL_law own) (hK : va_K D vwCl [(cI, .int)] s) (hw : gmB D A s cI ad g H locs) (k : Nat) {x : Int} (hk : x = (k : Int) ∧ k < 10) (hdg : decode cc pc = .ok (.iaload, 1)) (kk : ∀ z : Int, z = g 3 k → W p l e R s m args below meth c H locs cells slots Q (F0 m (pc + 1) ls (.int (iN z) :: rest))) : W p l e R s m args below meth c H locs cells slots Q (F0 m pc ls (.int (iN x) :: .ref (ad 4) :: rest)) := va_iald (D := D) cx.1 cx.2.1 hK hw.1 4 0 (cA := cI) (n := 10) (f := fun j => iN (g 3 j)) rfl rfl (iN_in hk.1 hk.2 (Nat.le_of_ble_eq_true rfl)) hdg (by rw [iN_k hk.1 hk.2 (Nat.le_of_ble_eq_true rfl)]; exact kk _ rfl)
theorem gm_st3 (cx : CallFix p m c cc nL s args wsL_law own) (hK : va_K D vwCl [(cI, .int)] s) (hw : gmB D A s cI ad g H locs) (k : Nat) {x v : Int} (hk : x = (k : Int) ∧ k < 10) (hdg : decode cc pc = .ok (.iastore, 1)) (kk : ∀ (g1 : GS) (H1 : Heap) (locs1 : List Loc), g1 = u2 g 3 k v → gmB D A s cI ad g1 H1 locs1 → W p l e R s m args below meth c H1 locs1 cells slots Q (F0 m (pc + 1) ls rest)) : W p l e R s m args below meth c H locs cells slots Q (F0 m pc ls (.int (iN v) :: .int (iN x) :: .ref (ad 4) :: rest)) := va_iast (D := D) cx.1 cx.2.1 hK hw.1 hw.2.1 hw.2.2 4 0 (cA := cI) (n := 10) (f := fun j => iN (g 3 j)) rfl rfl (iN_in hk.1 hk.2 (Nat.le_of_ble_eq_true rfl)) hdg (fun H1 locs1 hP hD hS => kk _ H1 locs1 rfl (by
  rw [iN_k hk.1 hk.2 (Nat.le_of_ble_eq_true rfl), gmW_a3] at hP hD
  exact ⟨hP, hD, hS⟩))
end GMROWS
/-! ===== TurningShopModel ===== -/
def mmF (ad : Nat → Nat) (g : GS) : List Value := [.ref (ad 1), .ref (ad 2), .ref (ad 3), .int (iN (g 4 3)), .ref (ad 4), .int (iN (g 4 5)), .int (iN (g 4 6)), .int (iN (g 4 7)), .int (iN (g 4 8)), .int (iN (g 4 9)), .int (iN (g 4 10)), .int (iN (g 4 11)), .int (iN (g 4 12))]
def mmW (cI : ClassId) (ad : Nat → Nat) (g : GS) : va_W := [(ad 0, .inr (2, mmF ad g)), (ad 1, .inl (cI, 2670, .inl (fun j => iN (g 0 j)))), (ad 2, .inl (cI, 2670, .inl (fun j => iN (g 1 j)))), (ad 3, .inl (cI, 10680, .inl (fun j => iN (g 2 j)))), (ad 4, .inl (cI, 60, .inl (fun j => iN (g 3 j))))]
/-- the world of one, and what was written so far -/
def mmB (D : va_G) (A : Nat → Prop) (s : State) (cI : ClassId) (ad : Nat → Nat) (g : GS) (H : Heap) (locs : List Loc) : Prop := va_P D vwCl (mmW cI ad g) H ∧ va_D A (mmW cI ad g) ∧ va_S A s.heap H locs
theorem mmF_3 (ad : Nat → Nat) (g : GS) (v : Int) : (mmF ad g).set 3 (.int (iN v)) = mmF ad (u2 g 4 3 v) := rfl
theorem mmF_5 (ad : Nat → Nat) (g : GS) (v : Int) : (mmF ad g).set 5 (.int (iN v)) = mmF ad (u2 g 4 5 v) := rfl
theorem mmF_6 (ad : Nat → Nat) (g : GS) (v : Int) : (mmF ad g).set 6 (.int (iN v)) = mmF ad (u2 g 4 6 v) := rfl
theorem mmF_7 (ad : Nat → Nat) (g : GS) (v : Int) : (mmF ad g).set 7 (.int (iN v)) = mmF ad (u2 g 4 7 v) := rfl
theorem mmF_8 (ad : Nat → Nat) (g : GS) (v : Int) : (mmF ad g).set 8 (.int (iN v)) = mmF ad (u2 g 4 8 v) := rfl
theorem mmF_9 (ad : Nat → Nat) (g : GS) (v : Int) : (mmF ad g).set 9 (.int (iN v)) = mmF ad (u2 g 4 9 v) := rfl
theorem mmF_10 (ad : Nat → Nat) (g : GS) (v : Int) : (mmF ad g).set 10 (.int (iN v)) = mmF ad (u2 g 4 10 v) := rfl
theorem mmF_11 (ad : Nat → Nat) (g : GS) (v : Int) : (mmF ad g).set 11 (.int (iN v)) = mmF ad (u2 g 4 11 v) := rfl
theorem mmF_12 (ad : Nat → Nat) (g : GS) (v : Int) : (mmF ad g).set 12 (.int (iN v)) = mmF ad (u2 g 4 12 v) := rfl
theorem mmW_f (cI : ClassId) (ad : Nat → Nat) (g : GS) (k : Nat) (v : Int) : (mmW cI ad g).set 0 (ad 0, .inr (2, mmF ad (u2 g 4 k v))) = mmW cI ad (u2 g 4 k v) := rfl
theorem mmF_a0 (ad : Nat → Nat) (g : GS) (k : Nat) (v : Int) : mmF ad (u2 g 0 k v) = mmF ad g := rfl
theorem mmW_a0 (cI : ClassId) (ad : Nat → Nat) (g : GS) (k : Nat) (v : Int) : (mmW cI ad g).set 1 (ad 1, .inl (cI, 2670, .inl (upd (fun j => iN (g 0 j)) k (iN v)))) = mmW cI ad (u2 g 0 k v) := by
  rw [iN_upd]
  have h : (fun j => iN (if j = k then v else g 0 j)) = fun j => iN (u2 g 0 k v 0 j) := by
    funext j
    by_cases hj : j = k
    · subst hj
      rw [u2_s, if_pos rfl]
    · rw [u2_k g hj, if_neg hj]
  rw [h]
  rfl
theorem mmF_a1 (ad : Nat → Nat) (g : GS) (k : Nat) (v : Int) : mmF ad (u2 g 1 k v) = mmF ad g := rfl
theorem mmW_a1 (cI : ClassId) (ad : Nat → Nat) (g : GS) (k : Nat) (v : Int) : (mmW cI ad g).set 2 (ad 2, .inl (cI, 2670, .inl (upd (fun j => iN (g 1 j)) k (iN v)))) = mmW cI ad (u2 g 1 k v) := by
  rw [iN_upd]
  have h : (fun j => iN (if j = k then v else g 1 j)) = fun j => iN (u2 g 1 k v 1 j) := by
    funext j
    by_cases hj : j = k
    · subst hj
      rw [u2_s, if_pos rfl]
    · rw [u2_k g hj, if_neg hj]
  rw [h]
  rfl
theorem mmF_a2 (ad : Nat → Nat) (g : GS) (k : Nat) (v : Int) : mmF ad (u2 g 2 k v) = mmF ad g := rfl
theorem mmW_a2 (cI : ClassId) (ad : Nat → Nat) (g : GS) (k : Nat) (v : Int) : (mmW cI ad g).set 3 (ad 3, .inl (cI, 10680, .inl (upd (fun j => iN (g 2 j)) k (iN v)))) = mmW cI ad (u2 g 2 k v) := by
  rw [iN_upd]
  have h : (fun j => iN (if j = k then v else g 2 j)) = fun j => iN (u2 g 2 k v 2 j) := by
    funext j
    by_cases hj : j = k
    · subst hj
      rw [u2_s, if_pos rfl]
    · rw [u2_k g hj, if_neg hj]
  rw [h]
  rfl
theorem mmF_a3 (ad : Nat → Nat) (g : GS) (k : Nat) (v : Int) : mmF ad (u2 g 3 k v) = mmF ad g := rfl
theorem mmW_a3 (cI : ClassId) (ad : Nat → Nat) (g : GS) (k : Nat) (v : Int) : (mmW cI ad g).set 4 (ad 4, .inl (cI, 60, .inl (upd (fun j => iN (g 3 j)) k (iN v)))) = mmW cI ad (u2 g 3 k v) := by
  rw [iN_upd]
  have h : (fun j => iN (if j = k then v else g 3 j)) = fun j => iN (u2 g 3 k v 3 j) := by
    funext j
    by_cases hj : j = k
    · subst hj
      rw [u2_s, if_pos rfl]
    · rw [u2_k g hj, if_neg hj]
  rw [h]
  rfl
section MMROWS
variable {p : Program} {l : Launch} {e : Env} {R : Room} {s : State} {m : MethodId} {args : Array Value} {below : List Frame} {meth : Method} {c : Code} {H : Heap} {locs : List Loc} {cells slots : Nat} {Q : State → Prop}
variable {cc : ByteArray} {pc nL : Nat} {ls : Array Slot} {rest : List Value} {D : va_G} {A : Nat → Prop} {cI : ClassId} {ad : Nat → Nat} {g : GS} {own : String} {i : Nat}
theorem mm_get0 (cx : CallFix p m c cc nL s args wsL_law own) (hK : va_K D vwCl [(cI, .int)] s) (hw : mmB D A s cI ad g H locs) (hl : Cond.fieldLink own i "TurningShopModel" "s" "[I" ∈ wsL_law) (hdg : decode cc pc = .ok (.getfield i, 3)) (kk : W p l e R s m args below meth c H locs cells slots Q (F0 m (pc + 3) ls (.ref (ad 1) :: rest))) : W p l e R s m args below meth c H locs cells slots Q (F0 m pc ls (.ref (ad 0) :: rest)) := va_get (D := D) (ci := 2) (C := RX2) (T := TX2) (N := 13) cx.1 cx.2.1 cx.2.2.2.2 inlX2 cx.2.2.2.1 hK hw.1 0 (fs := mmF ad g) rfl rfl 0 (by decide) (cx.2.2.2.2 _ hl) (fun _ h9 => h9) rfl hdg kk
theorem mm_get1 (cx : CallFix p m c cc nL s args wsL_law own) (hK : va_K D vwCl [(cI, .int)] s) (hw : mmB D A s cI ad g H locs) (hl : Cond.fieldLink own i "TurningShopModel" "aside" "[I" ∈ wsL_law) (hdg : decode cc pc = .ok (.getfield i, 3)) (kk : W p l e R s m args below meth c H locs cells slots Q (F0 m (pc + 3) ls (.ref (ad 2) :: rest))) : W p l e R s m args below meth c H locs cells slots Q (F0 m pc ls (.ref (ad 0) :: rest)) := va_get (D := D) (ci := 2) (C := RX2) (T := TX2) (N := 13) cx.1 cx.2.1 cx.2.2.2.2 inlX2 cx.2.2.2.1 hK hw.1 0 (fs := mmF ad g) rfl rfl 1 (by decide) (cx.2.2.2.2 _ hl) (fun _ h9 => h9) rfl hdg kk
theorem mm_get2 (cx : CallFix p m c cc nL s args wsL_law own) (hK : va_K D vwCl [(cI, .int)] s) (hw : mmB D A s cI ad g H locs) (hl : Cond.fieldLink own i "TurningShopModel" "before" "[I" ∈ wsL_law) (hdg : decode cc pc = .ok (.getfield i, 3)) (kk : W p l e R s m args below meth c H locs cells slots Q (F0 m (pc + 3) ls (.ref (ad 3) :: rest))) : W p l e R s m args below meth c H locs cells slots Q (F0 m pc ls (.ref (ad 0) :: rest)) := va_get (D := D) (ci := 2) (C := RX2) (T := TX2) (N := 13) cx.1 cx.2.1 cx.2.2.2.2 inlX2 cx.2.2.2.1 hK hw.1 0 (fs := mmF ad g) rfl rfl 2 (by decide) (cx.2.2.2.2 _ hl) (fun _ h9 => h9) rfl hdg kk
theorem mm_get3 (cx : CallFix p m c cc nL s args wsL_law own) (hK : va_K D vwCl [(cI, .int)] s) (hw : mmB D A s cI ad g H locs) (hl : Cond.fieldLink own i "TurningShopModel" "known" "I" ∈ wsL_law) (hdg : decode cc pc = .ok (.getfield i, 3)) (kk : ∀ z : Int, z = g 4 3 → W p l e R s m args below meth c H locs cells slots Q (F0 m (pc + 3) ls (.int (iN z) :: rest))) : W p l e R s m args below meth c H locs cells slots Q (F0 m pc ls (.ref (ad 0) :: rest)) := va_get (D := D) (ci := 2) (C := RX2) (T := TX2) (N := 13) cx.1 cx.2.1 cx.2.2.2.2 inlX2 cx.2.2.2.1 hK hw.1 0 (fs := mmF ad g) rfl rfl 3 (by decide) (cx.2.2.2.2 _ hl) (fun _ h9 => h9) rfl hdg (kk _ rfl)
theorem mm_put3 (cx : CallFix p m c cc nL s args wsL_law own) (hK : va_K D vwCl [(cI, .int)] s) (hw : mmB D A s cI ad g H locs) {v : Int} (hl : Cond.fieldLink own i "TurningShopModel" "known" "I" ∈ wsL_law) (hdg : decode cc pc = .ok (.putfield i, 3)) (kk : ∀ (g1 : GS) (H1 : Heap) (locs1 : List Loc), g1 = u2 g 4 3 v → mmB D A s cI ad g1 H1 locs1 → W p l e R s m args below meth c H1 locs1 cells slots Q (F0 m (pc + 3) ls rest)) : W p l e R s m args below meth c H locs cells slots Q (F0 m pc ls (.int (iN v) :: .ref (ad 0) :: rest)) := va_put (D := D) (ci := 2) (v := .int (iN v)) (ty := .int) (C := RX2) (T := TX2) (N := 13) cx.1 cx.2.1 cx.2.2.2.2 inlX2 tyX2 tyX2_ok nmX2 cx.2.2.2.1 hK hw.1 hw.2.1 hw.2.2 0 (fs := mmF ad g) rfl rfl 3 (by decide) (cx.2.2.2.2 _ hl) (fun _ h9 => h9) rfl (by decide +kernel) rfl rfl (Nat.le_of_ble_eq_true rfl) hdg (fun H1 locs1 hP hD hS => kk _ H1 locs1 rfl ⟨hP, hD, hS⟩)
theorem mm_get4 (cx : CallFix p m c cc nL s args wsL_law own) (hK : va_K D vwCl [(cI, .int)] s) (hw : mmB D A s cI ad g H locs) (hl : Cond.fieldLink own i "TurningShopModel" "text" "[I" ∈ wsL_law) (hdg : decode cc pc = .ok (.getfield i, 3)) (kk : W p l e R s m args below meth c H locs cells slots Q (F0 m (pc + 3) ls (.ref (ad 4) :: rest))) : W p l e R s m args below meth c H locs cells slots Q (F0 m pc ls (.ref (ad 0) :: rest)) := va_get (D := D) (ci := 2) (C := RX2) (T := TX2) (N := 13) cx.1 cx.2.1 cx.2.2.2.2 inlX2 cx.2.2.2.1 hK hw.1 0 (fs := mmF ad g) rfl rfl 4 (by decide) (cx.2.2.2.2 _ hl) (fun _ h9 => h9) rfl hdg kk
theorem mm_get5 (cx : CallFix p m c cc nL s args wsL_law own) (hK : va_K D vwCl [(cI, .int)] s) (hw : mmB D A s cI ad g H locs) (hl : Cond.fieldLink own i "TurningShopModel" "length" "I" ∈ wsL_law) (hdg : decode cc pc = .ok (.getfield i, 3)) (kk : ∀ z : Int, z = g 4 5 → W p l e R s m args below meth c H locs cells slots Q (F0 m (pc + 3) ls (.int (iN z) :: rest))) : W p l e R s m args below meth c H locs cells slots Q (F0 m pc ls (.ref (ad 0) :: rest)) := va_get (D := D) (ci := 2) (C := RX2) (T := TX2) (N := 13) cx.1 cx.2.1 cx.2.2.2.2 inlX2 cx.2.2.2.1 hK hw.1 0 (fs := mmF ad g) rfl rfl 5 (by decide) (cx.2.2.2.2 _ hl) (fun _ h9 => h9) rfl hdg (kk _ rfl)
theorem mm_put5 (cx : CallFix p m c cc nL s args wsL_law own) (hK : va_K D vwCl [(cI, .int)] s) (hw : mmB D A s cI ad g H locs) {v : Int} (hl : Cond.fieldLink own i "TurningShopModel" "length" "I" ∈ wsL_law) (hdg : decode cc pc = .ok (.putfield i, 3)) (kk : ∀ (g1 : GS) (H1 : Heap) (locs1 : List Loc), g1 = u2 g 4 5 v → mmB D A s cI ad g1 H1 locs1 → W p l e R s m args below meth c H1 locs1 cells slots Q (F0 m (pc + 3) ls rest)) : W p l e R s m args below meth c H locs cells slots Q (F0 m pc ls (.int (iN v) :: .ref (ad 0) :: rest)) := va_put (D := D) (ci := 2) (v := .int (iN v)) (ty := .int) (C := RX2) (T := TX2) (N := 13) cx.1 cx.2.1 cx.2.2.2.2 inlX2 tyX2 tyX2_ok nmX2 cx.2.2.2.1 hK hw.1 hw.2.1 hw.2.2 0 (fs := mmF ad g) rfl rfl 5 (by decide) (cx.2.2.2.2 _ hl) (fun _ h9 => h9) rfl (by decide +kernel) rfl rfl (Nat.le_of_ble_eq_true rfl) hdg (fun H1 locs1 hP hD hS => kk _ H1 locs1 rfl ⟨hP, hD, hS⟩)
theorem mm_get6 (cx : CallFix p m c cc nL s args wsL_law own) (hK : va_K D vwCl [(cI, .int)] s) (hw : mmB D A s cI ad g H locs) (hl : Cond.fieldLink own i "TurningShopModel" "at" "I" ∈ wsL_law) (hdg : decode cc pc = .ok (.getfield i, 3)) (kk : ∀ z : Int, z = g 4 6 → W p l e R s m args below meth c H locs cells slots Q (F0 m (pc + 3) ls (.int (iN z) :: rest))) : W p l e R s m args below meth c H locs cells slots Q (F0 m pc ls (.ref (ad 0) :: rest)) := va_get (D := D) (ci := 2) (C := RX2) (T := TX2) (N := 13) cx.1 cx.2.1 cx.2.2.2.2 inlX2 cx.2.2.2.1 hK hw.1 0 (fs := mmF ad g) rfl rfl 6 (by decide) (cx.2.2.2.2 _ hl) (fun _ h9 => h9) rfl hdg (kk _ rfl)
theorem mm_put6 (cx : CallFix p m c cc nL s args wsL_law own) (hK : va_K D vwCl [(cI, .int)] s) (hw : mmB D A s cI ad g H locs) {v : Int} (hl : Cond.fieldLink own i "TurningShopModel" "at" "I" ∈ wsL_law) (hdg : decode cc pc = .ok (.putfield i, 3)) (kk : ∀ (g1 : GS) (H1 : Heap) (locs1 : List Loc), g1 = u2 g 4 6 v → mmB D A s cI ad g1 H1 locs1 → W p l e R s m args below meth c H1 locs1 cells slots Q (F0 m (pc + 3) ls rest)) : W p l e R s m args below meth c H locs cells slots Q (F0 m pc ls (.int (iN v) :: .ref (ad 0) :: rest)) := va_put (D := D) (ci := 2) (v := .int (iN v)) (ty := .int) (C := RX2) (T := TX2) (N := 13) cx.1 cx.2.1 cx.2.2.2.2 inlX2 tyX2 tyX2_ok nmX2 cx.2.2.2.1 hK hw.1 hw.2.1 hw.2.2 0 (fs := mmF ad g) rfl rfl 6 (by decide) (cx.2.2.2.2 _ hl) (fun _ h9 => h9) rfl (by decide +kernel) rfl rfl (Nat.le_of_ble_eq_true rfl) hdg (fun H1 locs1 hP hD hS => kk _ H1 locs1 rfl ⟨hP, hD, hS⟩)
theorem mm_get7 (cx : CallFix p m c cc nL s args wsL_law own) (hK : va_K D vwCl [(cI, .int)] s) (hw : mmB D A s cI ad g H locs) (hl : Cond.fieldLink own i "TurningShopModel" "isWrong" "Z" ∈ wsL_law) (hdg : decode cc pc = .ok (.getfield i, 3)) (kk : ∀ z : Int, z = g 4 7 → W p l e R s m args below meth c H locs cells slots Q (F0 m (pc + 3) ls (.int (iN z) :: rest))) : W p l e R s m args below meth c H locs cells slots Q (F0 m pc ls (.ref (ad 0) :: rest)) := va_get (D := D) (ci := 2) (C := RX2) (T := TX2) (N := 13) cx.1 cx.2.1 cx.2.2.2.2 inlX2 cx.2.2.2.1 hK hw.1 0 (fs := mmF ad g) rfl rfl 7 (by decide) (cx.2.2.2.2 _ hl) (fun _ h9 => h9) rfl hdg (kk _ rfl)
theorem mm_put7 (cx : CallFix p m c cc nL s args wsL_law own) (hK : va_K D vwCl [(cI, .int)] s) (hw : mmB D A s cI ad g H locs) {v : Int} (hz : v = 0 ∨ v = 1) (hl : Cond.fieldLink own i "TurningShopModel" "isWrong" "Z" ∈ wsL_law) (hdg : decode cc pc = .ok (.putfield i, 3)) (kk : ∀ (g1 : GS) (H1 : Heap) (locs1 : List Loc), g1 = u2 g 4 7 v → mmB D A s cI ad g1 H1 locs1 → W p l e R s m args below meth c H1 locs1 cells slots Q (F0 m (pc + 3) ls rest)) : W p l e R s m args below meth c H locs cells slots Q (F0 m pc ls (.int (iN v) :: .ref (ad 0) :: rest)) := va_put (D := D) (ci := 2) (v := .int (iN v)) (ty := .boolean) (C := RX2) (T := TX2) (N := 13) cx.1 cx.2.1 cx.2.2.2.2 inlX2 tyX2 tyX2_ok nmX2 cx.2.2.2.1 hK hw.1 hw.2.1 hw.2.2 0 (fs := mmF ad g) rfl rfl 7 (by decide) (cx.2.2.2.2 _ hl) (fun _ h9 => h9) rfl (by decide +kernel) (by rcases hz with rfl | rfl <;> rfl) (by rcases hz with rfl | rfl <;> rfl) (Nat.le_of_ble_eq_true rfl) hdg (fun H1 locs1 hP hD hS => kk _ H1 locs1 rfl ⟨hP, hD, hS⟩)
theorem mm_get8 (cx : CallFix p m c cc nL s args wsL_law own) (hK : va_K D vwCl [(cI, .int)] s) (hw : mmB D A s cI ad g H locs) (hl : Cond.fieldLink own i "TurningShopModel" "letter" "I" ∈ wsL_law) (hdg : decode cc pc = .ok (.getfield i, 3)) (kk : ∀ z : Int, z = g 4 8 → W p l e R s m args below meth c H locs cells slots Q (F0 m (pc + 3) ls (.int (iN z) :: rest))) : W p l e R s m args below meth c H locs cells slots Q (F0 m pc ls (.ref (ad 0) :: rest)) := va_get (D := D) (ci := 2) (C := RX2) (T := TX2) (N := 13) cx.1 cx.2.1 cx.2.2.2.2 inlX2 cx.2.2.2.1 hK hw.1 0 (fs := mmF ad g) rfl rfl 8 (by decide) (cx.2.2.2.2 _ hl) (fun _ h9 => h9) rfl hdg (kk _ rfl)
theorem mm_put8 (cx : CallFix p m c cc nL s args wsL_law own) (hK : va_K D vwCl [(cI, .int)] s) (hw : mmB D A s cI ad g H locs) {v : Int} (hl : Cond.fieldLink own i "TurningShopModel" "letter" "I" ∈ wsL_law) (hdg : decode cc pc = .ok (.putfield i, 3)) (kk : ∀ (g1 : GS) (H1 : Heap) (locs1 : List Loc), g1 = u2 g 4 8 v → mmB D A s cI ad g1 H1 locs1 → W p l e R s m args below meth c H1 locs1 cells slots Q (F0 m (pc + 3) ls rest)) : W p l e R s m args below meth c H locs cells slots Q (F0 m pc ls (.int (iN v) :: .ref (ad 0) :: rest)) := va_put (D := D) (ci := 2) (v := .int (iN v)) (ty := .int) (C := RX2) (T := TX2) (N := 13) cx.1 cx.2.1 cx.2.2.2.2 inlX2 tyX2 tyX2_ok nmX2 cx.2.2.2.1 hK hw.1 hw.2.1 hw.2.2 0 (fs := mmF ad g) rfl rfl 8 (by decide) (cx.2.2.2.2 _ hl) (fun _ h9 => h9) rfl (by decide +kernel) rfl rfl (Nat.le_of_ble_eq_true rfl) hdg (fun H1 locs1 hP hD hS => kk _ H1 locs1 rfl ⟨hP, hD, hS⟩)
theorem mm_get9 (cx : CallFix p m c cc nL s args wsL_law own) (hK : va_K D vwCl [(cI, .int)] s) (hw : mmB D A s cI ad g H locs) (hl : Cond.fieldLink own i "TurningShopModel" "number" "I" ∈ wsL_law) (hdg : decode cc pc = .ok (.getfield i, 3)) (kk : ∀ z : Int, z = g 4 9 → W p l e R s m args below meth c H locs cells slots Q (F0 m (pc + 3) ls (.int (iN z) :: rest))) : W p l e R s m args below meth c H locs cells slots Q (F0 m pc ls (.ref (ad 0) :: rest)) := va_get (D := D) (ci := 2) (C := RX2) (T := TX2) (N := 13) cx.1 cx.2.1 cx.2.2.2.2 inlX2 cx.2.2.2.1 hK hw.1 0 (fs := mmF ad g) rfl rfl 9 (by decide) (cx.2.2.2.2 _ hl) (fun _ h9 => h9) rfl hdg (kk _ rfl)
theorem mm_put9 (cx : CallFix p m c cc nL s args wsL_law own) (hK : va_K D vwCl [(cI, .int)] s) (hw : mmB D A s cI ad g H locs) {v : Int} (hl : Cond.fieldLink own i "TurningShopModel" "number" "I" ∈ wsL_law) (hdg : decode cc pc = .ok (.putfield i, 3)) (kk : ∀ (g1 : GS) (H1 : Heap) (locs1 : List Loc), g1 = u2 g 4 9 v → mmB D A s cI ad g1 H1 locs1 → W p l e R s m args below meth c H1 locs1 cells slots Q (F0 m (pc + 3) ls rest)) : W p l e R s m args below meth c H locs cells slots Q (F0 m pc ls (.int (iN v) :: .ref (ad 0) :: rest)) := va_put (D := D) (ci := 2) (v := .int (iN v)) (ty := .int) (C := RX2) (T := TX2) (N := 13) cx.1 cx.2.1 cx.2.2.2.2 inlX2 tyX2 tyX2_ok nmX2 cx.2.2.2.1 hK hw.1 hw.2.1 hw.2.2 0 (fs := mmF ad g) rfl rfl 9 (by decide) (cx.2.2.2.2 _ hl) (fun _ h9 => h9) rfl (by decide +kernel) rfl rfl (Nat.le_of_ble_eq_true rfl) hdg (fun H1 locs1 hP hD hS => kk _ H1 locs1 rfl ⟨hP, hD, hS⟩)
theorem mm_get10 (cx : CallFix p m c cc nL s args wsL_law own) (hK : va_K D vwCl [(cI, .int)] s) (hw : mmB D A s cI ad g H locs) (hl : Cond.fieldLink own i "TurningShopModel" "position" "I" ∈ wsL_law) (hdg : decode cc pc = .ok (.getfield i, 3)) (kk : ∀ z : Int, z = g 4 10 → W p l e R s m args below meth c H locs cells slots Q (F0 m (pc + 3) ls (.int (iN z) :: rest))) : W p l e R s m args below meth c H locs cells slots Q (F0 m pc ls (.ref (ad 0) :: rest)) := va_get (D := D) (ci := 2) (C := RX2) (T := TX2) (N := 13) cx.1 cx.2.1 cx.2.2.2.2 inlX2 cx.2.2.2.1 hK hw.1 0 (fs := mmF ad g) rfl rfl 10 (by decide) (cx.2.2.2.2 _ hl) (fun _ h9 => h9) rfl hdg (kk _ rfl)
theorem mm_put10 (cx : CallFix p m c cc nL s args wsL_law own) (hK : va_K D vwCl [(cI, .int)] s) (hw : mmB D A s cI ad g H locs) {v : Int} (hl : Cond.fieldLink own i "TurningShopModel" "position" "I" ∈ wsL_law) (hdg : decode cc pc = .ok (.putfield i, 3)) (kk : ∀ (g1 : GS) (H1 : Heap) (locs1 : List Loc), g1 = u2 g 4 10 v → mmB D A s cI ad g1 H1 locs1 → W p l e R s m args below meth c H1 locs1 cells slots Q (F0 m (pc + 3) ls rest)) : W p l e R s m args below meth c H locs cells slots Q (F0 m pc ls (.int (iN v) :: .ref (ad 0) :: rest)) := va_put (D := D) (ci := 2) (v := .int (iN v)) (ty := .int) (C := RX2) (T := TX2) (N := 13) cx.1 cx.2.1 cx.2.2.2.2 inlX2 tyX2 tyX2_ok nmX2 cx.2.2.2.1 hK hw.1 hw.2.1 hw.2.2 0 (fs := mmF ad g) rfl rfl 10 (by decide) (cx.2.2.2.2 _ hl) (fun _ h9 => h9) rfl (by decide +kernel) rfl rfl (Nat.le_of_ble_eq_true rfl) hdg (fun H1 locs1 hP hD hS => kk _ H1 locs1 rfl ⟨hP, hD, hS⟩)
theorem mm_get11 (cx : CallFix p m c cc nL s args wsL_law own) (hK : va_K D vwCl [(cI, .int)] s) (hw : mmB D A s cI ad g H locs) (hl : Cond.fieldLink own i "TurningShopModel" "reason" "I" ∈ wsL_law) (hdg : decode cc pc = .ok (.getfield i, 3)) (kk : ∀ z : Int, z = g 4 11 → W p l e R s m args below meth c H locs cells slots Q (F0 m (pc + 3) ls (.int (iN z) :: rest))) : W p l e R s m args below meth c H locs cells slots Q (F0 m pc ls (.ref (ad 0) :: rest)) := va_get (D := D) (ci := 2) (C := RX2) (T := TX2) (N := 13) cx.1 cx.2.1 cx.2.2.2.2 inlX2 cx.2.2.2.1 hK hw.1 0 (fs := mmF ad g) rfl rfl 11 (by decide) (cx.2.2.2.2 _ hl) (fun _ h9 => h9) rfl hdg (kk _ rfl)
theorem mm_put11 (cx : CallFix p m c cc nL s args wsL_law own) (hK : va_K D vwCl [(cI, .int)] s) (hw : mmB D A s cI ad g H locs) {v : Int} (hl : Cond.fieldLink own i "TurningShopModel" "reason" "I" ∈ wsL_law) (hdg : decode cc pc = .ok (.putfield i, 3)) (kk : ∀ (g1 : GS) (H1 : Heap) (locs1 : List Loc), g1 = u2 g 4 11 v → mmB D A s cI ad g1 H1 locs1 → W p l e R s m args below meth c H1 locs1 cells slots Q (F0 m (pc + 3) ls rest)) : W p l e R s m args below meth c H locs cells slots Q (F0 m pc ls (.int (iN v) :: .ref (ad 0) :: rest)) := va_put (D := D) (ci := 2) (v := .int (iN v)) (ty := .int) (C := RX2) (T := TX2) (N := 13) cx.1 cx.2.1 cx.2.2.2.2 inlX2 tyX2 tyX2_ok nmX2 cx.2.2.2.1 hK hw.1 hw.2.1 hw.2.2 0 (fs := mmF ad g) rfl rfl 11 (by decide) (cx.2.2.2.2 _ hl) (fun _ h9 => h9) rfl (by decide +kernel) rfl rfl (Nat.le_of_ble_eq_true rfl) hdg (fun H1 locs1 hP hD hS => kk _ H1 locs1 rfl ⟨hP, hD, hS⟩)
theorem mm_get12 (cx : CallFix p m c cc nL s args wsL_law own) (hK : va_K D vwCl [(cI, .int)] s) (hw : mmB D A s cI ad g H locs) (hl : Cond.fieldLink own i "TurningShopModel" "cause" "I" ∈ wsL_law) (hdg : decode cc pc = .ok (.getfield i, 3)) (kk : ∀ z : Int, z = g 4 12 → W p l e R s m args below meth c H locs cells slots Q (F0 m (pc + 3) ls (.int (iN z) :: rest))) : W p l e R s m args below meth c H locs cells slots Q (F0 m pc ls (.ref (ad 0) :: rest)) := va_get (D := D) (ci := 2) (C := RX2) (T := TX2) (N := 13) cx.1 cx.2.1 cx.2.2.2.2 inlX2 cx.2.2.2.1 hK hw.1 0 (fs := mmF ad g) rfl rfl 12 (by decide) (cx.2.2.2.2 _ hl) (fun _ h9 => h9) rfl hdg (kk _ rfl)
theorem mm_put12 (cx : CallFix p m c cc nL s args wsL_law own) (hK : va_K D vwCl [(cI, .int)] s) (hw : mmB D A s cI ad g H locs) {v : Int} (hl : Cond.fieldLink own i "TurningShopModel" "cause" "I" ∈ wsL_law) (hdg : decode cc pc = .ok (.putfield i, 3)) (kk : ∀ (g1 : GS) (H1 : Heap) (locs1 : List Loc), g1 = u2 g 4 12 v → mmB D A s cI ad g1 H1 locs1 → W p l e R s m args below meth c H1 locs1 cells slots Q (F0 m (pc + 3) ls rest)) : W p l e R s m args below meth c H locs cells slots Q (F0 m pc ls (.int (iN v) :: .ref (ad 0) :: rest)) := va_put (D := D) (ci := 2) (v := .int (iN v)) (ty := .int) (C := RX2) (T := TX2) (N := 13) cx.1 cx.2.1 cx.2.2.2.2 inlX2 tyX2 tyX2_ok nmX2 cx.2.2.2.1 hK hw.1 hw.2.1 hw.2.2 0 (fs := mmF ad g) rfl rfl 12 (by decide) (cx.2.2.2.2 _ hl) (fun _ h9 => h9) rfl (by decide +kernel) rfl rfl (Nat.le_of_ble_eq_true rfl) hdg (fun H1 locs1 hP hD hS => kk _ H1 locs1 rfl ⟨hP, hD, hS⟩)
theorem mm_ld0 (cx : CallFix p m c cc nL s args wsL_law own) (hK : va_K D vwCl [(cI, .int)] s) (hw : mmB D A s cI ad g H locs) (k : Nat) {x : Int} (hk : x = (k : Int) ∧ k < 2670) (hdg : decode cc pc = .ok (.iaload, 1)) (kk : ∀ z : Int, z = g 0 k → W p l e R s m args below meth c H locs cells slots Q (F0 m (pc + 1) ls (.int (iN z) :: rest))) : W p l e R s m args below meth c H locs cells slots Q (F0 m pc ls (.int (iN x) :: .ref (ad 1) :: rest)) := va_iald (D := D) cx.1 cx.2.1 hK hw.1 1 0 (cA := cI) (n := 2670) (f := fun j => iN (g 0 j)) rfl rfl (iN_in hk.1 hk.2 (Nat.le_of_ble_eq_true rfl)) hdg (by rw [iN_k hk.1 hk.2 (Nat.le_of_ble_eq_true rfl)]; exact kk _ rfl)
theorem mm_st0 (cx : CallFix p m c cc nL s args wsL_law own) (hK : va_K D vwCl [(cI, .int)] s) (hw : mmB D A s cI ad g H locs) (k : Nat) {x v : Int} (hk : x = (k : Int) ∧ k < 2670) (hdg : decode cc pc = .ok (.iastore, 1)) (kk : ∀ (g1 : GS) (H1 : Heap) (locs1 : List Loc), g1 = u2 g 0 k v → mmB D A s cI ad g1 H1 locs1 → W p l e R s m args below meth c H1 locs1 cells slots Q (F0 m (pc + 1) ls rest)) : W p l e R s m args below meth c H locs cells slots Q (F0 m pc ls (.int (iN v) :: .int (iN x) :: .ref (ad 1) :: rest)) := va_iast (D := D) cx.1 cx.2.1 hK hw.1 hw.2.1 hw.2.2 1 0 (cA := cI) (n := 2670) (f := fun j => iN (g 0 j)) rfl rfl (iN_in hk.1 hk.2 (Nat.le_of_ble_eq_true rfl)) hdg (fun H1 locs1 hP hD hS => kk _ H1 locs1 rfl (by
  rw [iN_k hk.1 hk.2 (Nat.le_of_ble_eq_true rfl), mmW_a0] at hP hD
  exact ⟨hP, hD, hS⟩))
theorem mm_ld1 (cx : CallFix p m c cc nL s args wsL_law own) (hK : va_K D vwCl [(cI, .int)] s) (hw : mmB D A s cI ad g H locs) (k : Nat) {x : Int} (hk : x = (k : Int) ∧ k < 2670) (hdg : decode cc pc = .ok (.iaload, 1)) (kk : ∀ z : Int, z = g 1 k → W p l e R s m args below meth c H locs cells slots Q (F0 m (pc + 1) ls (.int (iN z) :: rest))) : W p l e R s m args below meth c H locs cells slots Q (F0 m pc ls (.int (iN x) :: .ref (ad 2) :: rest)) := va_iald (D := D) cx.1 cx.2.1 hK hw.1 2 0 (cA := cI) (n := 2670) (f := fun j => iN (g 1 j)) rfl rfl (iN_in hk.1 hk.2 (Nat.le_of_ble_eq_true rfl)) hdg (by rw [iN_k hk.1 hk.2 (Nat.le_of_ble_eq_true rfl)]; exact kk _ rfl)
theorem mm_st1 (cx : CallFix p m c cc nL s args wsL_law own) (hK : va_K D vwCl [(cI, .int)] s) (hw : mmB D A s cI ad g H locs) (k : Nat) {x v : Int} (hk : x = (k : Int) ∧ k < 2670) (hdg : decode cc pc = .ok (.iastore, 1)) (kk : ∀ (g1 : GS) (H1 : Heap) (locs1 : List Loc), g1 = u2 g 1 k v → mmB D A s cI ad g1 H1 locs1 → W p l e R s m args below meth c H1 locs1 cells slots Q (F0 m (pc + 1) ls rest)) : W p l e R s m args below meth c H locs cells slots Q (F0 m pc ls (.int (iN v) :: .int (iN x) :: .ref (ad 2) :: rest)) := va_iast (D := D) cx.1 cx.2.1 hK hw.1 hw.2.1 hw.2.2 2 0 (cA := cI) (n := 2670) (f := fun j => iN (g 1 j)) rfl rfl (iN_in hk.1 hk.2 (Nat.le_of_ble_eq_true rfl)) hdg (fun H1 locs1 hP hD hS => kk _ H1 locs1 rfl (by
  rw [iN_k hk.1 hk.2 (Nat.le_of_ble_eq_true rfl), mmW_a1] at hP hD
  exact ⟨hP, hD, hS⟩))
theorem mm_ld2 (cx : CallFix p m c cc nL s args wsL_law own) (hK : va_K D vwCl [(cI, .int)] s) (hw : mmB D A s cI ad g H locs) (k : Nat) {x : Int} (hk : x = (k : Int) ∧ k < 10680) (hdg : decode cc pc = .ok (.iaload, 1)) (kk : ∀ z : Int, z = g 2 k → W p l e R s m args below meth c H locs cells slots Q (F0 m (pc + 1) ls (.int (iN z) :: rest))) : W p l e R s m args below meth c H locs cells slots Q (F0 m pc ls (.int (iN x) :: .ref (ad 3) :: rest)) := va_iald (D := D) cx.1 cx.2.1 hK hw.1 3 0 (cA := cI) (n := 10680) (f := fun j => iN (g 2 j)) rfl rfl (iN_in hk.1 hk.2 (Nat.le_of_ble_eq_true rfl)) hdg (by rw [iN_k hk.1 hk.2 (Nat.le_of_ble_eq_true rfl)]; exact kk _ rfl)
theorem mm_st2 (cx : CallFix p m c cc nL s args wsL_law own) (hK : va_K D vwCl [(cI, .int)] s) (hw : mmB D A s cI ad g H locs) (k : Nat) {x v : Int} (hk : x = (k : Int) ∧ k < 10680) (hdg : decode cc pc = .ok (.iastore, 1)) (kk : ∀ (g1 : GS) (H1 : Heap) (locs1 : List Loc), g1 = u2 g 2 k v → mmB D A s cI ad g1 H1 locs1 → W p l e R s m args below meth c H1 locs1 cells slots Q (F0 m (pc + 1) ls rest)) : W p l e R s m args below meth c H locs cells slots Q (F0 m pc ls (.int (iN v) :: .int (iN x) :: .ref (ad 3) :: rest)) := va_iast (D := D) cx.1 cx.2.1 hK hw.1 hw.2.1 hw.2.2 3 0 (cA := cI) (n := 10680) (f := fun j => iN (g 2 j)) rfl rfl (iN_in hk.1 hk.2 (Nat.le_of_ble_eq_true rfl)) hdg (fun H1 locs1 hP hD hS => kk _ H1 locs1 rfl (by
  rw [iN_k hk.1 hk.2 (Nat.le_of_ble_eq_true rfl), mmW_a2] at hP hD
  exact ⟨hP, hD, hS⟩))
theorem mm_ld3 (cx : CallFix p m c cc nL s args wsL_law own) (hK : va_K D vwCl [(cI, .int)] s) (hw : mmB D A s cI ad g H locs) (k : Nat) {x : Int} (hk : x = (k : Int) ∧ k < 60) (hdg : decode cc pc = .ok (.iaload, 1)) (kk : ∀ z : Int, z = g 3 k → W p l e R s m args below meth c H locs cells slots Q (F0 m (pc + 1) ls (.int (iN z) :: rest))) : W p l e R s m args below meth c H locs cells slots Q (F0 m pc ls (.int (iN x) :: .ref (ad 4) :: rest)) := va_iald (D := D) cx.1 cx.2.1 hK hw.1 4 0 (cA := cI) (n := 60) (f := fun j => iN (g 3 j)) rfl rfl (iN_in hk.1 hk.2 (Nat.le_of_ble_eq_true rfl)) hdg (by rw [iN_k hk.1 hk.2 (Nat.le_of_ble_eq_true rfl)]; exact kk _ rfl)
theorem mm_st3 (cx : CallFix p m c cc nL s args wsL_law own) (hK : va_K D vwCl [(cI, .int)] s) (hw : mmB D A s cI ad g H locs) (k : Nat) {x v : Int} (hk : x = (k : Int) ∧ k < 60) (hdg : decode cc pc = .ok (.iastore, 1)) (kk : ∀ (g1 : GS) (H1 : Heap) (locs1 : List Loc), g1 = u2 g 3 k v → mmB D A s cI ad g1 H1 locs1 → W p l e R s m args below meth c H1 locs1 cells slots Q (F0 m (pc + 1) ls rest)) : W p l e R s m args below meth c H locs cells slots Q (F0 m pc ls (.int (iN v) :: .int (iN x) :: .ref (ad 4) :: rest)) := va_iast (D := D) cx.1 cx.2.1 hK hw.1 hw.2.1 hw.2.2 4 0 (cA := cI) (n := 60) (f := fun j => iN (g 3 j)) rfl rfl (iN_in hk.1 hk.2 (Nat.le_of_ble_eq_true rfl)) hdg (fun H1 locs1 hP hD hS => kk _ H1 locs1 rfl (by
  rw [iN_k hk.1 hk.2 (Nat.le_of_ble_eq_true rfl), mmW_a3] at hP hD
  exact ⟨hP, hD, hS⟩))
end MMROWS
end
section
/-! the static tables of TurningShop: ten rows of ten numbers -/
def tn (i : Nat) : String := ["PRICE", "GIVES_COINS", "GIVES_CARDS", "GIVES_BUYS", "GIVES_ACTIONS", "GIVES_CURSES", "GIVES_SCRAPS", "POINTS", "FIRST_PILES", "FIRST_DECK"].getD i ""
def tx (i : Nat) : Nat := [125, 94, 97, 100, 103, 106, 112, 151, 63, 82].getD i 0
def tvl (i : Nat) : List Int := [[0, 3, 6, 2, 8, 0, 5, 5, 4, 3], [1, 2, 3, 0, 0, 0, 0, 1, 0, 0], [0, 0, 0, 0, 0, 0, 2, 1, 0, 2], [0, 0, 0, 0, 0, 0, 0, 1, 0, 0], [0, 0, 0, 0, 0, 0, 0, 1, 1, 1], [0, 0, 0, 0, 0, 0, 1, 0, 0, 0], [0, 0, 0, 0, 0, 0, 0, 0, 1, 0], [0, 0, 0, 1, 6, -1, 0, 0, 0, 0], [60, 20, 12, 24, 6, 10, 8, 8, 8, 8], [0, 0, 3, 0, 0, 3, 0, 0, 3, 0]].getD i []
def tv (i k : Nat) : Int := (tvl i).getD k 0
def tB1 (tb : Nat → Nat) (A : Nat → Prop) (U : State) (H : Heap) (i : Nat) : Prop := va_Z "TurningShop" (tn i) "[I" (.ref (tb i)) A U H ∧ va_X (tb i) 10 (fun j => iN (tv i j)) U H ∧ tb i < H.size ∧ ¬ A (tb i) ∧ va_Nw (.fieldLinkNest RX0 (tx i) "TurningShop" (tn i) "[I" "TurningShop") U
def tB (tb : Nat → Nat) (A : Nat → Prop) (U : State) (H : Heap) : Prop := ∀ i : Nat, i < 10 → tB1 tb A U H i
theorem tB_same {tb : Nat → Nat} {A : Nat → Prop} {u U : State} {H : Heap} (hv : u.vm = U.vm) (h : tB tb A u H) : tB tb A U H := fun i hi => by
  obtain ⟨h1, h2, h3, h4, h5⟩ := h i hi
  exact ⟨va_Z.moved (by rw [hv]; exact Vm.Alike.refl _) h1, va_X.moved (by rw [hv]; exact Vm.Alike.refl _) h2, h3, h4, va_tabs rfl hv h5⟩
theorem tB_call {tb : Nat → Nat} {A B : Nat → Prop} {s U : State} {H : Heap} {locs : List Loc} (h : tB tb A s s.heap) (hS : va_S A s.heap H locs) (hAB : ∀ q, q < H.size → B q → A q) (hU : U.heap = H) (hW : s.WarmedH U.vm) : tB tb B U U.heap := fun i hi => by
  obtain ⟨h1, h2, h3, h4, h5⟩ := h i hi
  rw [hU]
  have e : H[tb i]? = s.heap[tb i]? := hS.2.1 _ h3 h4
  refine ⟨?_, (h2.kept e).moved hW.alike, Nat.lt_of_lt_of_le h3 hS.1, fun z => h4 (hAB _ (Nat.lt_of_lt_of_le h3 hS.1) z), va_Nw.warmF hW h5⟩
  obtain ⟨cf, kf, fi, f, a, cell, g1, g2, g3, g4, g5, g6, g7, g8⟩ := va_Z.moved hW.alike (h1.kept hS.2.1)
  exact ⟨cf, kf, fi, f, a, cell, g1, g2, g3, g4, g5, g6, g7, fun z => g8 (hAB a (Array.getElem?_eq_some_iff.mp g5).1 z)⟩
section TTB
variable {p : Program} {l : Launch} {e : Env} {R : Room} {s : State} {m : MethodId} {args : Array Value} {below : List Frame} {meth : Method} {c : Code} {H : Heap} {locs : List Loc} {cells slots : Nat} {Q : State → Prop}
variable {cc : ByteArray} {pc nL : Nat} {ls : Array Slot} {rest : List Value} {A : Nat → Prop} {tb : Nat → Nat}
/-- a table, out of Game -/
theorem tt_gst (cx : CallFix p m c cc nL s args wsL_law RX0) (hT : tB tb A s s.heap) (hS : va_S A s.heap H locs) (i : Nat) (hi : i < 10) {n : Nat} (hn : tx i = n) (hdg : decode cc pc = .ok (.getstatic n, 3)) (kk : W p l e R s m args below meth c H locs cells slots Q (F0 m (pc + 3) ls (.ref (tb i) :: rest))) : W p l e R s m args below meth c H locs cells slots Q (F0 m pc ls rest) := by
  subst hn
  obtain ⟨h1, -, -, -, h5⟩ := hT i hi
  exact va_getsN cx.1 cx.2.1 h1 hS cx.2.2.2.1 (va_Nw.use rfl h5) (fun _ h => h) hdg kk
/-- a table, out of TurningShop -/
theorem tt_gso {idx : Nat} (cx : CallFix p m c cc nL s args wsL_law RX1) (hT : tB tb A s s.heap) (hS : va_S A s.heap H locs) (i : Nat) (hi : i < 10) (hl : Cond.fieldLink RX1 idx "TurningShop" (tn i) "[I" ∈ wsL_law) (hdg : decode cc pc = .ok (.getstatic idx, 3)) (kk : W p l e R s m args below meth c H locs cells slots Q (F0 m (pc + 3) ls (.ref (tb i) :: rest))) : W p l e R s m args below meth c H locs cells slots Q (F0 m pc ls rest) := by
  obtain ⟨h1, -, -, -, h5⟩ := hT i hi
  exact va_gets cx.1 cx.2.1 h1 hS cx.2.2.2.1 (cx.2.2.2.2 _ hl) (fun _ h => h) hdg kk
theorem tt_ld (hx : p.tables.exec = Jvm.exec) (hb : c.code = cc) (hT : tB tb A s s.heap) (hS : va_S A s.heap H locs) (i : Nat) (hi : i < 10) (k : Nat) {x : Int} (hk : x = (k : Int) ∧ k < 10) (hdg : decode cc pc = .ok (.iaload, 1)) (kk : ∀ z : Int, z = tv i k → W p l e R s m args below meth c H locs cells slots Q (F0 m (pc + 1) ls (.int (iN z) :: rest))) : W p l e R s m args below meth c H locs cells slots Q (F0 m pc ls (.int (iN x) :: .ref (tb i) :: rest)) := by
  obtain ⟨-, h2, h3, h4, -⟩ := hT i hi
  exact va_sld hx hb h2 h3 h4 hS (iN_in hk.1 hk.2 (Nat.le_of_ble_eq_true rfl)) hdg (by rw [iN_k hk.1 hk.2 (Nat.le_of_ble_eq_true rfl)]; exact kk _ rfl)
end TTB
/-! pure methods: no cell is touched -/
def psPre (_ : State) : Prop := True
abbrev psRi (l : Launch) (y : MethodName) (ws : List Cond) (rm : Room) (as : List Value) (P : Int → Prop) : Prop := Met l y ws rm (va_Pc as psPre) (vp_Si (fun r => ∃ z : Int, r = iN z ∧ P z)) 0 0 (fun _ => False)
abbrev roQ (below : List Frame) (args : Array Value) (s : State) (P : Int → Prop) : State → Prop := MQ below (vp_Si (fun r => ∃ z : Int, r = iN z ∧ P z)) args s 0 0 (fun _ => False)
theorem psRi_of {l : Launch} {y : MethodName} {b : ByteArray} {n : Nat} {ty : FieldType} {rm : Room} {as : List Value} {P : Int → Prop} (hy : plainName y.cls = true) (hlen : (lg_sl as).length ≤ n) (body : ∀ (p : Program) (e : Env) (s : State) (m : MethodId) (args : Array Value) (below : List Frame) (meth : Method) (c : Code) (ls : Array Slot), CallFix p m c b n s args wsL_law y.cls → meth.sig.returnType = some ty → meth.locks = false → lv_has ls n (lv_args 0 as) → W p l e rm s m args below meth c s.heap [] 0 0 (roQ below args s P) (F0 m 0 ls [])) : psRi l y (wU y b n (some ty)) rm as P := by
  refine Met.ofW (cc := b) (maxL := n) (ret := some ty) hy rfl ?_
  intro p e s m args below meth c s₁ B hml hv
  obtain ⟨rfl, -⟩ := hv
  have hts := atoms_spec (ws := wU y b n (some ty)) B.pre
  have hl := lv_entry as (n := n) hlen
  rw [lg_entry_eq]
  exact body p e s m _ below meth c _ ⟨B.exec, B.bytes, hml, findClass_of_methodNamed B.named, fun w hw => hts w (List.mem_cons_of_mem _ hw)⟩ B.returns B.notSynchronized hl
section ROE
variable {p : Program} {l : Launch} {e : Env} {R : Room} {s : State} {m : MethodId} {args : Array Value} {below : List Frame} {meth : Method} {c : Code} {H : Heap} {locs : List Loc} {cells slots : Nat} {Q : State → Prop}
variable {cc : ByteArray} {pc nL : Nat} {ls : Array Slot} {rest : List Value} {D : va_G} {A : Nat → Prop} {cI : ClassId} {ad : Nat → Nat} {g : GS} {tb : Nat → Nat}
theorem ro_ret {own : String} {P : Int → Prop} {z : Int} (cx : CallFix p m c cc nL s args wsL_law own) (hr : meth.sig.returnType = some .int) (hlocks : meth.locks = false) (hP : P z) (hdg : decode cc pc = .ok (.ireturn, 1)) : W p l e R s m args below meth c s.heap [] 0 0 (roQ below args s P) (F0 m pc ls [.int (iN z)]) := W.iret cx.1 cx.2.1 hr (fun t ht _ => ⟨_, rfl, ⟨z, rfl, hP⟩, ht⟩) (fun q h => by cases h) hdg hlocks
theorem ro_retz {own : String} {P : Int → Prop} {z : Int} (cx : CallFix p m c cc nL s args wsL_law own) (hr : meth.sig.returnType = some .boolean) (hlocks : meth.locks = false) (hz : z = 0 ∨ z = 1) (hP : P z) (hdg : decode cc pc = .ok (.ireturn, 1)) : W p l e R s m args below meth c s.heap [] 0 0 (roQ below args s P) (F0 m pc ls [.int (iN z)]) := W.zret cx.1 cx.2.1 hr (by rcases hz with rfl | rfl <;> rfl) (fun t ht _ => ⟨_, rfl, ⟨z, rfl, hP⟩, ht⟩) (fun q h => by cases h) hdg hlocks
/-- a call of a pure static method -/
theorem ps_call {own : String} {y : MethodName} {b : ByteArray} {n i : Nat} {ty : FieldType} {rm : Room} {as : List Value} {P : Int → Prop} {lv : List (Nat × Value)} (cx : CallFix p m c cc nL s args wsL_law own) (hl : lv_has ls nL lv) (hM : psRi l y (wU y b n (some ty)) rm as P) (hG : GoodIn wsL_law (va_wsS own i y (wU y b n (some ty)))) (hrc : rm.cells = 0 ∧ rm.slots = 0) (na : Nat) (hna : as.length = na) (hd : y.cls ≠ "java/lang/invoke/MethodHandle" ∧ y.cls ≠ "java/lang/invoke/VarHandle" ∧ (parseMethodDescriptor y.desc).map (fun d => d.parameters.length) = some na) (hR : rm.frames + 1 ≤ R.frames ∧ 8 + (n + 11) + rm.locals ≤ R.locals) (hf : cells ≤ R.cells ∧ slots ≤ R.slots) (hc : (rest.map fun v => v.category).sum ≤ 8) (hdg : decode cc pc = .ok (.invokestatic i, 3)) {st : List Value} (hst : st = as.reverse ++ rest) (kk : ∀ z : Int, P z → W p l e R s m args below meth c H locs cells slots Q (F0 m (pc + 3) ls (.int (iN z) :: rest))) : W p l e R s m args below meth c H locs cells slots Q (F0 m pc ls st) := by
  refine vp_callSi (va_runS (g := F0 m pc ls st) (As := as) (rest := rest) cx hM (va_cwS na cx.2.2.2.2 hG rfl hrc.1 hrc.2 hd hR) ⟨fun a U g mk q => q, fun U hU hW => ⟨rfl, trivial⟩⟩ rfl hna hl.1 hst (lv_room hc) hdg ⟨by omega, by omega⟩).run ?_
  rintro r ⟨z, rfl, hP⟩
  exact kk z hP
end ROE
/-! ===== contracts over one RX0 ===== -/
def gmPre (D : va_G) (cI : ClassId) (tb ad : Nat → Nat) (g : GS) (sz : Nat) (U : State) : Prop := U.heap.size = sz ∧ va_P D vwCl (gmW cI ad g) U.heap ∧ va_K D vwCl [(cI, .int)] U ∧ va_D (fun _ => True) (gmW cI ad g) ∧ tB tb (va_A (gmW cI ad g) sz) U U.heap
theorem gmPre_blind {D : va_G} {cI : ClassId} {tb ad : Nat → Nat} {g : GS} {sz : Nat} {U : State} (gf : JFrame) (mk : MethodId) (a : Array Value) (h : gmPre D cI tb ad g sz U) : gmPre D cI tb ad g sz (U.calling gf mk a) := by
  obtain ⟨q0, qP, qK, qD, qT⟩ := h
  exact ⟨q0, qP, va_K.moved (u := U) (U := U.calling gf mk a) (Vm.Alike.refl U.vm) qK, qD, tB_same (U := U.calling gf mk a) rfl qT⟩
theorem gm_free {D : va_G} {A : Nat → Prop} {s : State} {cI : ClassId} {ad : Nat → Nat} {g : GS} {H : Heap} {locs : List Loc} (hw : gmB D A s cI ad g H locs) (hA : ∀ q, s.heap.size ≤ q → A q) : ∀ q, va_A (gmW cI ad g) H.size q → A q := va_free hw.2.1 hw.2.2 hA [0, 1, 2, 3, 4] rfl
theorem gmPre_call {D : va_G} {A : Nat → Prop} {s U : State} {cI : ClassId} {tb ad : Nat → Nat} {g : GS} {H : Heap} {locs : List Loc} (hK : va_K D vwCl [(cI, .int)] s) (hT : tB tb A s s.heap) (hA : ∀ q, s.heap.size ≤ q → A q) (hw : gmB D A s cI ad g H locs) (hU : U.heap = H) (hW : s.WarmedH U.vm) : gmPre D cI tb ad g H.size U := ⟨by rw [hU], by rw [hU]; exact hw.1, va_K.moved hW.alike hK, hw.2.1.weaken (fun _ _ _ _ => trivial), tB_call hT hw.2.2 (fun q _ h => gm_free hw hA q h) hU hW⟩
abbrev gmAt (D : va_G) (cI : ClassId) (ad : Nat → Nat) (A : Nat → Prop) (g1 : GS) (t : State) : Prop := va_P D vwCl (gmW cI ad g1) t.heap ∧ va_D A (gmW cI ad g1)
abbrev gmMi (l : Launch) (y : MethodName) (ws : List Cond) (rm : Room) (as : List Value) (g : GS) (P : Int → GS → Prop) : Prop := ∀ (D : va_G) (cI : ClassId) (tb ad : Nat → Nat) (sz : Nat), Met l y ws rm (va_Pc (.ref (ad 0) :: as) (gmPre D cI tb ad g sz)) (va_Qi (fun r g1 => ∃ z : Int, r = iN z ∧ P z g1) (gmAt D cI ad (va_A (gmW cI ad g) sz)) (va_A (gmW cI ad g) sz)) 0 0 (va_A (gmW cI ad g) sz)
abbrev gmMv (l : Launch) (y : MethodName) (ws : List Cond) (rm : Room) (as : List Value) (g : GS) (P : GS → Prop) : Prop := ∀ (D : va_G) (cI : ClassId) (tb ad : Nat → Nat) (sz : Nat), Met l y ws rm (va_Pc (.ref (ad 0) :: as) (gmPre D cI tb ad g sz)) (va_Qv P (gmAt D cI ad (va_A (gmW cI ad g) sz)) (va_A (gmW cI ad g) sz)) 0 0 (va_A (gmW cI ad g) sz)
abbrev gmRi (l : Launch) (y : MethodName) (ws : List Cond) (rm : Room) (as : List Value) (g : GS) (P : Int → Prop) : Prop := ∀ (D : va_G) (cI : ClassId) (tb ad : Nat → Nat) (sz : Nat), Met l y ws rm (va_Pc (.ref (ad 0) :: as) (gmPre D cI tb ad g sz)) (vp_Si (fun r => ∃ z : Int, r = iN z ∧ P z)) 0 0 (fun _ => False)
abbrev gmRt (l : Launch) (y : MethodName) (ws : List Cond) (rm : Room) (as : (Nat → Nat) → List Value) (g : GS) (P : Int → Prop) : Prop := ∀ (D : va_G) (cI : ClassId) (tb ad : Nat → Nat) (sz : Nat), Met l y ws rm (va_Pc (.ref (ad 0) :: as tb) (gmPre D cI tb ad g sz)) (vp_Si (fun r => ∃ z : Int, r = iN z ∧ P z)) 0 0 (fun _ => False)
abbrev gmQi (D : va_G) (cI : ClassId) (ad : Nat → Nat) (A : Nat → Prop) (below : List Frame) (args : Array Value) (s : State) (P : Int → GS → Prop) : State → Prop := MQ below (va_Qi (fun r g1 => ∃ z : Int, r = iN z ∧ P z g1) (gmAt D cI ad A) A) args s 0 0 A
abbrev gmQv (D : va_G) (cI : ClassId) (ad : Nat → Nat) (A : Nat → Prop) (below : List Frame) (args : Array Value) (s : State) (P : GS → Prop) : State → Prop := MQ below (va_Qv P (gmAt D cI ad A) A) args s 0 0 A
theorem gmMi_of {l : Launch} {y : MethodName} {b : ByteArray} {n : Nat} {ty : FieldType} {rm : Room} {as : List Value} {g : GS} {P : Int → GS → Prop} (hy : plainName y.cls = true) (hlen : (lg_sl (.ref 0 :: as)).length ≤ n) (body : ∀ (p : Program) (e : Env) (s : State) (m : MethodId) (args : Array Value) (below : List Frame) (meth : Method) (c : Code) (D : va_G) (cI : ClassId) (tb ad : Nat → Nat) (A : Nat → Prop) (ls : Array Slot), CallFix p m c b n s args wsL_law y.cls → meth.sig.returnType = some ty → meth.locks = false → va_K D vwCl [(cI, .int)] s → (∀ q, s.heap.size ≤ q → A q) → tB tb A s s.heap → gmB D A s cI ad g s.heap [] → lv_has ls n (lv_args 0 (.ref (ad 0) :: as)) → W p l e rm s m args below meth c s.heap [] 0 0 (gmQi D cI ad A below args s P) (F0 m 0 ls [])) : gmMi l y (wU y b n (some ty)) rm as g P := by
  intro D cI tb ad sz
  refine Met.ofW (cc := b) (maxL := n) (ret := some ty) hy rfl ?_
  intro p e s m args below meth c s₁ B hml hv
  obtain ⟨rfl, hsz, hP, hK, hD0, hT⟩ := hv
  have hts := atoms_spec (ws := wU y b n (some ty)) B.pre
  subst hsz
  have hD := hD0.self (sz := s.heap.size)
  have hl := lv_entry (.ref (ad 0) :: as) (n := n) hlen
  rw [lg_entry_eq]
  exact body p e s m _ below meth c D cI tb ad (va_A (gmW cI ad g) s.heap.size) _ ⟨B.exec, B.bytes, hml, findClass_of_methodNamed B.named, fun w hw => hts w (List.mem_cons_of_mem _ hw)⟩ B.returns B.notSynchronized hK (fun q h => Or.inr h) hT ⟨hP, hD, va_S.rf⟩ hl
theorem gmMv_of {l : Launch} {y : MethodName} {b : ByteArray} {n : Nat} {rm : Room} {as : List Value} {g : GS} {P : GS → Prop} (hy : plainName y.cls = true) (hlen : (lg_sl (.ref 0 :: as)).length ≤ n) (body : ∀ (p : Program) (e : Env) (s : State) (m : MethodId) (args : Array Value) (below : List Frame) (meth : Method) (c : Code) (D : va_G) (cI : ClassId) (tb ad : Nat → Nat) (A : Nat → Prop) (ls : Array Slot), CallFix p m c b n s args wsL_law y.cls → meth.sig.returnType = none → meth.locks = false → va_K D vwCl [(cI, .int)] s → (∀ q, s.heap.size ≤ q → A q) → tB tb A s s.heap → gmB D A s cI ad g s.heap [] → lv_has ls n (lv_args 0 (.ref (ad 0) :: as)) → W p l e rm s m args below meth c s.heap [] 0 0 (gmQv D cI ad A below args s P) (F0 m 0 ls [])) : gmMv l y (wU y b n none) rm as g P := by
  intro D cI tb ad sz
  refine Met.ofW (cc := b) (maxL := n) (ret := none) hy rfl ?_
  intro p e s m args below meth c s₁ B hml hv
  obtain ⟨rfl, hsz, hP, hK, hD0, hT⟩ := hv
  have hts := atoms_spec (ws := wU y b n none) B.pre
  subst hsz
  have hD := hD0.self (sz := s.heap.size)
  have hl := lv_entry (.ref (ad 0) :: as) (n := n) hlen
  rw [lg_entry_eq]
  exact body p e s m _ below meth c D cI tb ad (va_A (gmW cI ad g) s.heap.size) _ ⟨B.exec, B.bytes, hml, findClass_of_methodNamed B.named, fun w hw => hts w (List.mem_cons_of_mem _ hw)⟩ B.returns B.notSynchronized hK (fun q h => Or.inr h) hT ⟨hP, hD, va_S.rf⟩ hl
theorem gmRi_of {l : Launch} {y : MethodName} {b : ByteArray} {n : Nat} {ty : FieldType} {rm : Room} {as : List Value} {g : GS} {P : Int → Prop} (hy : plainName y.cls = true) (hlen : (lg_sl (.ref 0 :: as)).length ≤ n) (body : ∀ (p : Program) (e : Env) (s : State) (m : MethodId) (args : Array Value) (below : List Frame) (meth : Method) (c : Code) (D : va_G) (cI : ClassId) (tb ad : Nat → Nat) (A : Nat → Prop) (ls : Array Slot), CallFix p m c b n s args wsL_law y.cls → meth.sig.returnType = some ty → meth.locks = false → va_K D vwCl [(cI, .int)] s → (∀ q, s.heap.size ≤ q → A q) → tB tb A s s.heap → gmB D A s cI ad g s.heap [] → lv_has ls n (lv_args 0 (.ref (ad 0) :: as)) → W p l e rm s m args below meth c s.heap [] 0 0 (roQ below args s P) (F0 m 0 ls [])) : gmRi l y (wU y b n (some ty)) rm as g P := by
  intro D cI tb ad sz
  refine Met.ofW (cc := b) (maxL := n) (ret := some ty) hy rfl ?_
  intro p e s m args below meth c s₁ B hml hv
  obtain ⟨rfl, hsz, hP, hK, hD0, hT⟩ := hv
  have hts := atoms_spec (ws := wU y b n (some ty)) B.pre
  subst hsz
  have hD := hD0.self (sz := s.heap.size)
  have hl := lv_entry (.ref (ad 0) :: as) (n := n) hlen
  rw [lg_entry_eq]
  exact body p e s m _ below meth c D cI tb ad (va_A (gmW cI ad g) s.heap.size) _ ⟨B.exec, B.bytes, hml, findClass_of_methodNamed B.named, fun w hw => hts w (List.mem_cons_of_mem _ hw)⟩ B.returns B.notSynchronized hK (fun q h => Or.inr h) hT ⟨hP, hD, va_S.rf⟩ hl
theorem gmRt_of {l : Launch} {y : MethodName} {b : ByteArray} {n : Nat} {ty : FieldType} {rm : Room} {as : (Nat → Nat) → List Value} {g : GS} {P : Int → Prop} (hy : plainName y.cls = true) (hlen : ∀ tb : Nat → Nat, (lg_sl (.ref 0 :: as tb)).length ≤ n) (body : ∀ (p : Program) (e : Env) (s : State) (m : MethodId) (args : Array Value) (below : List Frame) (meth : Method) (c : Code) (D : va_G) (cI : ClassId) (tb ad : Nat → Nat) (A : Nat → Prop) (ls : Array Slot), CallFix p m c b n s args wsL_law y.cls → meth.sig.returnType = some ty → meth.locks = false → va_K D vwCl [(cI, .int)] s → (∀ q, s.heap.size ≤ q → A q) → tB tb A s s.heap → gmB D A s cI ad g s.heap [] → lv_has ls n (lv_args 0 (.ref (ad 0) :: as tb)) → W p l e rm s m args below meth c s.heap [] 0 0 (roQ below args s P) (F0 m 0 ls [])) : gmRt l y (wU y b n (some ty)) rm as g P := by
  intro D cI tb ad sz
  refine Met.ofW (cc := b) (maxL := n) (ret := some ty) hy rfl ?_
  intro p e s m args below meth c s₁ B hml hv
  obtain ⟨rfl, hsz, hP, hK, hD0, hT⟩ := hv
  have hts := atoms_spec (ws := wU y b n (some ty)) B.pre
  subst hsz
  have hD := hD0.self (sz := s.heap.size)
  have hl := lv_entry (.ref (ad 0) :: as tb) (n := n) (hlen tb)
  rw [lg_entry_eq]
  exact body p e s m _ below meth c D cI tb ad (va_A (gmW cI ad g) s.heap.size) _ ⟨B.exec, B.bytes, hml, findClass_of_methodNamed B.named, fun w hw => hts w (List.mem_cons_of_mem _ hw)⟩ B.returns B.notSynchronized hK (fun q h => Or.inr h) hT ⟨hP, hD, va_S.rf⟩ hl
section GMC
variable {p : Program} {l : Launch} {e : Env} {R : Room} {s : State} {m : MethodId} {args : Array Value} {below : List Frame} {meth : Method} {c : Code} {H : Heap} {locs : List Loc} {cells slots : Nat} {Q : State → Prop}
variable {cc : ByteArray} {pc nL : Nat} {ls : Array Slot} {rest : List Value} {D : va_G} {A : Nat → Prop} {cI : ClassId} {ad : Nat → Nat} {g : GS} {tb : Nat → Nat}
theorem gm_ret {own : String} {P : Int → GS → Prop} {z : Int} (cx : CallFix p m c cc nL s args wsL_law own) (hr : meth.sig.returnType = some .int) (hlocks : meth.locks = false) (hw : gmB D A s cI ad g H locs) (hP : P z g) (hdg : decode cc pc = .ok (.ireturn, 1)) : W p l e R s m args below meth c H locs 0 0 (gmQi D cI ad A below args s P) (F0 m pc ls [.int (iN z)]) := W.iret cx.1 cx.2.1 hr (fun t ht _ => ⟨⟨_, g, rfl, ⟨z, rfl, hP⟩, by rw [ht]; exact hw.1, hw.2.1⟩, hw.2.2.F ht⟩) hw.2.2.2.2 hdg hlocks
theorem gm_vret {own : String} {P : GS → Prop} (cx : CallFix p m c cc nL s args wsL_law own) (hr : meth.sig.returnType = none) (hlocks : meth.locks = false) (hw : gmB D A s cI ad g H locs) (hP : P g) (hdg : decode cc pc = .ok (.return_, 1)) : W p l e R s m args below meth c H locs 0 0 (gmQv D cI ad A below args s P) (F0 m pc ls []) := W.vret cx.1 cx.2.1 hr (fun t ht _ => ⟨⟨g, rfl, hP, by rw [ht]; exact hw.1, hw.2.1⟩, hw.2.2.F ht⟩) hw.2.2.2.2 hdg hlocks
theorem gm_calli {own : String} {y : MethodName} {b : ByteArray} {n i : Nat} {ty : FieldType} {rm : Room} {as : List Value} {P : Int → GS → Prop} {lv : List (Nat × Value)} (cx : CallFix p m c cc nL s args wsL_law own) (hK : va_K D vwCl [(cI, .int)] s) (hT : tB tb A s s.heap) (hA : ∀ q, s.heap.size ≤ q → A q) (hw : gmB D A s cI ad g H locs) (hl : lv_has ls nL lv) (hM : gmMi l y (wU y b n (some ty)) rm as g P) (hG : GoodIn wsL_law (wsV own i RX0 y (wU y b n (some ty)))) (hrc : rm.cells = 0 ∧ rm.slots = 0) (na : Nat) (hna : as.length = na) (hd : y.cls = RX0 ∧ y.cls ≠ "java/lang/invoke/MethodHandle" ∧ y.cls ≠ "java/lang/invoke/VarHandle" ∧ (parseMethodDescriptor y.desc).map (fun d => d.parameters.length) = some na) (hR : rm.frames + 1 ≤ R.frames ∧ 8 + (n + 11) + rm.locals ≤ R.locals) (hf : cells ≤ R.cells ∧ slots ≤ R.slots) (hc : (rest.map fun v => v.category).sum ≤ 8) (hdg : decode cc pc = .ok (.invokevirtual i, 3)) {st : List Value} (hst : st = as.reverse ++ .ref (ad 0) :: rest) (kk : ∀ (z : Int) (g1 : GS) (H1 : Heap) (locs1 : List Loc), P z g1 → gmB D A s cI ad g1 H1 locs1 → W p l e R s m args below meth c H1 locs1 cells slots Q (F0 m (pc + 3) ls (.int (iN z) :: rest))) : W p l e R s m args below meth c H locs cells slots Q (F0 m pc ls st) := by
  refine va_calli (va_runV (g := F0 m pc ls st) (As := as) (rest := rest) cx (hM D cI tb ad H.size) (cwV na cx.2.2.2.2 hG rfl hrc.1 hrc.2 hd hR) ⟨fun a U gf mk q => ⟨q.1, gmPre_blind gf mk a q.2⟩, va_recv hK hw.1 (ci := 0) (q0 := 0) rfl rfl, fun U hU hW => ⟨rfl, gmPre_call hK hT hA hw hU hW⟩⟩ rfl hna hl.1 hst (lv_room hc) hdg ⟨by omega, by omega⟩) hw.2.2 (fun q _ h => gm_free hw hA q h) (gm_free hw hA) (fun r u t H1 locs1 ht hvm hq hB hz1 hk1 hS => ?_)
  have hF := gm_free hw hA
  obtain ⟨hP1, hD1⟩ := hB
  rw [ht] at hP1
  obtain ⟨z, rfl, hP⟩ := hq
  exact kk z u H1 locs1 hP ⟨hP1, hD1.weaken (fun _ _ _ h => hF _ h), hS⟩
theorem gm_callv {own : String} {y : MethodName} {b : ByteArray} {n i : Nat} {rm : Room} {as : List Value} {P : GS → Prop} {lv : List (Nat × Value)} (cx : CallFix p m c cc nL s args wsL_law own) (hK : va_K D vwCl [(cI, .int)] s) (hT : tB tb A s s.heap) (hA : ∀ q, s.heap.size ≤ q → A q) (hw : gmB D A s cI ad g H locs) (hl : lv_has ls nL lv) (hM : gmMv l y (wU y b n none) rm as g P) (hG : GoodIn wsL_law (wsV own i RX0 y (wU y b n none))) (hrc : rm.cells = 0 ∧ rm.slots = 0) (na : Nat) (hna : as.length = na) (hd : y.cls = RX0 ∧ y.cls ≠ "java/lang/invoke/MethodHandle" ∧ y.cls ≠ "java/lang/invoke/VarHandle" ∧ (parseMethodDescriptor y.desc).map (fun d => d.parameters.length) = some na) (hR : rm.frames + 1 ≤ R.frames ∧ 8 + (n + 11) + rm.locals ≤ R.locals) (hf : cells ≤ R.cells ∧ slots ≤ R.slots) (hc : (rest.map fun v => v.category).sum ≤ 8) (hdg : decode cc pc = .ok (.invokevirtual i, 3)) {st : List Value} (hst : st = as.reverse ++ .ref (ad 0) :: rest) (kk : ∀ (g1 : GS) (H1 : Heap) (locs1 : List Loc), P g1 → gmB D A s cI ad g1 H1 locs1 → W p l e R s m args below meth c H1 locs1 cells slots Q (F0 m (pc + 3) ls rest)) : W p l e R s m args below meth c H locs cells slots Q (F0 m pc ls st) := by
  refine va_callv (va_runV (g := F0 m pc ls st) (As := as) (rest := rest) cx (hM D cI tb ad H.size) (cwV na cx.2.2.2.2 hG rfl hrc.1 hrc.2 hd hR) ⟨fun a U gf mk q => ⟨q.1, gmPre_blind gf mk a q.2⟩, va_recv hK hw.1 (ci := 0) (q0 := 0) rfl rfl, fun U hU hW => ⟨rfl, gmPre_call hK hT hA hw hU hW⟩⟩ rfl hna hl.1 hst (lv_room hc) hdg ⟨by omega, by omega⟩) hw.2.2 (fun q _ h => gm_free hw hA q h) (gm_free hw hA) (fun u t H1 locs1 ht hvm hq hB hz1 hk1 hS => ?_)
  have hF := gm_free hw hA
  obtain ⟨hP1, hD1⟩ := hB
  rw [ht] at hP1
  exact kk u H1 locs1 hq ⟨hP1, hD1.weaken (fun _ _ _ h => hF _ h), hS⟩
theorem gm_callr {own : String} {y : MethodName} {b : ByteArray} {n i : Nat} {ty : FieldType} {rm : Room} {as : List Value} {P : Int → Prop} {lv : List (Nat × Value)} (cx : CallFix p m c cc nL s args wsL_law own) (hK : va_K D vwCl [(cI, .int)] s) (hT : tB tb A s s.heap) (hA : ∀ q, s.heap.size ≤ q → A q) (hw : gmB D A s cI ad g H locs) (hl : lv_has ls nL lv) (hM : gmRi l y (wU y b n (some ty)) rm as g P) (hG : GoodIn wsL_law (wsV own i RX0 y (wU y b n (some ty)))) (hrc : rm.cells = 0 ∧ rm.slots = 0) (na : Nat) (hna : as.length = na) (hd : y.cls = RX0 ∧ y.cls ≠ "java/lang/invoke/MethodHandle" ∧ y.cls ≠ "java/lang/invoke/VarHandle" ∧ (parseMethodDescriptor y.desc).map (fun d => d.parameters.length) = some na) (hR : rm.frames + 1 ≤ R.frames ∧ 8 + (n + 11) + rm.locals ≤ R.locals) (hf : cells ≤ R.cells ∧ slots ≤ R.slots) (hc : (rest.map fun v => v.category).sum ≤ 8) (hdg : decode cc pc = .ok (.invokevirtual i, 3)) {st : List Value} (hst : st = as.reverse ++ .ref (ad 0) :: rest) (kk : ∀ z : Int, P z → W p l e R s m args below meth c H locs cells slots Q (F0 m (pc + 3) ls (.int (iN z) :: rest))) : W p l e R s m args below meth c H locs cells slots Q (F0 m pc ls st) := by
  refine vp_callSi (va_runV (g := F0 m pc ls st) (As := as) (rest := rest) cx (hM D cI tb ad H.size) (cwV na cx.2.2.2.2 hG rfl hrc.1 hrc.2 hd hR) ⟨fun a U gf mk q => ⟨q.1, gmPre_blind gf mk a q.2⟩, va_recv hK hw.1 (ci := 0) (q0 := 0) rfl rfl, fun U hU hW => ⟨rfl, gmPre_call hK hT hA hw hU hW⟩⟩ rfl hna hl.1 hst (lv_room hc) hdg ⟨by omega, by omega⟩).run ?_
  rintro r ⟨z, rfl, hP⟩
  exact kk z hP
theorem gm_callt {own : String} {y : MethodName} {b : ByteArray} {n i : Nat} {ty : FieldType} {rm : Room} {as : (Nat → Nat) → List Value} {P : Int → Prop} {lv : List (Nat × Value)} (cx : CallFix p m c cc nL s args wsL_law own) (hK : va_K D vwCl [(cI, .int)] s) (hT : tB tb A s s.heap) (hA : ∀ q, s.heap.size ≤ q → A q) (hw : gmB D A s cI ad g H locs) (hl : lv_has ls nL lv) (hM : gmRt l y (wU y b n (some ty)) rm as g P) (hG : GoodIn wsL_law (wsV own i RX0 y (wU y b n (some ty)))) (hrc : rm.cells = 0 ∧ rm.slots = 0) (na : Nat) (hna : (as tb).length = na) (hd : y.cls = RX0 ∧ y.cls ≠ "java/lang/invoke/MethodHandle" ∧ y.cls ≠ "java/lang/invoke/VarHandle" ∧ (parseMethodDescriptor y.desc).map (fun d => d.parameters.length) = some na) (hR : rm.frames + 1 ≤ R.frames ∧ 8 + (n + 11) + rm.locals ≤ R.locals) (hf : cells ≤ R.cells ∧ slots ≤ R.slots) (hc : (rest.map fun v => v.category).sum ≤ 8) (hdg : decode cc pc = .ok (.invokevirtual i, 3)) {st : List Value} (hst : st = (as tb).reverse ++ .ref (ad 0) :: rest) (kk : ∀ z : Int, P z → W p l e R s m args below meth c H locs cells slots Q (F0 m (pc + 3) ls (.int (iN z) :: rest))) : W p l e R s m args below meth c H locs cells slots Q (F0 m pc ls st) := by
  refine vp_callSi (va_runV (g := F0 m pc ls st) (As := as tb) (rest := rest) cx (hM D cI tb ad H.size) (cwV na cx.2.2.2.2 hG rfl hrc.1 hrc.2 hd hR) ⟨fun a U gf mk q => ⟨q.1, gmPre_blind gf mk a q.2⟩, va_recv hK hw.1 (ci := 0) (q0 := 0) rfl rfl, fun U hU hW => ⟨rfl, gmPre_call hK hT hA hw hU hW⟩⟩ rfl hna hl.1 hst (lv_room hc) hdg ⟨by omega, by omega⟩).run ?_
  rintro r ⟨z, rfl, hP⟩
  exact kk z hP
end GMC
/-! ===== contracts over one RX2 ===== -/
def mmPre (D : va_G) (cI : ClassId) (tb ad : Nat → Nat) (g : GS) (sz : Nat) (U : State) : Prop := U.heap.size = sz ∧ va_P D vwCl (mmW cI ad g) U.heap ∧ va_K D vwCl [(cI, .int)] U ∧ va_D (fun _ => True) (mmW cI ad g)
theorem mmPre_blind {D : va_G} {cI : ClassId} {tb ad : Nat → Nat} {g : GS} {sz : Nat} {U : State} (gf : JFrame) (mk : MethodId) (a : Array Value) (h : mmPre D cI tb ad g sz U) : mmPre D cI tb ad g sz (U.calling gf mk a) := by
  obtain ⟨q0, qP, qK, qD⟩ := h
  exact ⟨q0, qP, va_K.moved (u := U) (U := U.calling gf mk a) (Vm.Alike.refl U.vm) qK, qD⟩
theorem mm_free {D : va_G} {A : Nat → Prop} {s : State} {cI : ClassId} {ad : Nat → Nat} {g : GS} {H : Heap} {locs : List Loc} (hw : mmB D A s cI ad g H locs) (hA : ∀ q, s.heap.size ≤ q → A q) : ∀ q, va_A (mmW cI ad g) H.size q → A q := va_free hw.2.1 hw.2.2 hA [0, 1, 2, 3, 4] rfl
theorem mmPre_call {D : va_G} {A : Nat → Prop} {s U : State} {cI : ClassId} {tb ad : Nat → Nat} {g : GS} {H : Heap} {locs : List Loc} (hK : va_K D vwCl [(cI, .int)] s) (hA : ∀ q, s.heap.size ≤ q → A q) (hw : mmB D A s cI ad g H locs) (hU : U.heap = H) (hW : s.WarmedH U.vm) : mmPre D cI tb ad g H.size U := ⟨by rw [hU], by rw [hU]; exact hw.1, va_K.moved hW.alike hK, hw.2.1.weaken (fun _ _ _ _ => trivial)⟩
abbrev mmAt (D : va_G) (cI : ClassId) (ad : Nat → Nat) (A : Nat → Prop) (g1 : GS) (t : State) : Prop := va_P D vwCl (mmW cI ad g1) t.heap ∧ va_D A (mmW cI ad g1)
abbrev mmMi (l : Launch) (y : MethodName) (ws : List Cond) (rm : Room) (as : List Value) (g : GS) (P : Int → GS → Prop) : Prop := ∀ (D : va_G) (cI : ClassId) (tb ad : Nat → Nat) (sz : Nat), Met l y ws rm (va_Pc (.ref (ad 0) :: as) (mmPre D cI tb ad g sz)) (va_Qi (fun r g1 => ∃ z : Int, r = iN z ∧ P z g1) (mmAt D cI ad (va_A (mmW cI ad g) sz)) (va_A (mmW cI ad g) sz)) 0 0 (va_A (mmW cI ad g) sz)
abbrev mmMv (l : Launch) (y : MethodName) (ws : List Cond) (rm : Room) (as : List Value) (g : GS) (P : GS → Prop) : Prop := ∀ (D : va_G) (cI : ClassId) (tb ad : Nat → Nat) (sz : Nat), Met l y ws rm (va_Pc (.ref (ad 0) :: as) (mmPre D cI tb ad g sz)) (va_Qv P (mmAt D cI ad (va_A (mmW cI ad g) sz)) (va_A (mmW cI ad g) sz)) 0 0 (va_A (mmW cI ad g) sz)
abbrev mmRi (l : Launch) (y : MethodName) (ws : List Cond) (rm : Room) (as : List Value) (g : GS) (P : Int → Prop) : Prop := ∀ (D : va_G) (cI : ClassId) (tb ad : Nat → Nat) (sz : Nat), Met l y ws rm (va_Pc (.ref (ad 0) :: as) (mmPre D cI tb ad g sz)) (vp_Si (fun r => ∃ z : Int, r = iN z ∧ P z)) 0 0 (fun _ => False)
abbrev mmQi (D : va_G) (cI : ClassId) (ad : Nat → Nat) (A : Nat → Prop) (below : List Frame) (args : Array Value) (s : State) (P : Int → GS → Prop) : State → Prop := MQ below (va_Qi (fun r g1 => ∃ z : Int, r = iN z ∧ P z g1) (mmAt D cI ad A) A) args s 0 0 A
abbrev mmQv (D : va_G) (cI : ClassId) (ad : Nat → Nat) (A : Nat → Prop) (below : List Frame) (args : Array Value) (s : State) (P : GS → Prop) : State → Prop := MQ below (va_Qv P (mmAt D cI ad A) A) args s 0 0 A
theorem mmMi_of {l : Launch} {y : MethodName} {b : ByteArray} {n : Nat} {ty : FieldType} {rm : Room} {as : List Value} {g : GS} {P : Int → GS → Prop} (hy : plainName y.cls = true) (hlen : (lg_sl (.ref 0 :: as)).length ≤ n) (body : ∀ (p : Program) (e : Env) (s : State) (m : MethodId) (args : Array Value) (below : List Frame) (meth : Method) (c : Code) (D : va_G) (cI : ClassId) (tb ad : Nat → Nat) (A : Nat → Prop) (ls : Array Slot), CallFix p m c b n s args wsL_law y.cls → meth.sig.returnType = some ty → meth.locks = false → va_K D vwCl [(cI, .int)] s → (∀ q, s.heap.size ≤ q → A q) → mmB D A s cI ad g s.heap [] → lv_has ls n (lv_args 0 (.ref (ad 0) :: as)) → W p l e rm s m args below meth c s.heap [] 0 0 (mmQi D cI ad A below args s P) (F0 m 0 ls [])) : mmMi l y (wU y b n (some ty)) rm as g P := by
  intro D cI tb ad sz
  refine Met.ofW (cc := b) (maxL := n) (ret := some ty) hy rfl ?_
  intro p e s m args below meth c s₁ B hml hv
  obtain ⟨rfl, hsz, hP, hK, hD0⟩ := hv
  have hts := atoms_spec (ws := wU y b n (some ty)) B.pre
  subst hsz
  have hD := hD0.self (sz := s.heap.size)
  have hl := lv_entry (.ref (ad 0) :: as) (n := n) hlen
  rw [lg_entry_eq]
  exact body p e s m _ below meth c D cI tb ad (va_A (mmW cI ad g) s.heap.size) _ ⟨B.exec, B.bytes, hml, findClass_of_methodNamed B.named, fun w hw => hts w (List.mem_cons_of_mem _ hw)⟩ B.returns B.notSynchronized hK (fun q h => Or.inr h) ⟨hP, hD, va_S.rf⟩ hl
theorem mmMv_of {l : Launch} {y : MethodName} {b : ByteArray} {n : Nat} {rm : Room} {as : List Value} {g : GS} {P : GS → Prop} (hy : plainName y.cls = true) (hlen : (lg_sl (.ref 0 :: as)).length ≤ n) (body : ∀ (p : Program) (e : Env) (s : State) (m : MethodId) (args : Array Value) (below : List Frame) (meth : Method) (c : Code) (D : va_G) (cI : ClassId) (tb ad : Nat → Nat) (A : Nat → Prop) (ls : Array Slot), CallFix p m c b n s args wsL_law y.cls → meth.sig.returnType = none → meth.locks = false → va_K D vwCl [(cI, .int)] s → (∀ q, s.heap.size ≤ q → A q) → mmB D A s cI ad g s.heap [] → lv_has ls n (lv_args 0 (.ref (ad 0) :: as)) → W p l e rm s m args below meth c s.heap [] 0 0 (mmQv D cI ad A below args s P) (F0 m 0 ls [])) : mmMv l y (wU y b n none) rm as g P := by
  intro D cI tb ad sz
  refine Met.ofW (cc := b) (maxL := n) (ret := none) hy rfl ?_
  intro p e s m args below meth c s₁ B hml hv
  obtain ⟨rfl, hsz, hP, hK, hD0⟩ := hv
  have hts := atoms_spec (ws := wU y b n none) B.pre
  subst hsz
  have hD := hD0.self (sz := s.heap.size)
  have hl := lv_entry (.ref (ad 0) :: as) (n := n) hlen
  rw [lg_entry_eq]
  exact body p e s m _ below meth c D cI tb ad (va_A (mmW cI ad g) s.heap.size) _ ⟨B.exec, B.bytes, hml, findClass_of_methodNamed B.named, fun w hw => hts w (List.mem_cons_of_mem _ hw)⟩ B.returns B.notSynchronized hK (fun q h => Or.inr h) ⟨hP, hD, va_S.rf⟩ hl
theorem mmRi_of {l : Launch} {y : MethodName} {b : ByteArray} {n : Nat} {ty : FieldType} {rm : Room} {as : List Value} {g : GS} {P : Int → Prop} (hy : plainName y.cls = true) (hlen : (lg_sl (.ref 0 :: as)).length ≤ n) (body : ∀ (p : Program) (e : Env) (s : State) (m : MethodId) (args : Array Value) (below : List Frame) (meth : Method) (c : Code) (D : va_G) (cI : ClassId) (tb ad : Nat → Nat) (A : Nat → Prop) (ls : Array Slot), CallFix p m c b n s args wsL_law y.cls → meth.sig.returnType = some ty → meth.locks = false → va_K D vwCl [(cI, .int)] s → (∀ q, s.heap.size ≤ q → A q) → mmB D A s cI ad g s.heap [] → lv_has ls n (lv_args 0 (.ref (ad 0) :: as)) → W p l e rm s m args below meth c s.heap [] 0 0 (roQ below args s P) (F0 m 0 ls [])) : mmRi l y (wU y b n (some ty)) rm as g P := by
  intro D cI tb ad sz
  refine Met.ofW (cc := b) (maxL := n) (ret := some ty) hy rfl ?_
  intro p e s m args below meth c s₁ B hml hv
  obtain ⟨rfl, hsz, hP, hK, hD0⟩ := hv
  have hts := atoms_spec (ws := wU y b n (some ty)) B.pre
  subst hsz
  have hD := hD0.self (sz := s.heap.size)
  have hl := lv_entry (.ref (ad 0) :: as) (n := n) hlen
  rw [lg_entry_eq]
  exact body p e s m _ below meth c D cI tb ad (va_A (mmW cI ad g) s.heap.size) _ ⟨B.exec, B.bytes, hml, findClass_of_methodNamed B.named, fun w hw => hts w (List.mem_cons_of_mem _ hw)⟩ B.returns B.notSynchronized hK (fun q h => Or.inr h) ⟨hP, hD, va_S.rf⟩ hl
section MMC
variable {p : Program} {l : Launch} {e : Env} {R : Room} {s : State} {m : MethodId} {args : Array Value} {below : List Frame} {meth : Method} {c : Code} {H : Heap} {locs : List Loc} {cells slots : Nat} {Q : State → Prop}
variable {cc : ByteArray} {pc nL : Nat} {ls : Array Slot} {rest : List Value} {D : va_G} {A : Nat → Prop} {cI : ClassId} {ad : Nat → Nat} {g : GS} {tb : Nat → Nat}
theorem mm_ret {own : String} {P : Int → GS → Prop} {z : Int} (cx : CallFix p m c cc nL s args wsL_law own) (hr : meth.sig.returnType = some .int) (hlocks : meth.locks = false) (hw : mmB D A s cI ad g H locs) (hP : P z g) (hdg : decode cc pc = .ok (.ireturn, 1)) : W p l e R s m args below meth c H locs 0 0 (mmQi D cI ad A below args s P) (F0 m pc ls [.int (iN z)]) := W.iret cx.1 cx.2.1 hr (fun t ht _ => ⟨⟨_, g, rfl, ⟨z, rfl, hP⟩, by rw [ht]; exact hw.1, hw.2.1⟩, hw.2.2.F ht⟩) hw.2.2.2.2 hdg hlocks
theorem mm_vret {own : String} {P : GS → Prop} (cx : CallFix p m c cc nL s args wsL_law own) (hr : meth.sig.returnType = none) (hlocks : meth.locks = false) (hw : mmB D A s cI ad g H locs) (hP : P g) (hdg : decode cc pc = .ok (.return_, 1)) : W p l e R s m args below meth c H locs 0 0 (mmQv D cI ad A below args s P) (F0 m pc ls []) := W.vret cx.1 cx.2.1 hr (fun t ht _ => ⟨⟨g, rfl, hP, by rw [ht]; exact hw.1, hw.2.1⟩, hw.2.2.F ht⟩) hw.2.2.2.2 hdg hlocks
theorem mm_calli {own : String} {y : MethodName} {b : ByteArray} {n i : Nat} {ty : FieldType} {rm : Room} {as : List Value} {P : Int → GS → Prop} {lv : List (Nat × Value)} (cx : CallFix p m c cc nL s args wsL_law own) (hK : va_K D vwCl [(cI, .int)] s) (hA : ∀ q, s.heap.size ≤ q → A q) (hw : mmB D A s cI ad g H locs) (hl : lv_has ls nL lv) (hM : mmMi l y (wU y b n (some ty)) rm as g P) (hG : GoodIn wsL_law (wsV own i RX2 y (wU y b n (some ty)))) (hrc : rm.cells = 0 ∧ rm.slots = 0) (na : Nat) (hna : as.length = na) (hd : y.cls = RX2 ∧ y.cls ≠ "java/lang/invoke/MethodHandle" ∧ y.cls ≠ "java/lang/invoke/VarHandle" ∧ (parseMethodDescriptor y.desc).map (fun d => d.parameters.length) = some na) (hR : rm.frames + 1 ≤ R.frames ∧ 8 + (n + 11) + rm.locals ≤ R.locals) (hf : cells ≤ R.cells ∧ slots ≤ R.slots) (hc : (rest.map fun v => v.category).sum ≤ 8) (hdg : decode cc pc = .ok (.invokevirtual i, 3)) {st : List Value} (hst : st = as.reverse ++ .ref (ad 0) :: rest) (kk : ∀ (z : Int) (g1 : GS) (H1 : Heap) (locs1 : List Loc), P z g1 → mmB D A s cI ad g1 H1 locs1 → W p l e R s m args below meth c H1 locs1 cells slots Q (F0 m (pc + 3) ls (.int (iN z) :: rest))) : W p l e R s m args below meth c H locs cells slots Q (F0 m pc ls st) := by
  refine va_calli (va_runV (g := F0 m pc ls st) (As := as) (rest := rest) cx (hM D cI (fun _ => 0) ad H.size) (cwV na cx.2.2.2.2 hG rfl hrc.1 hrc.2 hd hR) ⟨fun a U gf mk q => ⟨q.1, mmPre_blind gf mk a q.2⟩, va_recv hK hw.1 (ci := 2) (q0 := 0) rfl rfl, fun U hU hW => ⟨rfl, mmPre_call hK hA hw hU hW⟩⟩ rfl hna hl.1 hst (lv_room hc) hdg ⟨by omega, by omega⟩) hw.2.2 (fun q _ h => mm_free hw hA q h) (mm_free hw hA) (fun r u t H1 locs1 ht hvm hq hB hz1 hk1 hS => ?_)
  have hF := mm_free hw hA
  obtain ⟨hP1, hD1⟩ := hB
  rw [ht] at hP1
  obtain ⟨z, rfl, hP⟩ := hq
  exact kk z u H1 locs1 hP ⟨hP1, hD1.weaken (fun _ _ _ h => hF _ h), hS⟩
theorem mm_callv {own : String} {y : MethodName} {b : ByteArray} {n i : Nat} {rm : Room} {as : List Value} {P : GS → Prop} {lv : List (Nat × Value)} (cx : CallFix p m c cc nL s args wsL_law own) (hK : va_K D vwCl [(cI, .int)] s) (hA : ∀ q, s.heap.size ≤ q → A q) (hw : mmB D A s cI ad g H locs) (hl : lv_has ls nL lv) (hM : mmMv l y (wU y b n none) rm as g P) (hG : GoodIn wsL_law (wsV own i RX2 y (wU y b n none))) (hrc : rm.cells = 0 ∧ rm.slots = 0) (na : Nat) (hna : as.length = na) (hd : y.cls = RX2 ∧ y.cls ≠ "java/lang/invoke/MethodHandle" ∧ y.cls ≠ "java/lang/invoke/VarHandle" ∧ (parseMethodDescriptor y.desc).map (fun d => d.parameters.length) = some na) (hR : rm.frames + 1 ≤ R.frames ∧ 8 + (n + 11) + rm.locals ≤ R.locals) (hf : cells ≤ R.cells ∧ slots ≤ R.slots) (hc : (rest.map fun v => v.category).sum ≤ 8) (hdg : decode cc pc = .ok (.invokevirtual i, 3)) {st : List Value} (hst : st = as.reverse ++ .ref (ad 0) :: rest) (kk : ∀ (g1 : GS) (H1 : Heap) (locs1 : List Loc), P g1 → mmB D A s cI ad g1 H1 locs1 → W p l e R s m args below meth c H1 locs1 cells slots Q (F0 m (pc + 3) ls rest)) : W p l e R s m args below meth c H locs cells slots Q (F0 m pc ls st) := by
  refine va_callv (va_runV (g := F0 m pc ls st) (As := as) (rest := rest) cx (hM D cI (fun _ => 0) ad H.size) (cwV na cx.2.2.2.2 hG rfl hrc.1 hrc.2 hd hR) ⟨fun a U gf mk q => ⟨q.1, mmPre_blind gf mk a q.2⟩, va_recv hK hw.1 (ci := 2) (q0 := 0) rfl rfl, fun U hU hW => ⟨rfl, mmPre_call hK hA hw hU hW⟩⟩ rfl hna hl.1 hst (lv_room hc) hdg ⟨by omega, by omega⟩) hw.2.2 (fun q _ h => mm_free hw hA q h) (mm_free hw hA) (fun u t H1 locs1 ht hvm hq hB hz1 hk1 hS => ?_)
  have hF := mm_free hw hA
  obtain ⟨hP1, hD1⟩ := hB
  rw [ht] at hP1
  exact kk u H1 locs1 hq ⟨hP1, hD1.weaken (fun _ _ _ h => hF _ h), hS⟩
theorem mm_callr {own : String} {y : MethodName} {b : ByteArray} {n i : Nat} {ty : FieldType} {rm : Room} {as : List Value} {P : Int → Prop} {lv : List (Nat × Value)} (cx : CallFix p m c cc nL s args wsL_law own) (hK : va_K D vwCl [(cI, .int)] s) (hA : ∀ q, s.heap.size ≤ q → A q) (hw : mmB D A s cI ad g H locs) (hl : lv_has ls nL lv) (hM : mmRi l y (wU y b n (some ty)) rm as g P) (hG : GoodIn wsL_law (wsV own i RX2 y (wU y b n (some ty)))) (hrc : rm.cells = 0 ∧ rm.slots = 0) (na : Nat) (hna : as.length = na) (hd : y.cls = RX2 ∧ y.cls ≠ "java/lang/invoke/MethodHandle" ∧ y.cls ≠ "java/lang/invoke/VarHandle" ∧ (parseMethodDescriptor y.desc).map (fun d => d.parameters.length) = some na) (hR : rm.frames + 1 ≤ R.frames ∧ 8 + (n + 11) + rm.locals ≤ R.locals) (hf : cells ≤ R.cells ∧ slots ≤ R.slots) (hc : (rest.map fun v => v.category).sum ≤ 8) (hdg : decode cc pc = .ok (.invokevirtual i, 3)) {st : List Value} (hst : st = as.reverse ++ .ref (ad 0) :: rest) (kk : ∀ z : Int, P z → W p l e R s m args below meth c H locs cells slots Q (F0 m (pc + 3) ls (.int (iN z) :: rest))) : W p l e R s m args below meth c H locs cells slots Q (F0 m pc ls st) := by
  refine vp_callSi (va_runV (g := F0 m pc ls st) (As := as) (rest := rest) cx (hM D cI (fun _ => 0) ad H.size) (cwV na cx.2.2.2.2 hG rfl hrc.1 hrc.2 hd hR) ⟨fun a U gf mk q => ⟨q.1, mmPre_blind gf mk a q.2⟩, va_recv hK hw.1 (ci := 2) (q0 := 0) rfl rfl, fun U hU hW => ⟨rfl, mmPre_call hK hA hw hU hW⟩⟩ rfl hna hl.1 hst (lv_room hc) hdg ⟨by omega, by omega⟩).run ?_
  rintro r ⟨z, rfl, hP⟩
  exact kk z hP
end MMC
end
section
/-! sums, updates, the picture of a Game -/
def sumN (f : Nat → Int) : Nat → Int
  | 0 => 0
  | n + 1 => sumN f n + f n
theorem sumN_s {f : Nat → Int} {a b : Nat} (h : a = b + 1) : sumN f a = sumN f b + f b := by subst h; rfl
theorem sumN_congr {f g : Nat → Int} : ∀ {n : Nat}, (∀ i, i < n → f i = g i) → sumN f n = sumN g n
  | 0, _ => rfl
  | n + 1, h => by
    show sumN f n + f n = sumN g n + g n
    rw [sumN_congr (fun i hi => h i (by omega)), h n (by omega)]
theorem sumN_nonneg {f : Nat → Int} : ∀ {n : Nat}, (∀ i, i < n → 0 ≤ f i) → 0 ≤ sumN f n
  | 0, _ => Int.le_refl _
  | n + 1, h => by
    show 0 ≤ sumN f n + f n
    have := sumN_nonneg (f := f) (n := n) (fun i hi => h i (by omega))
    have := h n (by omega)
    omega
theorem sumN_le {f : Nat → Int} {c : Int} : ∀ {n : Nat}, (∀ i, i < n → f i ≤ c) → sumN f n ≤ n * c
  | 0, _ => by simp [sumN]
  | n + 1, h => by
    show sumN f n + f n ≤ _
    have h1 := sumN_le (f := f) (n := n) (c := c) (fun i hi => h i (by omega))
    have h2 := h n (by omega)
    have h3 : ((n + 1 : Nat) : Int) * c = n * c + c := by rw [Int.natCast_add, Int.add_mul]; omega
    omega
theorem sumN_ge {f : Nat → Int} {c : Int} : ∀ {n : Nat}, (∀ i, i < n → c ≤ f i) → n * c ≤ sumN f n
  | 0, _ => by simp [sumN]
  | n + 1, h => by
    show _ ≤ sumN f n + f n
    have h1 := sumN_ge (f := f) (n := n) (c := c) (fun i hi => h i (by omega))
    have h2 := h n (by omega)
    have h3 : ((n + 1 : Nat) : Int) * c = n * c + c := by rw [Int.natCast_add, Int.add_mul]; omega
    omega
theorem sumN_add (f : Nat → Int) (a : Nat) : ∀ b : Nat, sumN f (a + b) = sumN f a + sumN (fun i => f (a + i)) b
  | 0 => by simp [sumN]
  | b + 1 => by
    show sumN f (a + b) + f (a + b) = _
    rw [sumN_add f a b]
    show _ = sumN f a + (sumN (fun i => f (a + i)) b + f (a + b))
    omega
def uf (f : Nat → Int) (k : Nat) (v : Int) : Nat → Int := fun j => if j = k then v else f j
theorem uf_s (f : Nat → Int) (k : Nat) (v : Int) : uf f k v k = v := if_pos rfl
theorem uf_n (f : Nat → Int) {k j : Nat} (v : Int) (h : j ≠ k) : uf f k v j = f j := if_neg h
theorem sumN_uf (f : Nat → Int) (k : Nat) (v : Int) : ∀ n : Nat, sumN (uf f k v) n = sumN f n + (if k < n then v - f k else 0)
  | 0 => by simp [sumN]
  | n + 1 => by
    show sumN (uf f k v) n + uf f k v n = sumN f n + f n + _
    rw [sumN_uf f k v n]
    by_cases h : n = k
    · subst h
      rw [uf_s, if_neg (by omega), if_pos (by omega)]
      omega
    · rw [uf_n f v h]
      by_cases h2 : k < n
      · rw [if_pos h2, if_pos (by omega)]; omega
      · rw [if_neg h2, if_neg (by omega)]; omega
/-- the borders of a Game's parts rise, to 164 at most -/
def MX (g : GS) : Prop := g 1 0 = 0 ∧ (∀ r : Nat, r < 16 → g 1 r ≤ g 1 (r + 1)) ∧ g 1 16 ≤ 164
theorem MX_le {g : GS} (h : MX g) {a : Nat} : ∀ {b : Nat}, a ≤ b → b ≤ 16 → g 1 a ≤ g 1 b
  | 0, hab, _ => by
    have : a = 0 := by omega
    subst this
    exact Int.le_refl _
  | b + 1, hab, hb => by
    by_cases h2 : a = b + 1
    · subst h2; exact Int.le_refl _
    · exact Int.le_trans (MX_le h (a := a) (b := b) (by omega) (by omega)) (h.2.1 b (by omega))
theorem MX_b {g : GS} (h : MX g) (k : Nat) (hk : k ≤ 16) : 0 ≤ g 1 k ∧ g 1 k ≤ 164 := by
  have h1 := MX_le h (Nat.zero_le k) hk
  have h2 := MX_le h hk (Nat.le_refl 16)
  have h3 := h.1
  have h4 := h.2.2
  omega
/-- every card is one of the kinds -/
def KX (g : GS) : Prop := ∀ j : Nat, (j : Int) < g 1 16 → 0 ≤ g 0 j ∧ g 0 j ≤ 9
/-- piles, the row's first kind, the numbers of a turn -/
def NX (g : GS) : Prop := (2 ≤ g 4 4 ∧ g 4 4 ≤ 4) ∧ (0 ≤ g 4 5 ∧ g 4 5 < g 4 4) ∧ (0 ≤ g 4 6 ∧ g 4 6 ≤ 1000) ∧ (0 ≤ g 4 7 ∧ g 4 7 ≤ 1000) ∧ (0 ≤ g 4 8 ∧ g 4 8 ≤ 1000) ∧ (0 ≤ g 4 9 ∧ g 4 9 ≤ 1000) ∧ (0 ≤ g 4 10 ∧ g 4 10 ≤ 9) ∧ (0 ≤ g 4 11 ∧ g 4 11 ≤ 9) ∧ (0 ≤ g 4 13 ∧ g 4 13 ≤ 1) ∧ (∀ k : Nat, k < 10 → 0 ≤ g 2 k ∧ g 2 k ≤ 164) ∧ (∀ k : Nat, k < 10 → 0 ≤ g 3 k ∧ g 3 k ≤ 164)
theorem tv_b (i k : Nat) : -1 ≤ tv i k ∧ tv i k ≤ 60 := by
  by_cases h : i < 10 ∧ k < 10
  · have : ∀ i : Fin 10, ∀ k : Fin 10, -1 ≤ tv i.1 k.1 ∧ tv i.1 k.1 ≤ 60 := by decide +kernel
    exact this ⟨i, h.1⟩ ⟨k, h.2⟩
  · have h0 : tv i k = 0 := by
      by_cases hi : i < 10
      · have hk : 10 ≤ k := by omega
        have : ∀ i : Fin 10, (tvl i.1).length = 10 := by decide +kernel
        have h1 := this ⟨i, hi⟩
        unfold tv
        rw [List.getD_eq_getElem?_getD, List.getElem?_eq_none (by simp only at h1; omega)]
        rfl
      · have : tvl i = [] := by
          unfold tvl
          rw [List.getD_eq_getElem?_getD, List.getElem?_eq_none (by simp; omega)]
          rfl
        unfold tv
        rw [this]
        rfl
    omega
/-- words for arraycopy -/
def tcW (own : String) (i : Nat) : Prop := Cond.methodLink own i arraycopyName ∈ wsL_law ∧ Cond.native arraycopyName ∈ wsL_law ∧ Cond.static arraycopyName ∈ wsL_law ∧ Cond.initialized "java/lang/System" ∈ wsL_law
def uc (g : GS) (a sp dp n : Nat) : GS := fun a' j => if a' = a ∧ dp ≤ j ∧ j < dp + n then g a (sp + (j - dp)) else g a' j
theorem uc_a (g : GS) {a sp dp n a' : Nat} (h : a' ≠ a) : uc g a sp dp n a' = g a' := by
  funext j
  exact if_neg fun q => h q.1
theorem u2_row (g : GS) {a k a' : Nat} {v : Int} (h : a' ≠ a) : u2 g a k v a' = g a' := by
  funext j
  exact if_neg fun q => h q.1
theorem uc_W (cI : ClassId) (ad : Nat → Nat) (g : GS) (sp dp n : Nat) : (gmW cI ad g).set 1 (ad 1, .inl (cI, 164, .inl (va_cpy (fun j => iN (g 0 j)) (fun j => iN (g 0 j)) sp dp n))) = gmW cI ad (uc g 0 sp dp n) := by
  have h : va_cpy (fun j => iN (g 0 j)) (fun j => iN (g 0 j)) sp dp n = fun j => iN (uc g 0 sp dp n 0 j) := by
    funext j
    unfold va_cpy uc
    by_cases hj : dp ≤ j ∧ j < dp + n
    · rw [if_pos hj, if_pos ⟨rfl, hj⟩]
    · rw [if_neg hj, if_neg fun q => hj q.2]
  rw [h]
  rfl
theorem gm_cpy {p : Program} {l : Launch} {e : Env} {R : Room} {s : State} {m : MethodId} {args : Array Value} {below : List Frame} {meth : Method} {c : Code} {H : Heap} {locs : List Loc} {cells slots : Nat} {Q : State → Prop}
    {cc : ByteArray} {pc nL i : Nat} {ls : Array Slot} {rest : List Value} {D : va_G} {A : Nat → Prop} {cI : ClassId} {ad : Nat → Nat} {g : GS} {own : String} {lv : List (Nat × Value)} (cx : CallFix p m c cc nL s args wsL_law own) (hK : va_K D vwCl [(cI, .int)] s) (hw : gmB D A s cI ad g H locs) (hl : lv_has ls nL lv) (k d n : Nat) {sp dp nn : Int} (hk : sp = (k : Int) ∧ dp = (d : Int) ∧ nn = (n : Int) ∧ k + n ≤ 164 ∧ d + n ≤ 164) (ht : tcW own i) (hR : 1 ≤ R.frames ∧ (rest.map fun v => v.category).sum + 18 ≤ R.locals) (hdg : decode cc pc = .ok (.invokestatic i, 3))
    (kk : ∀ (g1 : GS) (H1 : Heap) (locs1 : List Loc), g1 = uc g 0 k d n → gmB D A s cI ad g1 H1 locs1 → W p l e R s m args below meth c H1 locs1 cells slots Q (F0 m (pc + 3) ls rest)) : W p l e R s m args below meth c H locs cells slots Q (F0 m pc ls (.int (iN nn) :: .int (iN dp) :: .ref (ad 1) :: .int (iN sp) :: .ref (ad 1) :: rest)) := by
  have z1 : ∀ {z : Int} {k : Nat}, z = (k : Int) → k ≤ 164 → ¬ iN z < 0 ∧ (iN z).toNatClampNeg = k := fun h1 h2 => ⟨by rw [← iN_z, iN_lt (by omega) (by omega)]; omega, iN_k (n := 165) h1 (by omega) (by omega)⟩
  have s1 := z1 hk.1 (by omega)
  have s2 := z1 hk.2.1 (by omega)
  have s3 := z1 hk.2.2.1 (by omega)
  refine va_copyi (D := D) cx.1 cx.2.1 (cx.2.2.1.trans hl.1.symm) cx.2.2.2.1 (cx.2.2.2.2 _ ht.1) (cx.2.2.2.2 _ ht.2.1) (cx.2.2.2.2 _ ht.2.2.1) (cx.2.2.2.2 _ ht.2.2.2) hK hw.1 hw.2.1 hw.2.2 1 1 0 0 (c0 := cI) (c1 := cI) (n0 := 164) (n1 := 164) (f := fun j => iN (g 0 j)) (g := fun j => iN (g 0 j)) (ty := .int) rfl rfl rfl rfl rfl s1.1 s2.1 s3.1 (by rw [s1.2, s3.2]; omega) (by rw [s2.2, s3.2]; omega) (fun _ _ => rfl) hR.1 hR.2 hdg (fun H1 locs1 hP hD hS => kk _ H1 locs1 rfl ?_)
  rw [s1.2, s2.2, s3.2, uc_W] at hP hD
  exact ⟨hP, hD, hS⟩
end
section
theorem tc_RX0 : tcW RX0 24 := ⟨tw_in2 _ (List.mem_of_getElem? (i := 16) rfl), tw_in2 _ (List.mem_of_getElem? (i := 17) rfl), tw_in2 _ (List.mem_of_getElem? (i := 18) rfl), tw_in2 _ (List.mem_of_getElem? (i := 19) rfl)⟩
set_option maxHeartbeats 4000000 in
set_option maxRecDepth 100000 in
theorem c_X0_hasPlayer (l : Launch) (who : Int) (g : GS) (hwho : -2147483648 ≤ who ∧ who ≤ 2147483647) (hn : NX g) : gmRi l yX0_hasPlayer (wU yX0_hasPlayer cX0_hasPlayer 2 (some .boolean)) ({ frames := 0, cells := 0, slots := 0, locals := 0 } : Room) [.int (iN who)] g (fun z => (z = 1 ∧ 0 ≤ who ∧ who < g 4 4) ∨ (z = 0 ∧ ¬ (0 ≤ who ∧ who < g 4 4))) := by
  refine gmRi_of (by decide) (Nat.le_of_ble_eq_true rfl) ?_
  intro p e s m args below meth c D cI tb ad A ls cx hr hlocks hK hA hT hw hl
  have hx := cx.1
  have hb := cx.2.1
  have hl : lv_has ls 2 [(0, .ref (ad 0)), (1, .int (iN who))] := hl
  have hn1 := hn.1
  refine lv_iload_n hx hb dX0_hasPlayer_0 rfl (lv_at hl 1 rfl) ?_
  refine ts_if_lt (tgt := 16) hx hb (by omega) dX0_hasPlayer_1 (by decide) (fun c1 => ?_) (fun c1 => ?_)
  · skip
    refine ts_iconst hx hb dX0_hasPlayer_16 ?_
    exact ro_retz cx hr hlocks (by omega) (by omega) dX0_hasPlayer_17
  · skip
    refine lv_iload_n hx hb dX0_hasPlayer_4 rfl (lv_at hl 1 rfl) ?_
    refine lv_aload_n hx hb dX0_hasPlayer_5 rfl (lv_at hl 0 rfl) ?_
    refine gm_get4 cx hK hw tl_RX0_30 dX0_hasPlayer_6 (fun z6 hz6 => ?_)
    refine ts_icmp_ge (tgt := 16) hx hb (by omega) dX0_hasPlayer_9 (by decide) (fun c9 => ?_) (fun c9 => ?_)
    · skip
      refine ts_iconst hx hb dX0_hasPlayer_16 ?_
      exact ro_retz cx hr hlocks (by omega) (by omega) dX0_hasPlayer_17
    · skip
      refine ts_iconst hx hb dX0_hasPlayer_12 ?_
      refine lv_goto (tgt := 17) hx hb dX0_hasPlayer_13 (by decide) ?_
      exact ro_retz cx hr hlocks (by omega) (by omega) dX0_hasPlayer_17
set_option maxHeartbeats 4000000 in
set_option maxRecDepth 100000 in
theorem c_X0_playerBehind (l : Launch) (who : Int) (g : GS) (hwho : 0 ≤ who ∧ who < g 4 4) (hn : 2 ≤ g 4 4 ∧ g 4 4 ≤ 4) : gmRi l yX0_playerBehind (wU yX0_playerBehind cX0_playerBehind 2 (some .int)) ({ frames := 0, cells := 0, slots := 0, locals := 0 } : Room) [.int (iN who)] g (fun z => (who + 1 < g 4 4 ∧ z = who + 1) ∨ (who + 1 = g 4 4 ∧ z = 0)) := by
  refine gmRi_of (by decide) (Nat.le_of_ble_eq_true rfl) ?_
  intro p e s m args below meth c D cI tb ad A ls cx hr hlocks hK hA hT hw hl
  have hx := cx.1
  have hb := cx.2.1
  have hl : lv_has ls 2 [(0, .ref (ad 0)), (1, .int (iN who))] := hl
  have hn1 := hn
  refine lv_iload_n hx hb dX0_playerBehind_0 rfl (lv_at hl 1 rfl) ?_
  refine ts_iconst hx hb dX0_playerBehind_1 ?_
  refine ts_iadd hx hb dX0_playerBehind_2 (fun z2 hz2 => ?_)
  refine lv_aload_n hx hb dX0_playerBehind_3 rfl (lv_at hl 0 rfl) ?_
  refine gm_get4 cx hK hw tl_RX0_30 dX0_playerBehind_4 (fun z4 hz4 => ?_)
  refine ts_icmp_ge (tgt := 16) hx hb (by omega) dX0_playerBehind_7 (by decide) (fun c7 => ?_) (fun c7 => ?_)
  · skip
    refine ts_iconst hx hb dX0_playerBehind_16 ?_
    exact ro_ret cx hr hlocks (by omega) dX0_playerBehind_17
  · skip
    refine lv_iload_n hx hb dX0_playerBehind_10 rfl (lv_at hl 1 rfl) ?_
    refine ts_iconst hx hb dX0_playerBehind_11 ?_
    refine ts_iadd hx hb dX0_playerBehind_12 (fun z12 hz12 => ?_)
    refine lv_goto (tgt := 17) hx hb dX0_playerBehind_13 (by decide) ?_
    exact ro_ret cx hr hlocks (by omega) dX0_playerBehind_17
set_option maxHeartbeats 4000000 in
set_option maxRecDepth 100000 in
theorem c_X0_cardOf (l : Launch) (w r : Nat) (place : Int) (g : GS) (hw0 : w < 4) (hr0 : r < 4) (hpl : -2147483648 ≤ place ∧ place ≤ 2147483647) (hm : MX g) (hm2 : KX g) : gmRi l yX0_cardOf (wU yX0_cardOf cX0_cardOf 6 (some .int)) ({ frames := 0, cells := 0, slots := 0, locals := 0 } : Room) [.int (iN ((w : Int))), .int (iN ((r : Int))), .int (iN place)] g (fun z => (0 ≤ place ∧ place < g 1 (4 * w + r + 1) - g 1 (4 * w + r) ∧ z = g 0 ((g 1 (4 * w + r)).toNat + place.toNat)) ∨ (¬ (0 ≤ place ∧ place < g 1 (4 * w + r + 1) - g 1 (4 * w + r)) ∧ z = -1)) := by
  refine gmRi_of (by decide) (Nat.le_of_ble_eq_true rfl) ?_
  intro p e s m args below meth c D cI tb ad A ls cx hr hlocks hK hA hT hw hl
  have hx := cx.1
  have hb := cx.2.1
  have hl : lv_has ls 6 [(0, .ref (ad 0)), (1, .int (iN ((w : Int)))), (2, .int (iN ((r : Int)))), (3, .int (iN place))] := hl
  have hT := MX_b hm
  have hq := MX_le hm (a := 4 * w + r + 1) (b := 16) (by omega) (by omega)
  refine lv_aload_n hx hb dX0_cardOf_0 rfl (lv_at hl 0 rfl) ?_
  refine gm_get1 cx hK hw tl_RX0_15 dX0_cardOf_1 ?_
  refine lv_iload_n hx hb dX0_cardOf_4 rfl (lv_at hl 1 rfl) ?_
  refine ts_iconst hx hb dX0_cardOf_5 ?_
  refine ts_imul hx hb dX0_cardOf_6 (fun z6 hz6 => ?_)
  refine lv_iload_n hx hb dX0_cardOf_7 rfl (lv_at hl 2 rfl) ?_
  refine ts_iadd hx hb dX0_cardOf_8 (fun z8 hz8 => ?_)
  refine gm_ld1 cx hK hw (4 * w + r) (by omega) dX0_cardOf_9 (fun z9 hz9 => ?_)
  have hb9 := hT (4 * w + r) (by omega)
  refine lv_istore (lv' := [(4, .int (iN z9)), (0, .ref (ad 0)), (1, .int (iN ((w : Int)))), (2, .int (iN ((r : Int)))), (3, .int (iN place))]) hx hb dX0_cardOf_10 hl (by decide) rfl (fun ls hl => ?_)
  refine lv_aload_n hx hb dX0_cardOf_12 rfl (lv_at hl 1 rfl) ?_
  refine gm_get1 cx hK hw tl_RX0_15 dX0_cardOf_13 ?_
  refine lv_iload_n hx hb dX0_cardOf_16 rfl (lv_at hl 2 rfl) ?_
  refine ts_iconst hx hb dX0_cardOf_17 ?_
  refine ts_imul hx hb dX0_cardOf_18 (fun z18 hz18 => ?_)
  refine lv_iload_n hx hb dX0_cardOf_19 rfl (lv_at hl 3 rfl) ?_
  refine ts_iadd hx hb dX0_cardOf_20 (fun z20 hz20 => ?_)
  refine ts_iconst hx hb dX0_cardOf_21 ?_
  refine ts_iadd hx hb dX0_cardOf_22 (fun z22 hz22 => ?_)
  refine gm_ld1 cx hK hw (4 * w + r + 1) (by omega) dX0_cardOf_23 (fun z23 hz23 => ?_)
  have hb23 := hT (4 * w + r + 1) (by omega)
  refine lv_iload hx hb dX0_cardOf_24 (lv_at hl 0 rfl) ?_
  refine ts_isub hx hb dX0_cardOf_26 (fun z26 hz26 => ?_)
  refine lv_istore (lv' := [(5, .int (iN z26)), (4, .int (iN z9)), (0, .ref (ad 0)), (1, .int (iN ((w : Int)))), (2, .int (iN ((r : Int)))), (3, .int (iN place))]) hx hb dX0_cardOf_27 hl (by decide) rfl (fun ls hl => ?_)
  refine lv_iload_n hx hb dX0_cardOf_29 rfl (lv_at hl 5 rfl) ?_
  refine ts_if_lt (tgt := 39) hx hb (by omega) dX0_cardOf_30 (by decide) (fun c30 => ?_) (fun c30 => ?_)
  · skip
    refine ts_iconst hx hb dX0_cardOf_39 ?_
    refine lv_goto (tgt := 52) hx hb dX0_cardOf_40 (by decide) ?_
    exact ro_ret cx hr hlocks (by omega) dX0_cardOf_52
  · skip
    refine lv_iload_n hx hb dX0_cardOf_33 rfl (lv_at hl 5 rfl) ?_
    refine lv_iload hx hb dX0_cardOf_34 (lv_at hl 0 rfl) ?_
    refine ts_icmp_lt (tgt := 43) hx hb (by omega) dX0_cardOf_36 (by decide) (fun c36 => ?_) (fun c36 => ?_)
    · skip
      refine lv_aload_n hx hb dX0_cardOf_43 rfl (lv_at hl 2 rfl) ?_
      refine gm_get0 cx hK hw tl_RX0_9 dX0_cardOf_44 ?_
      refine lv_iload hx hb dX0_cardOf_47 (lv_at hl 1 rfl) ?_
      refine lv_iload_n hx hb dX0_cardOf_49 rfl (lv_at hl 5 rfl) ?_
      refine ts_iadd hx hb dX0_cardOf_50 (fun z50 hz50 => ?_)
      refine gm_ld0 cx hK hw ((g 1 (4 * w + r)).toNat + place.toNat) (by omega) dX0_cardOf_51 (fun z51 hz51 => ?_)
      have hb51 := hm2 ((g 1 (4 * w + r)).toNat + place.toNat) (by omega)
      exact ro_ret cx hr hlocks (by omega) dX0_cardOf_52
    · skip
      refine ts_iconst hx hb dX0_cardOf_39 ?_
      refine lv_goto (tgt := 52) hx hb dX0_cardOf_40 (by decide) ?_
      exact ro_ret cx hr hlocks (by omega) dX0_cardOf_52
set_option maxHeartbeats 4000000 in
set_option maxRecDepth 100000 in
theorem c_X0_howMany (l : Launch) (w r1 r2 : Nat) (kind : Int) (g : GS) (hw0 : w < 4) (hr0 : r1 ≤ r2 ∧ r2 < 4) (hpl : -2147483648 ≤ kind ∧ kind ≤ 2147483647) (hm : MX g) (hm2 : KX g) : gmRi l yX0_howMany (wU yX0_howMany cX0_howMany 9 (some .int)) ({ frames := 0, cells := 0, slots := 0, locals := 0 } : Room) [.int (iN ((w : Int))), .int (iN ((r1 : Int))), .int (iN ((r2 : Int))), .int (iN kind)] g (fun z => (kind = 10 ∧ z = g 1 (4 * w + r2 + 1) - g 1 (4 * w + r1)) ∨ (kind ≠ 10 ∧ z = sumN (fun i => if g 0 ((g 1 (4 * w + r1)).toNat + i) = kind then 1 else 0) (g 1 (4 * w + r2 + 1) - g 1 (4 * w + r1)).toNat)) := by
  refine gmRi_of (by decide) (Nat.le_of_ble_eq_true rfl) ?_
  intro p e s m args below meth c D cI tb ad A ls cx hr hlocks hK hA hT hw hl
  have hx := cx.1
  have hb := cx.2.1
  have hl : lv_has ls 9 [(0, .ref (ad 0)), (1, .int (iN ((w : Int)))), (2, .int (iN ((r1 : Int)))), (3, .int (iN ((r2 : Int)))), (4, .int (iN kind))] := hl
  have hT := MX_b hm
  have hq := MX_le hm (a := 4 * w + r2 + 1) (b := 16) (by omega) (by omega)
  have hq2 := MX_le hm (a := 4 * w + r1) (b := 4 * w + r2 + 1) (by omega) (by omega)
  refine lv_aload_n hx hb dX0_howMany_0 rfl (lv_at hl 0 rfl) ?_
  refine gm_get1 cx hK hw tl_RX0_15 dX0_howMany_1 ?_
  refine lv_iload_n hx hb dX0_howMany_4 rfl (lv_at hl 1 rfl) ?_
  refine ts_iconst hx hb dX0_howMany_5 ?_
  refine ts_imul hx hb dX0_howMany_6 (fun z6 hz6 => ?_)
  refine lv_iload_n hx hb dX0_howMany_7 rfl (lv_at hl 2 rfl) ?_
  refine ts_iadd hx hb dX0_howMany_8 (fun z8 hz8 => ?_)
  refine gm_ld1 cx hK hw (4 * w + r1) (by omega) dX0_howMany_9 (fun z9 hz9 => ?_)
  have hb9 := hT (4 * w + r1) (by omega)
  refine lv_istore (lv' := [(5, .int (iN z9)), (0, .ref (ad 0)), (1, .int (iN ((w : Int)))), (2, .int (iN ((r1 : Int)))), (3, .int (iN ((r2 : Int)))), (4, .int (iN kind))]) hx hb dX0_howMany_10 hl (by decide) rfl (fun ls hl => ?_)
  refine lv_aload_n hx hb dX0_howMany_12 rfl (lv_at hl 1 rfl) ?_
  refine gm_get1 cx hK hw tl_RX0_15 dX0_howMany_13 ?_
  refine lv_iload_n hx hb dX0_howMany_16 rfl (lv_at hl 2 rfl) ?_
  refine ts_iconst hx hb dX0_howMany_17 ?_
  refine ts_imul hx hb dX0_howMany_18 (fun z18 hz18 => ?_)
  refine lv_iload_n hx hb dX0_howMany_19 rfl (lv_at hl 4 rfl) ?_
  refine ts_iadd hx hb dX0_howMany_20 (fun z20 hz20 => ?_)
  refine ts_iconst hx hb dX0_howMany_21 ?_
  refine ts_iadd hx hb dX0_howMany_22 (fun z22 hz22 => ?_)
  refine gm_ld1 cx hK hw (4 * w + r2 + 1) (by omega) dX0_howMany_23 (fun z23 hz23 => ?_)
  have hb23 := hT (4 * w + r2 + 1) (by omega)
  refine lv_istore (lv' := [(6, .int (iN z23)), (5, .int (iN z9)), (0, .ref (ad 0)), (1, .int (iN ((w : Int)))), (2, .int (iN ((r1 : Int)))), (3, .int (iN ((r2 : Int)))), (4, .int (iN kind))]) hx hb dX0_howMany_24 hl (by decide) rfl (fun ls hl => ?_)
  refine lv_iload hx hb dX0_howMany_26 (lv_at hl 6 rfl) ?_
  refine ts_bipush hx hb dX0_howMany_28 (by decide) ?_
  refine ts_icmp_ne (tgt := 39) hx hb (by omega) dX0_howMany_30 (by decide) (fun c30 => ?_) (fun c30 => ?_)
  · skip
    refine ts_iconst hx hb dX0_howMany_39 ?_
    refine lv_istore (lv' := [(7, .int (iN 0)), (6, .int (iN z23)), (5, .int (iN z9)), (0, .ref (ad 0)), (1, .int (iN ((w : Int)))), (2, .int (iN ((r1 : Int)))), (3, .int (iN ((r2 : Int)))), (4, .int (iN kind))]) hx hb dX0_howMany_40 hl (by decide) rfl (fun ls hl => ?_)
    refine lv_iload hx hb dX0_howMany_42 (lv_at hl 2 rfl) ?_
    refine lv_istore (lv' := [(8, .int (iN z9)), (7, .int (iN 0)), (6, .int (iN z23)), (5, .int (iN z9)), (0, .ref (ad 0)), (1, .int (iN ((w : Int)))), (2, .int (iN ((r1 : Int)))), (3, .int (iN ((r2 : Int)))), (4, .int (iN kind))]) hx hb dX0_howMany_44 hl (by decide) rfl (fun ls hl => ?_)
    have cut46 : ∀ (fu : Nat) (n : Int) (i : Int) (hmu : (z23 - i).toNat < fu) (hi : z9 ≤ i ∧ i ≤ z23) (hn : n = sumN (fun i => if g 0 ((g 1 (4 * w + r1)).toNat + i) = kind then 1 else 0) (i - z9).toNat) (hn2 : 0 ≤ n ∧ n ≤ i - z9) (ls : Array Slot) (hl : lv_has ls 9 [(0, .ref (ad 0)), (4, .int (iN kind)), (5, .int (iN z9)), (6, .int (iN z23)), (7, .int (iN n)), (8, .int (iN i))]), W p l e ({ frames := 0, cells := 0, slots := 0, locals := 0 } : Room) s m args below meth c s.heap [] 0 0 (roQ below args s (fun z => (kind = 10 ∧ z = g 1 (4 * w + r2 + 1) - g 1 (4 * w + r1)) ∨ (kind ≠ 10 ∧ z = sumN (fun i => if g 0 ((g 1 (4 * w + r1)).toNat + i) = kind then 1 else 0) (g 1 (4 * w + r2 + 1) - g 1 (4 * w + r1)).toNat))) (F0 m 46 ls []) := by
      intro fu
      induction fu with
      | zero => intro n i hmu; exact absurd hmu (Nat.not_lt_zero _)
      | succ fu ih46 =>
        intro n i hmu hi hn hn2 ls hl
        refine lv_iload hx hb dX0_howMany_46 (lv_at hl 5 rfl) ?_
        refine lv_iload hx hb dX0_howMany_48 (lv_at hl 3 rfl) ?_
        refine ts_icmp_ge (tgt := 74) hx hb (by omega) dX0_howMany_50 (by decide) (fun c50 => ?_) (fun c50 => ?_)
        · skip
          refine lv_iload hx hb dX0_howMany_74 (lv_at hl 4 rfl) ?_
          exact ro_ret cx hr hlocks (Or.inr ⟨by omega, by rw [hn]; congr 1; omega⟩) dX0_howMany_76
        · skip
          refine lv_aload_n hx hb dX0_howMany_53 rfl (lv_at hl 0 rfl) ?_
          refine gm_get0 cx hK hw tl_RX0_9 dX0_howMany_54 ?_
          refine lv_iload hx hb dX0_howMany_57 (lv_at hl 5 rfl) ?_
          refine gm_ld0 cx hK hw ((i).toNat) (by omega) dX0_howMany_59 (fun z59 hz59 => ?_)
          have hb59 := hm2 ((i).toNat) (by omega)
          refine lv_iload hx hb dX0_howMany_60 (lv_at hl 1 rfl) ?_
          refine ts_icmp_ne (tgt := 68) hx hb (by omega) dX0_howMany_62 (by decide) (fun c62 => ?_) (fun c62 => ?_)
          · skip
            have hs := sumN_s (f := fun i => if g 0 ((g 1 (4 * w + r1)).toNat + i) = kind then 1 else 0) (a := (i + 1 - z9).toNat) (b := (i - z9).toNat) (by omega)
            have he : (g 1 (4 * w + r1)).toNat + (i - z9).toNat = i.toNat := by omega
            simp only [he] at hs
            rw [← hz59] at hs
            obtain ⟨z68, hz68⟩ : ∃ z : Int, z = i + 1 := ⟨_, rfl⟩
            refine lv_iinc (v := iN z68) (lv' := [(8, .int (iN z68)), (0, .ref (ad 0)), (4, .int (iN kind)), (5, .int (iN z9)), (6, .int (iN z23)), (7, .int (iN n))]) hx hb dX0_howMany_68 hl (k := 5) rfl (by rw [hz68]; exact iN_add _ _) (by decide) rfl (fun ls hl => ?_)
            have hsn : n = sumN (fun i => if g 0 ((g 1 (4 * w + r1)).toNat + i) = kind then 1 else 0) (z68 - z9).toNat := by
              rw [hz68, hs]
              by_cases hk : z59 = kind
              · rw [if_pos hk]; omega
              · rw [if_neg hk]; omega
            refine lv_goto (tgt := 46) hx hb dX0_howMany_71 (by decide) ?_
            exact ih46 (n) (z68) (by omega) (by omega) (hsn) (by omega) _ (lv_sub hl [1, 2, 3, 4, 5, 0] rfl)
          · skip
            obtain ⟨z65, hz65⟩ : ∃ z : Int, z = n + 1 := ⟨_, rfl⟩
            refine lv_iinc (v := iN z65) (lv' := [(7, .int (iN z65)), (0, .ref (ad 0)), (4, .int (iN kind)), (5, .int (iN z9)), (6, .int (iN z23)), (8, .int (iN i))]) hx hb dX0_howMany_65 hl (k := 4) rfl (by rw [hz65]; exact iN_add _ _) (by decide) rfl (fun ls hl => ?_)
            have hs := sumN_s (f := fun i => if g 0 ((g 1 (4 * w + r1)).toNat + i) = kind then 1 else 0) (a := (i + 1 - z9).toNat) (b := (i - z9).toNat) (by omega)
            have he : (g 1 (4 * w + r1)).toNat + (i - z9).toNat = i.toNat := by omega
            simp only [he] at hs
            rw [← hz59] at hs
            obtain ⟨z68, hz68⟩ : ∃ z : Int, z = i + 1 := ⟨_, rfl⟩
            refine lv_iinc (v := iN z68) (lv' := [(8, .int (iN z68)), (7, .int (iN z65)), (0, .ref (ad 0)), (4, .int (iN kind)), (5, .int (iN z9)), (6, .int (iN z23))]) hx hb dX0_howMany_68 hl (k := 5) rfl (by rw [hz68]; exact iN_add _ _) (by decide) rfl (fun ls hl => ?_)
            have hsn : z65 = sumN (fun i => if g 0 ((g 1 (4 * w + r1)).toNat + i) = kind then 1 else 0) (z68 - z9).toNat := by
              rw [hz68, hs]
              by_cases hk : z59 = kind
              · rw [if_pos hk]; omega
              · rw [if_neg hk]; omega
            refine lv_goto (tgt := 46) hx hb dX0_howMany_71 (by decide) ?_
            exact ih46 (z65) (z68) (by omega) (by omega) (hsn) (by omega) _ (lv_sub hl [2, 3, 4, 5, 1, 0] rfl)
    exact cut46 _ (0) (z9) (Nat.lt_succ_self _) (by omega) (by rw [show (z9 - z9).toNat = 0 by omega]; rfl) (by omega) _ (lv_sub hl [4, 8, 3, 2, 1, 0] rfl)
  · skip
    refine lv_iload hx hb dX0_howMany_33 (lv_at hl 0 rfl) ?_
    refine lv_iload hx hb dX0_howMany_35 (lv_at hl 1 rfl) ?_
    refine ts_isub hx hb dX0_howMany_37 (fun z37 hz37 => ?_)
    exact ro_ret cx hr hlocks (Or.inl ⟨by omega, by omega⟩) dX0_howMany_38
set_option maxHeartbeats 4000000 in
set_option maxRecDepth 100000 in
theorem c_X0_isInRow (l : Launch) (k : Nat) (g : GS) (hk : k < 10) (hn : NX g) : gmRi l yX0_isInRow (wU yX0_isInRow cX0_isInRow 2 (some .boolean)) ({ frames := 0, cells := 0, slots := 0, locals := 0 } : Room) [.int (iN ((k : Int)))] g (fun z => ((k - g 4 10 + 10) % 10 < 6 ∧ z = 1) ∨ (6 ≤ (k - g 4 10 + 10) % 10 ∧ z = 0)) := by
  refine gmRi_of (by decide) (Nat.le_of_ble_eq_true rfl) ?_
  intro p e s m args below meth c D cI tb ad A ls cx hr hlocks hK hA hT hw hl
  have hx := cx.1
  have hb := cx.2.1
  have hl : lv_has ls 2 [(0, .ref (ad 0)), (1, .int (iN ((k : Int))))] := hl
  have hn1 := hn.2.2.2.2.2.2.1
  refine lv_iload_n hx hb dX0_isInRow_0 rfl (lv_at hl 1 rfl) ?_
  refine lv_aload_n hx hb dX0_isInRow_1 rfl (lv_at hl 0 rfl) ?_
  refine gm_get10 cx hK hw tl_RX0_49 dX0_isInRow_2 (fun z2 hz2 => ?_)
  refine ts_isub hx hb dX0_isInRow_5 (fun z5 hz5 => ?_)
  refine ts_bipush hx hb dX0_isInRow_6 (by decide) ?_
  refine ts_iadd hx hb dX0_isInRow_8 (fun z8 hz8 => ?_)
  refine ts_bipush hx hb dX0_isInRow_9 (by decide) ?_
  refine ts_irem hx hb (by omega) dX0_isInRow_11 (fun z11 hz11 => ?_)
  refine ts_bipush hx hb dX0_isInRow_12 (by decide) ?_
  refine ts_icmp_ge (tgt := 21) hx hb (by omega) dX0_isInRow_14 (by decide) (fun c14 => ?_) (fun c14 => ?_)
  · skip
    refine ts_iconst hx hb dX0_isInRow_21 ?_
    exact ro_retz cx hr hlocks (by omega) (by omega) dX0_isInRow_22
  · skip
    refine ts_iconst hx hb dX0_isInRow_17 ?_
    refine lv_goto (tgt := 22) hx hb dX0_isInRow_18 (by decide) ?_
    exact ro_retz cx hr hlocks (by omega) (by omega) dX0_isInRow_22
set_option maxHeartbeats 4000000 in
set_option maxRecDepth 100000 in
theorem c_X0_emptyPiles (l : Launch) (g : GS) (hn : ∀ k : Nat, k < 10 → 0 ≤ g 2 k ∧ g 2 k ≤ 164) : gmRi l yX0_emptyPiles (wU yX0_emptyPiles cX0_emptyPiles 3 (some .int)) ({ frames := 0, cells := 0, slots := 0, locals := 0 } : Room) [] g (fun z => z = sumN (fun k => if g 2 k = 0 then 1 else 0) 10) := by
  refine gmRi_of (by decide) (Nat.le_of_ble_eq_true rfl) ?_
  intro p e s m args below meth c D cI tb ad A ls cx hr hlocks hK hA hT hw hl
  have hx := cx.1
  have hb := cx.2.1
  have hl : lv_has ls 3 [(0, .ref (ad 0))] := hl
  refine ts_iconst hx hb dX0_emptyPiles_0 ?_
  refine lv_istore_n (lv' := [(1, .int (iN 0)), (0, .ref (ad 0))]) hx hb dX0_emptyPiles_1 rfl hl (by decide) rfl (fun ls hl => ?_)
  refine ts_iconst hx hb dX0_emptyPiles_2 ?_
  refine lv_istore_n (lv' := [(2, .int (iN 0)), (1, .int (iN 0)), (0, .ref (ad 0))]) hx hb dX0_emptyPiles_3 rfl hl (by decide) rfl (fun ls hl => ?_)
  have cut4 : ∀ (fu : Nat) (n : Int) (i : Int) (hmu : (10 - i).toNat < fu) (hi : 0 ≤ i ∧ i ≤ 10) (hq : n = sumN (fun k => if g 2 k = 0 then 1 else 0) i.toNat) (hq2 : 0 ≤ n ∧ n ≤ i) (ls : Array Slot) (hl : lv_has ls 3 [(0, .ref (ad 0)), (1, .int (iN n)), (2, .int (iN i))]), W p l e ({ frames := 0, cells := 0, slots := 0, locals := 0 } : Room) s m args below meth c s.heap [] 0 0 (roQ below args s (fun z => z = sumN (fun k => if g 2 k = 0 then 1 else 0) 10)) (F0 m 4 ls []) := by
    intro fu
    induction fu with
    | zero => intro n i hmu; exact absurd hmu (Nat.not_lt_zero _)
    | succ fu ih4 =>
      intro n i hmu hi hq hq2 ls hl
      refine lv_iload_n hx hb dX0_emptyPiles_4 rfl (lv_at hl 2 rfl) ?_
      refine ts_bipush hx hb dX0_emptyPiles_5 (by decide) ?_
      refine ts_icmp_ge (tgt := 28) hx hb (by omega) dX0_emptyPiles_7 (by decide) (fun c7 => ?_) (fun c7 => ?_)
      · skip
        refine lv_iload_n hx hb dX0_emptyPiles_28 rfl (lv_at hl 1 rfl) ?_
        exact ro_ret cx hr hlocks (by rw [hq]; congr 1; omega) dX0_emptyPiles_29
      · skip
        refine lv_aload_n hx hb dX0_emptyPiles_10 rfl (lv_at hl 0 rfl) ?_
        refine gm_get2 cx hK hw tl_RX0_18 dX0_emptyPiles_11 ?_
        refine lv_iload_n hx hb dX0_emptyPiles_14 rfl (lv_at hl 2 rfl) ?_
        refine gm_ld2 cx hK hw ((i).toNat) (by omega) dX0_emptyPiles_15 (fun z15 hz15 => ?_)
        have hb15 := hn ((i).toNat) (by omega)
        refine ts_if_gt (tgt := 22) hx hb (by omega) dX0_emptyPiles_16 (by decide) (fun c16 => ?_) (fun c16 => ?_)
        · skip
          have hs := sumN_s (f := fun k => if g 2 k = 0 then 1 else 0) (a := (i + 1).toNat) (b := i.toNat) (by omega)
          rw [← hz15] at hs
          obtain ⟨z22, hz22⟩ : ∃ z : Int, z = i + 1 := ⟨_, rfl⟩
          refine lv_iinc (v := iN z22) (lv' := [(2, .int (iN z22)), (0, .ref (ad 0)), (1, .int (iN n))]) hx hb dX0_emptyPiles_22 hl (k := 2) rfl (by rw [hz22]; exact iN_add _ _) (by decide) rfl (fun ls hl => ?_)
          have hsn : n = sumN (fun k => if g 2 k = 0 then 1 else 0) z22.toNat := by
            rw [hz22, hs]
            by_cases hk : z15 = 0
            · rw [if_pos hk]; omega
            · rw [if_neg hk]; omega
          refine lv_goto (tgt := 4) hx hb dX0_emptyPiles_25 (by decide) ?_
          exact ih4 (n) (z22) (by omega) (by omega) (hsn) (by omega) _ (lv_sub hl [1, 2, 0] rfl)
        · skip
          obtain ⟨z19, hz19⟩ : ∃ z : Int, z = n + 1 := ⟨_, rfl⟩
          refine lv_iinc (v := iN z19) (lv' := [(1, .int (iN z19)), (0, .ref (ad 0)), (2, .int (iN i))]) hx hb dX0_emptyPiles_19 hl (k := 1) rfl (by rw [hz19]; exact iN_add _ _) (by decide) rfl (fun ls hl => ?_)
          have hs := sumN_s (f := fun k => if g 2 k = 0 then 1 else 0) (a := (i + 1).toNat) (b := i.toNat) (by omega)
          rw [← hz15] at hs
          obtain ⟨z22, hz22⟩ : ∃ z : Int, z = i + 1 := ⟨_, rfl⟩
          refine lv_iinc (v := iN z22) (lv' := [(2, .int (iN z22)), (1, .int (iN z19)), (0, .ref (ad 0))]) hx hb dX0_emptyPiles_22 hl (k := 2) rfl (by rw [hz22]; exact iN_add _ _) (by decide) rfl (fun ls hl => ?_)
          have hsn : z19 = sumN (fun k => if g 2 k = 0 then 1 else 0) z22.toNat := by
            rw [hz22, hs]
            by_cases hk : z15 = 0
            · rw [if_pos hk]; omega
            · rw [if_neg hk]; omega
          refine lv_goto (tgt := 4) hx hb dX0_emptyPiles_25 (by decide) ?_
          exact ih4 (z19) (z22) (by omega) (by omega) (hsn) (by omega) _ (lv_sub hl [2, 1, 0] rfl)
  exact cut4 _ (0) (0) (Nat.lt_succ_self _) (by omega) (by rfl) (by omega) _ (lv_sub hl [2, 1, 0] rfl)
end
section
/-! what a state of the game is: 30 numbers (players, player, coins, buys, actions, scraps, first of the row, ended turns, over, setting, piles, scrapped), and each player's four lists (0 deck, 1 hand, 2 played, 3 discards) -/
abbrev SCT : Type := Nat → Int
abbrev LLT : Type := Nat → Nat → List Int
abbrev StT : Type := (Nat → Int) × (Nat → Nat → List Int)
def ul (L : LLT) (p w : Nat) (x : List Int) : LLT := fun p' w' => if p' = p ∧ w' = w then x else L p' w'
theorem ul_s (L : LLT) (p w : Nat) (x : List Int) : ul L p w x p w = x := if_pos ⟨rfl, rfl⟩
theorem ul_p (L : LLT) {p w p' w' : Nat} (x : List Int) (h : p' ≠ p) : ul L p w x p' w' = L p' w' := if_neg fun q => h q.1
theorem ul_w (L : LLT) {p w p' w' : Nat} (x : List Int) (h : w' ≠ w) : ul L p w x p' w' = L p' w' := if_neg fun q => h q.2
def pl (S : StT) : Nat := (S.1 1).toNat
def hand (S : StT) : List Int := S.2 (pl S) 1
def why (sc : SCT) (k : Nat) : Int := if sc 8 = 1 then 1 else if ¬ ((k : Int) - sc 6 + 10) % 10 < 6 then 2 else if sc (10 + k) = 0 then 3 else if sc 3 = 0 then 4 else if sc 2 < tv 0 k then 5 else 0
def mvL (L : LLT) (p w k w' : Nat) : LLT := ul (ul L p w ((L p w).eraseIdx k)) p w' (L p w' ++ [(L p w).getD k 0])
def flipL (L : LLT) (p : Nat) : LLT := if L p 0 = [] then ul (ul L p 0 (L p 3)) p 3 [] else L
def dr1 (L : LLT) (p : Nat) : LLT := if (flipL L p) p 0 = [] then flipL L p else mvL (flipL L p) p 0 0 1
def dr : Nat → LLT → Nat → LLT
  | 0, L, _ => L
  | n + 1, L, p => dr n (dr1 L p) p
def buS (sc : SCT) (k : Nat) : SCT := uf (uf (uf sc 2 (sc 2 - tv 0 k)) 3 (sc 3 - 1)) (10 + k) (sc (10 + k) - 1)
def buyA (S : StT) (k : Nat) : StT := (buS S.1 k, ul S.2 (pl S) 3 (S.2 (pl S) 3 ++ [(k : Int)]))
def scrA (S : StT) (i : Nat) : StT := (uf (uf S.1 5 (S.1 5 - 1)) (20 + ((hand S).getD i 0).toNat) (S.1 (20 + ((hand S).getD i 0).toNat) + 1), ul S.2 (pl S) 1 ((hand S).eraseIdx i))
def cu1 (c : Int × LLT) (p : Nat) : Int × LLT := if 0 < c.1 then (c.1 - 1, ul c.2 p 3 (c.2 p 3 ++ [5])) else c
/-- n players behind the player a of np players get a curse -/
def cuN (a np : Int) : Nat → Int × LLT → Int × LLT
  | 0, c => c
  | n + 1, c => cu1 (cuN a np n c) ((a + ((n : Int) + 1)) % np).toNat
def plS (sc : SCT) (k : Nat) (c : Int) : SCT := fun j => if j = 2 then sc 2 + tv 1 k else if j = 3 then sc 3 + tv 3 k else if j = 4 then sc 4 - (if 6 ≤ k then 1 else 0) + tv 4 k else if j = 5 then sc 5 + tv 6 k else if j = 15 then c else sc j
def plC (S : StT) (i k : Nat) : Int × LLT := if k = 6 then cuN (S.1 1) (S.1 0) (S.1 0 - 1).toNat (S.1 15, dr (tv 2 k).toNat (mvL S.2 (pl S) 1 i 2) (pl S)) else (S.1 15, dr (tv 2 k).toNat (mvL S.2 (pl S) 1 i 2) (pl S))
def playA (S : StT) (i : Nat) : StT := (plS S.1 ((hand S).getD i 0).toNat (plC S i ((hand S).getD i 0).toNat).1, (plC S i ((hand S).getD i 0).toNat).2)
def emp (sc : SCT) : Int := sumN (fun k => if sc (10 + k) = 0 then 1 else 0) 10
def enL (L : LLT) (p : Nat) : LLT := ul (ul (ul L p 3 (L p 3 ++ L p 1 ++ L p 2)) p 1 []) p 2 []
def enS (sc : SCT) : SCT := fun j => if j = 1 then (sc 1 + 1) % sc 0 else if j = 2 then 0 else if j = 3 then 1 else if j = 4 then 1 else if j = 5 then 0 else if j = 6 then (sc 6 + sc 9) % 10 else if j = 7 then sc 7 + 1 else if j = 8 then (if sc 14 = 0 ∨ 3 ≤ emp sc then 1 else 0) else sc j
def endA (S : StT) : StT := (enS S.1, dr 5 (enL S.2 (pl S)) (pl S))
def beS (sc : SCT) (np : Int) : SCT := fun j => if j = 0 then np else if j = 3 then 1 else if j = 4 then 1 else if j = 9 then sc 9 else if j = 10 then 60 - 7 * np else if j = 13 then 24 - 3 * np else if 10 ≤ j ∧ j < 20 then tv 8 (j - 10) else 0
def beL (np : Int) : LLT := fun p w => if (p : Int) < np then (if w = 0 then [3, 0, 0, 3, 0] else if w = 1 then [0, 0, 3, 0, 0] else []) else []
def begA (S : StT) (np : Int) : StT := (beS S.1 np, beL np)
/-- the place of the first one between lo and hi, or -1 -/
def ffst (lo hi : Int) : List Int → Int
  | [] => -1
  | a :: t => if lo ≤ a ∧ a ≤ hi then 0 else if ffst lo hi t < 0 then -1 else ffst lo hi t + 1
def dearN (sc : SCT) : Nat → Int
  | 0 => -1
  | n + 1 => if 0 < tv 0 n ∧ why sc n = 0 ∧ (dearN sc n < 0 ∨ tv 0 (dearN sc n).toNat ≤ tv 0 n) then (n : Int) else dearN sc n
def setN (sc : SCT) : Nat → Int
  | 0 => 0
  | n + 1 => setN sc n + (if why sc n = 0 then 2 ^ n else 0)
def goA : Nat → StT → StT
  | 0, S => S
  | n + 1, S => if 0 < S.1 4 ∧ 0 ≤ ffst 6 9 (hand S) then goA n (playA S (ffst 6 9 (hand S)).toNat) else S
def goF : Nat → StT → StT
  | 0, S => S
  | n + 1, S => if 0 ≤ ffst 0 2 (hand S) then goF n (playA S (ffst 0 2 (hand S)).toNat) else S
def goB : Nat → StT → StT
  | 0, S => S
  | n + 1, S => if 0 ≤ dearN S.1 10 then goB n (buyA S (dearN S.1 10).toNat) else S
def turnA (S : StT) : StT := endA (goB 164 (goF 164 (goA 164 S)))
def goesA : Nat → StT → Int × StT
  | 0, S => (0, S)
  | n + 1, S => if S.1 8 = 1 then (0, S) else ((goesA n (turnA S)).1 + 1, (goesA n (turnA S)).2)
def lsum (f : Int → Int) : List Int → Int
  | [] => 0
  | a :: t => f a + lsum f t
def ptA (L : LLT) (p : Nat) : Int := lsum (fun x => tv 7 x.toNat) (L p 0) + lsum (fun x => tv 7 x.toNat) (L p 3) + lsum (fun x => tv 7 x.toNat) (L p 1) + lsum (fun x => tv 7 x.toNat) (L p 2)
def leadN (L : LLT) : Nat → Nat
  | 0 => 0
  | n + 1 => if ptA L (leadN L n) < ptA L (n + 1) then n + 1 else leadN L n
/-- the picture: a Game's parts, in the order deck, discards, hand, played -/
def wx (r : Nat) : Nat := if r = 0 then 0 else if r = 1 then 3 else r - 1
def lx (L : LLT) (r : Nat) : List Int := L (r / 4) (wx (r % 4))
def PX (g : GS) (LX : Nat → List Int) : Prop := g 1 0 = 0 ∧ (∀ r : Nat, r < 16 → g 1 (r + 1) = g 1 r + ((LX r).length : Int)) ∧ (∀ r : Nat, r < 16 → ∀ k : Nat, k < (LX r).length → g 0 ((g 1 r).toNat + k) = (LX r).getD k 0) ∧ g 1 16 ≤ 164
def RS (g : GS) (sc : SCT) : Prop := g 4 4 = sc 0 ∧ g 4 5 = sc 1 ∧ g 4 6 = sc 2 ∧ g 4 7 = sc 3 ∧ g 4 8 = sc 4 ∧ g 4 9 = sc 5 ∧ g 4 10 = sc 6 ∧ g 4 11 = sc 9 ∧ g 4 12 = sc 7 ∧ g 4 13 = sc 8 ∧ (∀ k : Nat, k < 10 → g 2 k = sc (10 + k)) ∧ (∀ k : Nat, k < 10 → g 3 k = sc (20 + k))
def RX (g : GS) (S : StT) : Prop := RS g S.1 ∧ PX g (lx S.2)
theorem PX_M {g : GS} {LX : Nat → List Int} (h : PX g LX) : MX g := ⟨h.1, fun r hr => by rw [h.2.1 r hr]; omega, h.2.2.2⟩
/-- a part of the cards lies between borders -/
theorem PX_find {g : GS} {LX : Nat → List Int} (h : PX g LX) {j : Nat} : ∀ {r : Nat}, r ≤ 16 → (j : Int) < g 1 r → ∃ r0 k : Nat, r0 < r ∧ k < (LX r0).length ∧ (j : Int) = g 1 r0 + k
  | 0, _, hj => by rw [h.1] at hj; omega
  | r + 1, hr, hj => by
    by_cases h2 : (j : Int) < g 1 r
    · obtain ⟨r0, k, h3, h4⟩ := PX_find h (r := r) (by omega) h2
      exact ⟨r0, k, by omega, h4⟩
    · have h3 := h.2.1 r (by omega)
      have h4 := MX_b (PX_M h) r (by omega)
      exact ⟨r, (j - (g 1 r).toNat : Nat), by omega, by omega, by omega⟩
def kindsOk (LX : Nat → List Int) : Prop := ∀ r : Nat, r < 16 → ∀ k : Nat, k < (LX r).length → 0 ≤ (LX r).getD k 0 ∧ (LX r).getD k 0 ≤ 9
theorem PX_K {g : GS} {LX : Nat → List Int} (h : PX g LX) (hk : kindsOk LX) : KX g := fun j hj => by
  obtain ⟨r, k, h1, h2, h3⟩ := PX_find h (Nat.le_refl 16) hj
  have h4 := MX_b (PX_M h) r (by omega)
  have h5 := h.2.2.1 r h1 k h2
  have h6 := hk r h1 k h2
  rw [show (g 1 r).toNat + k = j by omega] at h5
  omega
theorem sumN_lsum (f : Int → Int) : ∀ (l : List Int) (h : Nat → Int), (∀ k, k < l.length → h k = l.getD k 0) → sumN (fun i => f (h i)) l.length = lsum f l
  | [], h, _ => rfl
  | a :: t, h, e => by
    have h1 := sumN_add (fun i => f (h i)) 1 t.length
    have h2 := sumN_lsum f t (fun i => h (1 + i)) (fun k hk => by
      have := e (1 + k) (by simp only [List.length_cons]; omega)
      rw [this, Nat.add_comm 1 k]
      rfl)
    have h3 : (a :: t).length = 1 + t.length := by simp only [List.length_cons]; omega
    rw [h3, h1]
    show sumN (fun i => f (h i)) 1 + sumN (fun i => f (h (1 + i))) t.length = f a + lsum f t
    rw [h2]
    have h4 : h 0 = a := e 0 (by simp)
    show 0 + f (h 0) + lsum f t = _
    rw [h4]
    omega
/-- the sum over one part, and over parts one behind another -/
theorem PX_sum1 {g : GS} {LX : Nat → List Int} (h : PX g LX) (f : Int → Int) (r : Nat) (hr : r < 16) : sumN (fun i => f (g 0 ((g 1 r).toNat + i))) (g 1 (r + 1) - g 1 r).toNat = lsum f (LX r) := by
  have h1 := h.2.1 r hr
  rw [show (g 1 (r + 1) - g 1 r).toNat = (LX r).length by omega]
  exact sumN_lsum f (LX r) (fun i => g 0 ((g 1 r).toNat + i)) (h.2.2.1 r hr)
theorem PX_sum2 {g : GS} {LX : Nat → List Int} (h : PX g LX) (f : Int → Int) (r a : Nat) (hr : r + 1 < 17) (ha : a ≤ r) : sumN (fun i => f (g 0 ((g 1 a).toNat + i))) (g 1 (r + 1) - g 1 a).toNat = sumN (fun i => f (g 0 ((g 1 a).toNat + i))) (g 1 r - g 1 a).toNat + lsum f (LX r) := by
  have h1 := MX_b (PX_M h) a (by omega)
  have h2 := MX_b (PX_M h) r (by omega)
  have h3 := MX_le (PX_M h) (a := a) (b := r) ha (by omega)
  have h4 := MX_le (PX_M h) (a := r) (b := r + 1) (by omega) (by omega)
  have h5 := PX_sum1 h f r (by omega)
  rw [show (g 1 (r + 1) - g 1 a).toNat = (g 1 r - g 1 a).toNat + (g 1 (r + 1) - g 1 r).toNat by omega, sumN_add, ← h5]
  congr 1
  apply sumN_congr
  intro i _
  show f (g 0 ((g 1 a).toNat + ((g 1 r - g 1 a).toNat + i))) = f (g 0 ((g 1 r).toNat + i))
  rw [show (g 1 a).toNat + ((g 1 r - g 1 a).toNat + i) = (g 1 r).toNat + i by omega]
theorem PX_sum4 {g : GS} {L : LLT} (h : PX g (lx L)) (f : Int → Int) (p : Nat) (hp : p < 4) : sumN (fun i => f (g 0 ((g 1 (4 * p)).toNat + i))) (g 1 (4 * p + 3 + 1) - g 1 (4 * p)).toNat = lsum f (L p 0) + lsum f (L p 3) + lsum f (L p 1) + lsum f (L p 2) := by
  have e : ∀ r : Nat, r < 4 → lx L (4 * p + r) = L p (wx r) := fun r hr => by
    unfold lx
    rw [show (4 * p + r) / 4 = p by omega, show (4 * p + r) % 4 = r by omega]
  rw [PX_sum2 h f (4 * p + 3) (4 * p) (by omega) (by omega), PX_sum2 h f (4 * p + 2) (4 * p) (by omega) (by omega), PX_sum2 h f (4 * p + 1) (4 * p) (by omega) (by omega), PX_sum1 h f (4 * p) (by omega), e 3 (by omega), e 2 (by omega), e 1 (by omega)]
  have e0 := e 0 (by omega)
  rw [Nat.add_zero] at e0
  rw [e0]
  rfl
theorem ffst_spec (lo hi : Int) : ∀ (l : List Int), (ffst lo hi l = -1 ∧ ∀ k, k < l.length → ¬ (lo ≤ l.getD k 0 ∧ l.getD k 0 ≤ hi)) ∨ (∃ k : Nat, ffst lo hi l = (k : Int) ∧ k < l.length ∧ (lo ≤ l.getD k 0 ∧ l.getD k 0 ≤ hi) ∧ ∀ j, j < k → ¬ (lo ≤ l.getD j 0 ∧ l.getD j 0 ≤ hi))
  | [] => Or.inl ⟨rfl, fun k hk => by simp at hk⟩
  | a :: t => by
    by_cases h : lo ≤ a ∧ a ≤ hi
    · exact Or.inr ⟨0, by simp only [ffst, if_pos h]; rfl, by simp, h, fun j hj => by omega⟩
    · rcases ffst_spec lo hi t with ⟨h1, h2⟩ | ⟨k, h1, h2, h3, h4⟩
      · refine Or.inl ⟨by simp only [ffst, if_neg h, h1]; rfl, fun k hk => ?_⟩
        cases k with
        | zero => exact h
        | succ k => exact h2 k (by simp only [List.length_cons] at hk; omega)
      · refine Or.inr ⟨k + 1, by simp only [ffst, if_neg h, h1]; rw [if_neg (by omega)]; omega, by simp only [List.length_cons]; omega, h3, fun j hj => ?_⟩
        cases j with
        | zero => exact h
        | succ j => exact h4 j (by omega)
theorem ffst_none {lo hi : Int} {l : List Int} (h : ∀ k, k < l.length → ¬ (lo ≤ l.getD k 0 ∧ l.getD k 0 ≤ hi)) : ffst lo hi l = -1 := by
  rcases ffst_spec lo hi l with ⟨h1, -⟩ | ⟨k, -, h2, h3, -⟩
  · exact h1
  · exact absurd h3 (h k h2)
theorem ffst_at {lo hi : Int} {l : List Int} {k : Nat} (hk : k < l.length) (h : lo ≤ l.getD k 0 ∧ l.getD k 0 ≤ hi) (hn : ∀ j, j < k → ¬ (lo ≤ l.getD j 0 ∧ l.getD j 0 ≤ hi)) : ffst lo hi l = (k : Int) := by
  rcases ffst_spec lo hi l with ⟨-, h1⟩ | ⟨k2, h1, h2, h3, h4⟩
  · exact absurd h (h1 k hk)
  · rw [h1]
    rcases Nat.lt_trichotomy k k2 with q | q | q
    · exact absurd h (h4 k q)
    · rw [q]
    · exact absurd h3 (hn k2 q)
theorem setN_b (sc : SCT) : ∀ n : Nat, 0 ≤ setN sc n ∧ setN sc n < 2 ^ n
  | 0 => ⟨Int.le_refl _, by show (0 : Int) < 2 ^ 0; decide⟩
  | n + 1 => by
    have h := setN_b sc n
    have h2 : (2 : Int) ^ (n + 1) = 2 ^ n * 2 := Int.pow_succ 2 n
    show 0 ≤ setN sc n + _ ∧ setN sc n + _ < _
    rw [h2]
    by_cases hw : why sc n = 0
    · rw [if_pos hw]; omega
    · rw [if_neg hw]; omega
theorem dearN_b (sc : SCT) : ∀ n : Nat, -1 ≤ dearN sc n ∧ dearN sc n < n ∧ (0 ≤ dearN sc n → 0 < tv 0 (dearN sc n).toNat ∧ why sc (dearN sc n).toNat = 0)
  | 0 => ⟨Int.le_refl _, by show (-1 : Int) < ((0 : Nat) : Int); decide, fun h => absurd (show (0 : Int) ≤ -1 from h) (by decide)⟩
  | n + 1 => by
    have h := dearN_b sc n
    unfold dearN
    by_cases hc : 0 < tv 0 n ∧ why sc n = 0 ∧ (dearN sc n < 0 ∨ tv 0 (dearN sc n).toNat ≤ tv 0 n)
    · rw [if_pos hc]
      exact ⟨by omega, by omega, fun _ => by rw [Int.toNat_natCast]; exact ⟨hc.1, hc.2.1⟩⟩
    · rw [if_neg hc]
      exact ⟨h.1, by omega, h.2.2⟩
end
section
/-! bits of a set -/
theorem setb_or : ∀ k : Fin 10, ∀ s : Fin 1024, s.1 < 2 ^ k.1 → iN (s.1 : Int) ||| iN ((2 ^ k.1 : Nat) : Int) = iN (((s.1 + 2 ^ k.1 : Nat)) : Int) := by decide +kernel
theorem setb_shl : ∀ k : Fin 10, iN 1 <<< (iN (k.1 : Int) &&& 31) = iN ((2 ^ k.1 : Nat) : Int) := by decide +kernel
section SETB
variable {p : Program} {l : Launch} {e : Env} {R : Room} {s : State} {m : MethodId} {args : Array Value} {below : List Frame} {meth : Method} {c : Code} {H : Heap} {locs : List Loc} {cells slots : Nat} {Q : State → Prop}
variable {cc : ByteArray} {pc : Nat} {ls : Array Slot} {rest : List Value}
theorem ts_ishl (hx : p.tables.exec = Jvm.exec) (hb : c.code = cc) {a : Int} (k : Nat) (hk : a = (k : Int) ∧ k < 10) (hdg : decode cc pc = .ok (.ishl, 1)) (kk : ∀ z : Int, z = 2 ^ k → W p l e R s m args below meth c H locs cells slots Q (F0 m (pc + 1) ls (.int (iN z) :: rest))) : W p l e R s m args below meth c H locs cells slots Q (F0 m pc ls (.int (iN a) :: .int (iN 1) :: rest)) := by
  obtain ⟨rfl, hk⟩ := hk
  refine lv_ishl hx hb hdg ?_
  rw [setb_shl ⟨k, hk⟩]
  exact kk _ (by rw [Int.natCast_pow]; rfl)
theorem ts_ior (hx : p.tables.exec = Jvm.exec) (hb : c.code = cc) {a b : Int} (hk : ∃ k : Nat, k < 10 ∧ b = 2 ^ k ∧ 0 ≤ a ∧ a < 2 ^ k) (hdg : decode cc pc = .ok (.ior, 1)) (kk : ∀ z : Int, z = a + b → W p l e R s m args below meth c H locs cells slots Q (F0 m (pc + 1) ls (.int (iN z) :: rest))) : W p l e R s m args below meth c H locs cells slots Q (F0 m pc ls (.int (iN b) :: .int (iN a) :: rest)) := by
  obtain ⟨k, hk, rfl, h0, h1⟩ := hk
  refine lv_ior hx hb hdg ?_
  have e2 : (2 : Int) ^ k = ((2 ^ k : Nat) : Int) := by rw [Int.natCast_pow]; rfl
  have h2 : 2 ^ k ≤ 2 ^ 9 := Nat.pow_le_pow_right (by omega) (by omega)
  rw [e2] at h1 kk ⊢
  have h3 := setb_or ⟨k, hk⟩ ⟨a.toNat, by omega⟩ (by show a.toNat < 2 ^ k; omega)
  have h4 : ((a.toNat : Nat) : Int) = a := by omega
  have h5 : ((a.toNat + 2 ^ k : Nat) : Int) = a + ((2 ^ k : Nat) : Int) := by omega
  simp only [h4, h5] at h3
  rw [h3]
  exact kk _ rfl
end SETB
theorem NX_13 {g : GS} {sc : SCT} (hs : RS g sc) (hn : NX g) : (sc 8 = 0 ∨ sc 8 = 1) ∧ (0 ≤ sc 6 ∧ sc 6 ≤ 9) ∧ (0 ≤ sc 3 ∧ sc 3 ≤ 1000) ∧ (0 ≤ sc 2 ∧ sc 2 ≤ 1000) ∧ (0 ≤ sc 4 ∧ sc 4 ≤ 1000) ∧ (2 ≤ sc 0 ∧ sc 0 ≤ 4) ∧ (0 ≤ sc 1 ∧ sc 1 < sc 0) := by
  obtain ⟨h0, h1, h2, h3, h4, h5, h6, h9, h7, h8, -, -⟩ := hs
  obtain ⟨n0, n1, n2, n3, n4, n5, n6, n9, n8, -, -⟩ := hn
  omega
set_option maxHeartbeats 4000000 in
set_option maxRecDepth 100000 in
theorem c_X0_sumOf (l : Launch) (t w r1 r2 : Nat) (g : GS) (ht : t < 10) (hw0 : w < 4) (hr0 : r1 ≤ r2 ∧ r2 < 4) (hm : MX g) (hm2 : KX g) : gmRt l yX0_sumOf (wU yX0_sumOf cX0_sumOf 8 (some .int)) ({ frames := 0, cells := 0, slots := 0, locals := 0 } : Room) (fun tb => [.int (iN ((w : Int))), .int (iN ((r1 : Int))), .int (iN ((r2 : Int))), .ref (tb t)]) g (fun z => z = sumN (fun i => tv t (g 0 ((g 1 (4 * w + r1)).toNat + i)).toNat) (g 1 (4 * w + r2 + 1) - g 1 (4 * w + r1)).toNat) := by
  refine gmRt_of (by decide) (fun _ => Nat.le_of_ble_eq_true rfl) ?_
  intro p e s m args below meth c D cI tb ad A ls cx hr hlocks hK hA hT hw hl
  have hx := cx.1
  have hb := cx.2.1
  have hl : lv_has ls 8 [(0, .ref (ad 0)), (1, .int (iN ((w : Int)))), (2, .int (iN ((r1 : Int)))), (3, .int (iN ((r2 : Int)))), (4, .ref (tb t))] := hl
  have hT2 := MX_b hm
  have hq := MX_le hm (a := 4 * w + r2 + 1) (b := 16) (by omega) (by omega)
  have hq2 := MX_le hm (a := 4 * w + r1) (b := 4 * w + r2 + 1) (by omega) (by omega)
  refine lv_aload_n hx hb dX0_sumOf_0 rfl (lv_at hl 0 rfl) ?_
  refine gm_get1 cx hK hw tl_RX0_15 dX0_sumOf_1 ?_
  refine lv_iload_n hx hb dX0_sumOf_4 rfl (lv_at hl 1 rfl) ?_
  refine ts_iconst hx hb dX0_sumOf_5 ?_
  refine ts_imul hx hb dX0_sumOf_6 (fun z6 hz6 => ?_)
  refine lv_iload_n hx hb dX0_sumOf_7 rfl (lv_at hl 3 rfl) ?_
  refine ts_iadd hx hb dX0_sumOf_8 (fun z8 hz8 => ?_)
  refine ts_iconst hx hb dX0_sumOf_9 ?_
  refine ts_iadd hx hb dX0_sumOf_10 (fun z10 hz10 => ?_)
  refine gm_ld1 cx hK hw (4 * w + r2 + 1) (by omega) dX0_sumOf_11 (fun z11 hz11 => ?_)
  have hb11 := hT2 (4 * w + r2 + 1) (by omega)
  refine lv_istore (lv' := [(5, .int (iN z11)), (0, .ref (ad 0)), (1, .int (iN ((w : Int)))), (2, .int (iN ((r1 : Int)))), (3, .int (iN ((r2 : Int)))), (4, .ref (tb t))]) hx hb dX0_sumOf_12 hl (by decide) rfl (fun ls hl => ?_)
  refine ts_iconst hx hb dX0_sumOf_14 ?_
  refine lv_istore (lv' := [(6, .int (iN 0)), (5, .int (iN z11)), (0, .ref (ad 0)), (1, .int (iN ((w : Int)))), (2, .int (iN ((r1 : Int)))), (3, .int (iN ((r2 : Int)))), (4, .ref (tb t))]) hx hb dX0_sumOf_15 hl (by decide) rfl (fun ls hl => ?_)
  refine lv_aload_n hx hb dX0_sumOf_17 rfl (lv_at hl 2 rfl) ?_
  refine gm_get1 cx hK hw tl_RX0_15 dX0_sumOf_18 ?_
  refine lv_iload_n hx hb dX0_sumOf_21 rfl (lv_at hl 3 rfl) ?_
  refine ts_iconst hx hb dX0_sumOf_22 ?_
  refine ts_imul hx hb dX0_sumOf_23 (fun z23 hz23 => ?_)
  refine lv_iload_n hx hb dX0_sumOf_24 rfl (lv_at hl 4 rfl) ?_
  refine ts_iadd hx hb dX0_sumOf_25 (fun z25 hz25 => ?_)
  refine gm_ld1 cx hK hw (4 * w + r1) (by omega) dX0_sumOf_26 (fun z26 hz26 => ?_)
  have hb26 := hT2 (4 * w + r1) (by omega)
  refine lv_istore (lv' := [(7, .int (iN z26)), (6, .int (iN 0)), (5, .int (iN z11)), (0, .ref (ad 0)), (1, .int (iN ((w : Int)))), (2, .int (iN ((r1 : Int)))), (3, .int (iN ((r2 : Int)))), (4, .ref (tb t))]) hx hb dX0_sumOf_27 hl (by decide) rfl (fun ls hl => ?_)
  have cut29 : ∀ (fu : Nat) (n : Int) (i : Int) (hmu : (z11 - i).toNat < fu) (hi : z26 ≤ i ∧ i ≤ z11) (hn : n = sumN (fun i => tv t (g 0 ((g 1 (4 * w + r1)).toNat + i)).toNat) (i - z26).toNat) (ls : Array Slot) (hl : lv_has ls 8 [(0, .ref (ad 0)), (4, .ref (tb t)), (5, .int (iN z11)), (6, .int (iN n)), (7, .int (iN i))]), W p l e ({ frames := 0, cells := 0, slots := 0, locals := 0 } : Room) s m args below meth c s.heap [] 0 0 (roQ below args s (fun z => z = sumN (fun i => tv t (g 0 ((g 1 (4 * w + r1)).toNat + i)).toNat) (g 1 (4 * w + r2 + 1) - g 1 (4 * w + r1)).toNat)) (F0 m 29 ls []) := by
    intro fu
    induction fu with
    | zero => intro n i hmu; exact absurd hmu (Nat.not_lt_zero _)
    | succ fu ih29 =>
      intro n i hmu hi hn ls hl
      refine lv_iload hx hb dX0_sumOf_29 (lv_at hl 4 rfl) ?_
      refine lv_iload hx hb dX0_sumOf_31 (lv_at hl 2 rfl) ?_
      refine ts_icmp_ge (tgt := 57) hx hb (by omega) dX0_sumOf_33 (by decide) (fun c33 => ?_) (fun c33 => ?_)
      · skip
        refine lv_iload hx hb dX0_sumOf_57 (lv_at hl 3 rfl) ?_
        exact ro_ret cx hr hlocks (by rw [hn]; congr 1; omega) dX0_sumOf_59
      · skip
        refine lv_iload hx hb dX0_sumOf_36 (lv_at hl 3 rfl) ?_
        refine lv_aload hx hb dX0_sumOf_38 (lv_at hl 1 rfl) ?_
        refine lv_aload_n hx hb dX0_sumOf_40 rfl (lv_at hl 0 rfl) ?_
        refine gm_get0 cx hK hw tl_RX0_9 dX0_sumOf_41 ?_
        refine lv_iload hx hb dX0_sumOf_44 (lv_at hl 4 rfl) ?_
        refine gm_ld0 cx hK hw ((i).toNat) (by omega) dX0_sumOf_46 (fun z46 hz46 => ?_)
        have hb46 := hm2 ((i).toNat) (by omega)
        refine tt_ld hx hb hT hw.2.2 t (ht) ((z46).toNat) (by omega) dX0_sumOf_47 (fun z47 hz47 => ?_)
        have hb47 := tv_b t ((z46).toNat)
        refine ts_iadd hx hb dX0_sumOf_48 (fun z48 hz48 => ?_)
        refine lv_istore (lv' := [(6, .int (iN z48)), (0, .ref (ad 0)), (4, .ref (tb t)), (5, .int (iN z11)), (7, .int (iN i))]) hx hb dX0_sumOf_49 hl (by decide) rfl (fun ls hl => ?_)
        have hs := sumN_s (f := fun i => tv t (g 0 ((g 1 (4 * w + r1)).toNat + i)).toNat) (a := (i + 1 - z26).toNat) (b := (i - z26).toNat) (by omega)
        have he : (g 1 (4 * w + r1)).toNat + (i - z26).toNat = i.toNat := by omega
        simp only [he] at hs
        rw [← hz46] at hs
        obtain ⟨z51, hz51⟩ : ∃ z : Int, z = i + 1 := ⟨_, rfl⟩
        refine lv_iinc (v := iN z51) (lv' := [(7, .int (iN z51)), (6, .int (iN z48)), (0, .ref (ad 0)), (4, .ref (tb t)), (5, .int (iN z11))]) hx hb dX0_sumOf_51 hl (k := 4) rfl (by rw [hz51]; exact iN_add _ _) (by decide) rfl (fun ls hl => ?_)
        have hsn : z48 = sumN (fun i => tv t (g 0 ((g 1 (4 * w + r1)).toNat + i)).toNat) (z51 - z26).toNat := by rw [hz51, hs]; omega
        refine lv_goto (tgt := 29) hx hb dX0_sumOf_54 (by decide) ?_
        exact ih29 (z48) (z51) (by omega) (by omega) (hsn) _ (lv_sub hl [2, 3, 4, 1, 0] rfl)
  exact cut29 _ (0) (z26) (Nat.lt_succ_self _) (by omega) (by rw [show (z26 - z26).toNat = 0 by omega]; rfl) _ (lv_sub hl [3, 7, 2, 1, 0] rfl)
set_option maxHeartbeats 4000000 in
set_option maxRecDepth 100000 in
theorem c_X0_whyNotBought (l : Launch) (k : Nat) (g : GS) (sc : SCT) (hk : k < 10) (hs : RS g sc) (hn : NX g) : gmRi l yX0_whyNotBought (wU yX0_whyNotBought cX0_whyNotBought 2 (some .int)) ({ frames := 1, cells := 0, slots := 0, locals := 21 } : Room) [.int (iN ((k : Int)))] g (fun z => z = why sc k) := by
  refine gmRi_of (by decide) (Nat.le_of_ble_eq_true rfl) ?_
  intro p e s m args below meth c D cI tb ad A ls cx hr hlocks hK hA hT hw hl
  have hx := cx.1
  have hb := cx.2.1
  have hl : lv_has ls 2 [(0, .ref (ad 0)), (1, .int (iN ((k : Int))))] := hl
  have hn1 := NX_13 hs hn
  obtain ⟨h0, h1, h2, h3, h4, h5, h6, h9, h7, h8, hp, -⟩ := id hs
  have hpk := hp k hk
  have hpb := hn.2.2.2.2.2.2.2.2.2.1 k hk
  have htv := tv_b 0 k
  refine lv_aload_n hx hb dX0_whyNotBought_0 rfl (lv_at hl 0 rfl) ?_
  refine gm_get13 cx hK hw tl_RX0_58 dX0_whyNotBought_1 (fun z1 hz1 => ?_)
  refine ts_if_eq (tgt := 9) hx hb (by omega) dX0_whyNotBought_4 (by decide) (fun c4 => ?_) (fun c4 => ?_)
  · skip
    refine lv_aload_n hx hb dX0_whyNotBought_9 rfl (lv_at hl 0 rfl) ?_
    refine lv_iload_n hx hb dX0_whyNotBought_10 rfl (lv_at hl 1 rfl) ?_
    refine gm_callr (rest := []) cx hK hT hA hw hl (c_X0_isInRow l k g hk hn) tg_RX0_158 ⟨rfl, rfl⟩ 1 rfl (by decide +kernel) ⟨Nat.le_of_ble_eq_true rfl, Nat.le_of_ble_eq_true rfl⟩ ⟨Nat.zero_le _, Nat.zero_le _⟩ (Nat.le_of_ble_eq_true rfl) dX0_whyNotBought_11 (rfl) (fun z11 hz11 => ?_)
    refine ts_if_ne (tgt := 19) hx hb (by omega) dX0_whyNotBought_14 (by decide) (fun c14 => ?_) (fun c14 => ?_)
    · skip
      refine lv_aload_n hx hb dX0_whyNotBought_19 rfl (lv_at hl 0 rfl) ?_
      refine gm_get2 cx hK hw tl_RX0_18 dX0_whyNotBought_20 ?_
      refine lv_iload_n hx hb dX0_whyNotBought_23 rfl (lv_at hl 1 rfl) ?_
      refine gm_ld2 cx hK hw (k) (by omega) dX0_whyNotBought_24 (fun z24 hz24 => ?_)
      have hb24 := hn.2.2.2.2.2.2.2.2.2.1 (k) (by omega)
      refine ts_if_gt (tgt := 30) hx hb (by omega) dX0_whyNotBought_25 (by decide) (fun c25 => ?_) (fun c25 => ?_)
      · skip
        refine lv_aload_n hx hb dX0_whyNotBought_30 rfl (lv_at hl 0 rfl) ?_
        refine gm_get7 cx hK hw tl_RX0_40 dX0_whyNotBought_31 (fun z31 hz31 => ?_)
        refine ts_if_gt (tgt := 39) hx hb (by omega) dX0_whyNotBought_34 (by decide) (fun c34 => ?_) (fun c34 => ?_)
        · skip
          refine lv_aload_n hx hb dX0_whyNotBought_39 rfl (lv_at hl 0 rfl) ?_
          refine gm_get6 cx hK hw tl_RX0_37 dX0_whyNotBought_40 (fun z40 hz40 => ?_)
          refine tt_gst cx hT hw.2.2 0 (by decide) rfl dX0_whyNotBought_43 ?_
          refine lv_iload_n hx hb dX0_whyNotBought_46 rfl (lv_at hl 1 rfl) ?_
          refine tt_ld hx hb hT hw.2.2 0 (by decide) (k) (by omega) dX0_whyNotBought_47 (fun z47 hz47 => ?_)
          have hb47 := tv_b 0 (k)
          refine ts_icmp_ge (tgt := 55) hx hb (by omega) dX0_whyNotBought_48 (by decide) (fun c48 => ?_) (fun c48 => ?_)
          · skip
            refine ts_iconst hx hb dX0_whyNotBought_55 ?_
            exact ro_ret cx hr hlocks (by unfold why; (repeat' split) <;> omega) dX0_whyNotBought_56
          · skip
            refine ts_iconst hx hb dX0_whyNotBought_51 ?_
            refine lv_goto (tgt := 56) hx hb dX0_whyNotBought_52 (by decide) ?_
            exact ro_ret cx hr hlocks (by unfold why; (repeat' split) <;> omega) dX0_whyNotBought_56
        · skip
          refine ts_iconst hx hb dX0_whyNotBought_37 ?_
          exact ro_ret cx hr hlocks (by unfold why; (repeat' split) <;> omega) dX0_whyNotBought_38
      · skip
        refine ts_iconst hx hb dX0_whyNotBought_28 ?_
        exact ro_ret cx hr hlocks (by unfold why; (repeat' split) <;> omega) dX0_whyNotBought_29
    · skip
      refine ts_iconst hx hb dX0_whyNotBought_17 ?_
      exact ro_ret cx hr hlocks (by unfold why; (repeat' split) <;> omega) dX0_whyNotBought_18
  · skip
    refine ts_iconst hx hb dX0_whyNotBought_7 ?_
    exact ro_ret cx hr hlocks (by unfold why; (repeat' split) <;> omega) dX0_whyNotBought_8
set_option maxHeartbeats 4000000 in
set_option maxRecDepth 100000 in
theorem c_X0_kindsToBuy (l : Launch) (g : GS) (sc : SCT) (hs : RS g sc) (hn : NX g) : gmRi l yX0_kindsToBuy (wU yX0_kindsToBuy cX0_kindsToBuy 3 (some .int)) ({ frames := 2, cells := 0, slots := 0, locals := 42 } : Room) [] g (fun z => z = setN sc 10) := by
  refine gmRi_of (by decide) (Nat.le_of_ble_eq_true rfl) ?_
  intro p e s m args below meth c D cI tb ad A ls cx hr hlocks hK hA hT hw hl
  have hx := cx.1
  have hb := cx.2.1
  have hl : lv_has ls 3 [(0, .ref (ad 0))] := hl
  refine ts_iconst hx hb dX0_kindsToBuy_0 ?_
  refine lv_istore_n (lv' := [(1, .int (iN 0)), (0, .ref (ad 0))]) hx hb dX0_kindsToBuy_1 rfl hl (by decide) rfl (fun ls hl => ?_)
  refine ts_iconst hx hb dX0_kindsToBuy_2 ?_
  refine lv_istore_n (lv' := [(2, .int (iN 0)), (1, .int (iN 0)), (0, .ref (ad 0))]) hx hb dX0_kindsToBuy_3 rfl hl (by decide) rfl (fun ls hl => ?_)
  have cut4 : ∀ (fu : Nat) (n : Int) (i : Int) (hmu : (10 - i).toNat < fu) (hi : 0 ≤ i ∧ i ≤ 10) (hq : n = setN sc i.toNat) (ls : Array Slot) (hl : lv_has ls 3 [(0, .ref (ad 0)), (1, .int (iN n)), (2, .int (iN i))]), W p l e ({ frames := 2, cells := 0, slots := 0, locals := 42 } : Room) s m args below meth c s.heap [] 0 0 (roQ below args s (fun z => z = setN sc 10)) (F0 m 4 ls []) := by
    intro fu
    induction fu with
    | zero => intro n i hmu; exact absurd hmu (Nat.not_lt_zero _)
    | succ fu ih4 =>
      intro n i hmu hi hq ls hl
      refine lv_iload_n hx hb dX0_kindsToBuy_4 rfl (lv_at hl 2 rfl) ?_
      refine ts_bipush hx hb dX0_kindsToBuy_5 (by decide) ?_
      refine ts_icmp_ge (tgt := 30) hx hb (by omega) dX0_kindsToBuy_7 (by decide) (fun c7 => ?_) (fun c7 => ?_)
      · skip
        refine lv_iload_n hx hb dX0_kindsToBuy_30 rfl (lv_at hl 1 rfl) ?_
        exact ro_ret cx hr hlocks (by rw [hq]; congr 1; omega) dX0_kindsToBuy_31
      · skip
        have hv : ((i.toNat : Nat) : Int) = i := by omega
        have hwb : why sc i.toNat = 0 ∨ why sc i.toNat = 1 ∨ why sc i.toNat = 2 ∨ why sc i.toNat = 3 ∨ why sc i.toNat = 4 ∨ why sc i.toNat = 5 := by unfold why; (repeat' split) <;> omega
        have hsb := setN_b sc i.toNat
        refine lv_aload_n hx hb dX0_kindsToBuy_10 rfl (lv_at hl 0 rfl) ?_
        refine lv_iload_n hx hb dX0_kindsToBuy_11 rfl (lv_at hl 2 rfl) ?_
        refine gm_callr (rest := []) cx hK hT hA hw hl (c_X0_whyNotBought l (i).toNat g sc (by omega) hs hn) tg_RX0_122 ⟨rfl, rfl⟩ 1 rfl (by decide +kernel) ⟨Nat.le_of_ble_eq_true rfl, Nat.le_of_ble_eq_true rfl⟩ ⟨Nat.zero_le _, Nat.zero_le _⟩ (Nat.le_of_ble_eq_true rfl) dX0_kindsToBuy_12 (by rw [hv]; rfl) (fun z12 hz12 => ?_)
        refine ts_if_ne (tgt := 24) hx hb (by omega) dX0_kindsToBuy_15 (by decide) (fun c15 => ?_) (fun c15 => ?_)
        · skip
          have he : i.toNat + 1 = (i + 1).toNat := by omega
          have hs2 : setN sc (i.toNat + 1) = setN sc i.toNat + (if why sc i.toNat = 0 then 2 ^ i.toNat else 0) := rfl
          rw [he] at hs2
          obtain ⟨z24, hz24⟩ : ∃ z : Int, z = i + 1 := ⟨_, rfl⟩
          refine lv_iinc (v := iN z24) (lv' := [(2, .int (iN z24)), (0, .ref (ad 0)), (1, .int (iN n))]) hx hb dX0_kindsToBuy_24 hl (k := 2) rfl (by rw [hz24]; exact iN_add _ _) (by decide) rfl (fun ls hl => ?_)
          have hsn : n = setN sc z24.toNat := by
            rw [hz24, hs2]
            by_cases hk : why sc i.toNat = 0
            · (rw [if_pos hk]) <;> omega
            · (rw [if_neg hk]) <;> omega
          refine lv_goto (tgt := 4) hx hb dX0_kindsToBuy_27 (by decide) ?_
          exact ih4 (n) (z24) (by omega) (by omega) (hsn) _ (lv_sub hl [1, 2, 0] rfl)
        · skip
          refine lv_iload_n hx hb dX0_kindsToBuy_18 rfl (lv_at hl 1 rfl) ?_
          refine ts_iconst hx hb dX0_kindsToBuy_19 ?_
          refine lv_iload_n hx hb dX0_kindsToBuy_20 rfl (lv_at hl 2 rfl) ?_
          refine ts_ishl hx hb (i.toNat) (by omega) dX0_kindsToBuy_21 (fun z21 hz21 => ?_)
          refine ts_ior hx hb (⟨i.toNat, by omega, hz21, by omega, by omega⟩) dX0_kindsToBuy_22 (fun z22 hz22 => ?_)
          refine lv_istore_n (lv' := [(1, .int (iN z22)), (0, .ref (ad 0)), (2, .int (iN i))]) hx hb dX0_kindsToBuy_23 rfl hl (by decide) rfl (fun ls hl => ?_)
          have he : i.toNat + 1 = (i + 1).toNat := by omega
          have hs2 : setN sc (i.toNat + 1) = setN sc i.toNat + (if why sc i.toNat = 0 then 2 ^ i.toNat else 0) := rfl
          rw [he] at hs2
          obtain ⟨z24, hz24⟩ : ∃ z : Int, z = i + 1 := ⟨_, rfl⟩
          refine lv_iinc (v := iN z24) (lv' := [(2, .int (iN z24)), (1, .int (iN z22)), (0, .ref (ad 0))]) hx hb dX0_kindsToBuy_24 hl (k := 2) rfl (by rw [hz24]; exact iN_add _ _) (by decide) rfl (fun ls hl => ?_)
          have hsn : z22 = setN sc z24.toNat := by
            rw [hz24, hs2]
            by_cases hk : why sc i.toNat = 0
            · (rw [if_pos hk]) <;> omega
            · (rw [if_neg hk]) <;> omega
          refine lv_goto (tgt := 4) hx hb dX0_kindsToBuy_27 (by decide) ?_
          exact ih4 (z22) (z24) (by omega) (by omega) (hsn) _ (lv_sub hl [2, 1, 0] rfl)
  exact cut4 _ (0) (0) (Nat.lt_succ_self _) (by omega) (by rfl) _ (lv_sub hl [2, 1, 0] rfl)
set_option maxHeartbeats 4000000 in
set_option maxRecDepth 100000 in
theorem c_X0_dearestToBuy (l : Launch) (g : GS) (sc : SCT) (hs : RS g sc) (hn : NX g) : gmRi l yX0_dearestToBuy (wU yX0_dearestToBuy cX0_dearestToBuy 4 (some .int)) ({ frames := 2, cells := 0, slots := 0, locals := 42 } : Room) [] g (fun z => z = dearN sc 10) := by
  refine gmRi_of (by decide) (Nat.le_of_ble_eq_true rfl) ?_
  intro p e s m args below meth c D cI tb ad A ls cx hr hlocks hK hA hT hw hl
  have hx := cx.1
  have hb := cx.2.1
  have hl : lv_has ls 4 [(0, .ref (ad 0))] := hl
  refine ts_iconst hx hb dX0_dearestToBuy_0 ?_
  refine lv_istore_n (lv' := [(1, .int (iN ((-1)))), (0, .ref (ad 0))]) hx hb dX0_dearestToBuy_1 rfl hl (by decide) rfl (fun ls hl => ?_)
  refine ts_iconst hx hb dX0_dearestToBuy_2 ?_
  refine lv_istore_n (lv' := [(2, .int (iN 1)), (1, .int (iN ((-1)))), (0, .ref (ad 0))]) hx hb dX0_dearestToBuy_3 rfl hl (by decide) rfl (fun ls hl => ?_)
  refine ts_iconst hx hb dX0_dearestToBuy_4 ?_
  refine lv_istore_n (lv' := [(3, .int (iN 0)), (2, .int (iN 1)), (1, .int (iN ((-1)))), (0, .ref (ad 0))]) hx hb dX0_dearestToBuy_5 rfl hl (by decide) rfl (fun ls hl => ?_)
  have cut6 : ∀ (fu : Nat) (n : Int) (q : Int) (i : Int) (hmu : (10 - i).toNat < fu) (hi : 0 ≤ i ∧ i ≤ 10) (hq : n = dearN sc i.toNat) (hq2 : (n < 0 ∧ q = 1) ∨ (0 ≤ n ∧ q = tv 0 n.toNat)) (hq3 : -1 ≤ n ∧ n ≤ 9 ∧ 1 ≤ q ∧ q ≤ 60) (ls : Array Slot) (hl : lv_has ls 4 [(0, .ref (ad 0)), (1, .int (iN n)), (2, .int (iN q)), (3, .int (iN i))]), W p l e ({ frames := 2, cells := 0, slots := 0, locals := 42 } : Room) s m args below meth c s.heap [] 0 0 (roQ below args s (fun z => z = dearN sc 10)) (F0 m 6 ls []) := by
    intro fu
    induction fu with
    | zero => intro n q i hmu; exact absurd hmu (Nat.not_lt_zero _)
    | succ fu ih6 =>
      intro n q i hmu hi hq hq2 hq3 ls hl
      refine lv_iload_n hx hb dX0_dearestToBuy_6 rfl (lv_at hl 3 rfl) ?_
      refine ts_bipush hx hb dX0_dearestToBuy_7 (by decide) ?_
      refine ts_icmp_ge (tgt := 43) hx hb (by omega) dX0_dearestToBuy_9 (by decide) (fun c9 => ?_) (fun c9 => ?_)
      · skip
        refine lv_iload_n hx hb dX0_dearestToBuy_43 rfl (lv_at hl 1 rfl) ?_
        exact ro_ret cx hr hlocks (by rw [hq]; congr 1; omega) dX0_dearestToBuy_44
      · skip
        have hv : ((i.toNat : Nat) : Int) = i := by omega
        have hwb : why sc i.toNat = 0 ∨ why sc i.toNat = 1 ∨ why sc i.toNat = 2 ∨ why sc i.toNat = 3 ∨ why sc i.toNat = 4 ∨ why sc i.toNat = 5 := by unfold why; (repeat' split) <;> omega
        refine tt_gst cx hT hw.2.2 0 (by decide) rfl dX0_dearestToBuy_12 ?_
        refine lv_iload_n hx hb dX0_dearestToBuy_15 rfl (lv_at hl 3 rfl) ?_
        refine tt_ld hx hb hT hw.2.2 0 (by decide) (i.toNat) (by omega) dX0_dearestToBuy_16 (fun z16 hz16 => ?_)
        have hb16 := tv_b 0 (i.toNat)
        refine lv_iload_n hx hb dX0_dearestToBuy_17 rfl (lv_at hl 2 rfl) ?_
        refine ts_icmp_lt (tgt := 37) hx hb (by omega) dX0_dearestToBuy_18 (by decide) (fun c18 => ?_) (fun c18 => ?_)
        · skip
          have he : i.toNat + 1 = (i + 1).toNat := by omega
          have hs2 : dearN sc (i.toNat + 1) = if 0 < tv 0 i.toNat ∧ why sc i.toNat = 0 ∧ (dearN sc i.toNat < 0 ∨ tv 0 (dearN sc i.toNat).toNat ≤ tv 0 i.toNat) then (i.toNat : Int) else dearN sc i.toNat := rfl
          rw [he, ← hq] at hs2
          have htq : 0 ≤ n → q = tv 0 n.toNat := by intro h; omega
          obtain ⟨z37, hz37⟩ : ∃ z : Int, z = i + 1 := ⟨_, rfl⟩
          refine lv_iinc (v := iN z37) (lv' := [(3, .int (iN z37)), (0, .ref (ad 0)), (1, .int (iN n)), (2, .int (iN q))]) hx hb dX0_dearestToBuy_37 hl (k := 3) rfl (by rw [hz37]; exact iN_add _ _) (by decide) rfl (fun ls hl => ?_)
          have hsn : n = dearN sc z37.toNat := by
            rw [hz37, hs2]
            by_cases hk : 0 < tv 0 i.toNat ∧ why sc i.toNat = 0 ∧ (n < 0 ∨ tv 0 n.toNat ≤ tv 0 i.toNat)
            · (rw [if_pos hk]) <;> omega
            · (rw [if_neg hk]) <;> omega
          have hsq : (n < 0 ∧ q = 1) ∨ (0 ≤ n ∧ q = tv 0 (n).toNat) := by omega
          have hsr : -1 ≤ n ∧ n ≤ 9 ∧ 1 ≤ q ∧ q ≤ 60 := by omega
          refine lv_goto (tgt := 6) hx hb dX0_dearestToBuy_40 (by decide) ?_
          exact ih6 (n) (q) (z37) (by omega) (by omega) (hsn) (hsq) (hsr) _ (lv_sub hl [1, 2, 3, 0] rfl)
        · skip
          refine lv_aload_n hx hb dX0_dearestToBuy_21 rfl (lv_at hl 0 rfl) ?_
          refine lv_iload_n hx hb dX0_dearestToBuy_22 rfl (lv_at hl 3 rfl) ?_
          refine gm_callr (rest := []) cx hK hT hA hw hl (c_X0_whyNotBought l (i).toNat g sc (by omega) hs hn) tg_RX0_122 ⟨rfl, rfl⟩ 1 rfl (by decide +kernel) ⟨Nat.le_of_ble_eq_true rfl, Nat.le_of_ble_eq_true rfl⟩ ⟨Nat.zero_le _, Nat.zero_le _⟩ (Nat.le_of_ble_eq_true rfl) dX0_dearestToBuy_23 (by rw [hv]; rfl) (fun z23 hz23 => ?_)
          refine ts_if_ne (tgt := 37) hx hb (by omega) dX0_dearestToBuy_26 (by decide) (fun c26 => ?_) (fun c26 => ?_)
          · skip
            have he : i.toNat + 1 = (i + 1).toNat := by omega
            have hs2 : dearN sc (i.toNat + 1) = if 0 < tv 0 i.toNat ∧ why sc i.toNat = 0 ∧ (dearN sc i.toNat < 0 ∨ tv 0 (dearN sc i.toNat).toNat ≤ tv 0 i.toNat) then (i.toNat : Int) else dearN sc i.toNat := rfl
            rw [he, ← hq] at hs2
            have htq : 0 ≤ n → q = tv 0 n.toNat := by intro h; omega
            obtain ⟨z37, hz37⟩ : ∃ z : Int, z = i + 1 := ⟨_, rfl⟩
            refine lv_iinc (v := iN z37) (lv' := [(3, .int (iN z37)), (0, .ref (ad 0)), (1, .int (iN n)), (2, .int (iN q))]) hx hb dX0_dearestToBuy_37 hl (k := 3) rfl (by rw [hz37]; exact iN_add _ _) (by decide) rfl (fun ls hl => ?_)
            have hsn : n = dearN sc z37.toNat := by
              rw [hz37, hs2]
              by_cases hk : 0 < tv 0 i.toNat ∧ why sc i.toNat = 0 ∧ (n < 0 ∨ tv 0 n.toNat ≤ tv 0 i.toNat)
              · (rw [if_pos hk]) <;> omega
              · (rw [if_neg hk]) <;> omega
            have hsq : (n < 0 ∧ q = 1) ∨ (0 ≤ n ∧ q = tv 0 (n).toNat) := by omega
            have hsr : -1 ≤ n ∧ n ≤ 9 ∧ 1 ≤ q ∧ q ≤ 60 := by omega
            refine lv_goto (tgt := 6) hx hb dX0_dearestToBuy_40 (by decide) ?_
            exact ih6 (n) (q) (z37) (by omega) (by omega) (hsn) (hsq) (hsr) _ (lv_sub hl [1, 2, 3, 0] rfl)
          · skip
            refine lv_iload_n hx hb dX0_dearestToBuy_29 rfl (lv_at hl 3 rfl) ?_
            refine lv_istore_n (lv' := [(1, .int (iN i)), (0, .ref (ad 0)), (2, .int (iN q)), (3, .int (iN i))]) hx hb dX0_dearestToBuy_30 rfl hl (by decide) rfl (fun ls hl => ?_)
            refine tt_gst cx hT hw.2.2 0 (by decide) rfl dX0_dearestToBuy_31 ?_
            refine lv_iload_n hx hb dX0_dearestToBuy_34 rfl (lv_at hl 3 rfl) ?_
            refine tt_ld hx hb hT hw.2.2 0 (by decide) (i.toNat) (by omega) dX0_dearestToBuy_35 (fun z35 hz35 => ?_)
            have hb35 := tv_b 0 (i.toNat)
            refine lv_istore_n (lv' := [(2, .int (iN z35)), (1, .int (iN i)), (0, .ref (ad 0)), (3, .int (iN i))]) hx hb dX0_dearestToBuy_36 rfl hl (by decide) rfl (fun ls hl => ?_)
            have he : i.toNat + 1 = (i + 1).toNat := by omega
            have hs2 : dearN sc (i.toNat + 1) = if 0 < tv 0 i.toNat ∧ why sc i.toNat = 0 ∧ (dearN sc i.toNat < 0 ∨ tv 0 (dearN sc i.toNat).toNat ≤ tv 0 i.toNat) then (i.toNat : Int) else dearN sc i.toNat := rfl
            rw [he, ← hq] at hs2
            have htq : 0 ≤ n → q = tv 0 n.toNat := by intro h; omega
            obtain ⟨z37, hz37⟩ : ∃ z : Int, z = i + 1 := ⟨_, rfl⟩
            refine lv_iinc (v := iN z37) (lv' := [(3, .int (iN z37)), (2, .int (iN z35)), (1, .int (iN i)), (0, .ref (ad 0))]) hx hb dX0_dearestToBuy_37 hl (k := 3) rfl (by rw [hz37]; exact iN_add _ _) (by decide) rfl (fun ls hl => ?_)
            have hsn : i = dearN sc z37.toNat := by
              rw [hz37, hs2]
              by_cases hk : 0 < tv 0 i.toNat ∧ why sc i.toNat = 0 ∧ (n < 0 ∨ tv 0 n.toNat ≤ tv 0 i.toNat)
              · (rw [if_pos hk]) <;> omega
              · (rw [if_neg hk]) <;> omega
            have hsq : (i < 0 ∧ z35 = 1) ∨ (0 ≤ i ∧ z35 = tv 0 (i).toNat) := by omega
            have hsr : -1 ≤ i ∧ i ≤ 9 ∧ 1 ≤ z35 ∧ z35 ≤ 60 := by omega
            refine lv_goto (tgt := 6) hx hb dX0_dearestToBuy_40 (by decide) ?_
            exact ih6 (i) (z35) (z37) (by omega) (by omega) (hsn) (hsq) (hsr) _ (lv_sub hl [3, 2, 1, 0] rfl)
  exact cut6 _ ((-1)) (1) (0) (Nat.lt_succ_self _) (by omega) (by rfl) (by omega) (by omega) _ (lv_sub hl [3, 2, 1, 0] rfl)
theorem lx_at (L : LLT) (p r : Nat) (hr : r < 4) : lx L (4 * p + r) = L p (wx r) := by
  unfold lx
  rw [show (4 * p + r) / 4 = p by omega, show (4 * p + r) % 4 = r by omega]
set_option maxHeartbeats 4000000 in
set_option maxRecDepth 100000 in
theorem c_X0_firstInHand (l : Launch) (lo hi : Int) (g : GS) (S : StT) (hx0 : RX g S) (hn : NX g) (hk : kindsOk (lx S.2)) (hlh : (0 ≤ lo ∧ lo ≤ 9) ∧ (0 ≤ hi ∧ hi ≤ 9)) : gmRi l yX0_firstInHand (wU yX0_firstInHand cX0_firstInHand 6 (some .int)) ({ frames := 0, cells := 0, slots := 0, locals := 0 } : Room) [.int (iN lo), .int (iN hi)] g (fun z => z = ffst lo hi (hand S)) := by
  refine gmRi_of (by decide) (Nat.le_of_ble_eq_true rfl) ?_
  intro p e s m args below meth c D cI tb ad A ls cx hr hlocks hK hA hT hw hl
  have hx := cx.1
  have hb := cx.2.1
  have hl : lv_has ls 6 [(0, .ref (ad 0)), (1, .int (iN lo)), (2, .int (iN hi))] := hl
  have hm := PX_M hx0.2
  have hm2 := PX_K hx0.2 hk
  have hT2 := MX_b hm
  have hn1 := NX_13 hx0.1 hn
  have h1 := hx0.1.2.1
  obtain ⟨w, hw4⟩ : ∃ w : Nat, g 4 5 = (w : Int) := ⟨(g 4 5).toNat, by omega⟩
  have hh : hand S = lx S.2 (4 * w + 2) := by
    rw [lx_at _ _ _ (by omega)]
    unfold hand pl
    rw [← h1, hw4, Int.toNat_natCast]
    rfl
  have hlen := hx0.2.2.1 (4 * w + 2) (by omega)
  have hcd := hx0.2.2.2.1 (4 * w + 2) (by omega)
  have hkk := hk (4 * w + 2) (by omega)
  rw [← hh] at hlen hcd hkk
  have hq := MX_le hm (a := 4 * w + 2 + 1) (b := 16) (by omega) (by omega)
  refine lv_aload_n hx hb dX0_firstInHand_0 rfl (lv_at hl 0 rfl) ?_
  refine gm_get1 cx hK hw tl_RX0_15 dX0_firstInHand_1 ?_
  refine lv_aload_n hx hb dX0_firstInHand_4 rfl (lv_at hl 0 rfl) ?_
  refine gm_get5 cx hK hw tl_RX0_34 dX0_firstInHand_5 (fun z5 hz5 => ?_)
  refine ts_iconst hx hb dX0_firstInHand_8 ?_
  refine ts_imul hx hb dX0_firstInHand_9 (fun z9 hz9 => ?_)
  refine ts_iconst hx hb dX0_firstInHand_10 ?_
  refine ts_iadd hx hb dX0_firstInHand_11 (fun z11 hz11 => ?_)
  refine gm_ld1 cx hK hw (4 * w + 2) (by omega) dX0_firstInHand_12 (fun z12 hz12 => ?_)
  have hb12 := hT2 (4 * w + 2) (by omega)
  refine lv_istore_n (lv' := [(3, .int (iN z12)), (0, .ref (ad 0)), (1, .int (iN lo)), (2, .int (iN hi))]) hx hb dX0_firstInHand_13 rfl hl (by decide) rfl (fun ls hl => ?_)
  refine lv_aload_n hx hb dX0_firstInHand_14 rfl (lv_at hl 1 rfl) ?_
  refine gm_get1 cx hK hw tl_RX0_15 dX0_firstInHand_15 ?_
  refine lv_aload_n hx hb dX0_firstInHand_18 rfl (lv_at hl 1 rfl) ?_
  refine gm_get5 cx hK hw tl_RX0_34 dX0_firstInHand_19 (fun z19 hz19 => ?_)
  refine ts_iconst hx hb dX0_firstInHand_22 ?_
  refine ts_imul hx hb dX0_firstInHand_23 (fun z23 hz23 => ?_)
  refine ts_iconst hx hb dX0_firstInHand_24 ?_
  refine ts_iadd hx hb dX0_firstInHand_25 (fun z25 hz25 => ?_)
  refine gm_ld1 cx hK hw (4 * w + 2 + 1) (by omega) dX0_firstInHand_26 (fun z26 hz26 => ?_)
  have hb26 := hT2 (4 * w + 2 + 1) (by omega)
  refine lv_istore (lv' := [(4, .int (iN z26)), (3, .int (iN z12)), (0, .ref (ad 0)), (1, .int (iN lo)), (2, .int (iN hi))]) hx hb dX0_firstInHand_27 hl (by decide) rfl (fun ls hl => ?_)
  refine lv_iload_n hx hb dX0_firstInHand_29 rfl (lv_at hl 1 rfl) ?_
  refine lv_istore (lv' := [(5, .int (iN z12)), (4, .int (iN z26)), (3, .int (iN z12)), (0, .ref (ad 0)), (1, .int (iN lo)), (2, .int (iN hi))]) hx hb dX0_firstInHand_30 hl (by decide) rfl (fun ls hl => ?_)
  have cut32 : ∀ (fu : Nat) (i : Int) (hmu : (z26 - i).toNat < fu) (hi2 : z12 ≤ i ∧ i ≤ z26) (hno : ∀ j : Nat, (j : Int) < i - z12 → ¬ (lo ≤ (hand S).getD j 0 ∧ (hand S).getD j 0 ≤ hi)) (ls : Array Slot) (hl : lv_has ls 6 [(0, .ref (ad 0)), (1, .int (iN lo)), (2, .int (iN hi)), (3, .int (iN z12)), (4, .int (iN z26)), (5, .int (iN i))]), W p l e ({ frames := 0, cells := 0, slots := 0, locals := 0 } : Room) s m args below meth c s.heap [] 0 0 (roQ below args s (fun z => z = ffst lo hi (hand S))) (F0 m 32 ls []) := by
    intro fu
    induction fu with
    | zero => intro i hmu; exact absurd hmu (Nat.not_lt_zero _)
    | succ fu ih32 =>
      intro i hmu hi2 hno ls hl
      refine lv_iload hx hb dX0_firstInHand_32 (lv_at hl 5 rfl) ?_
      refine lv_iload hx hb dX0_firstInHand_34 (lv_at hl 4 rfl) ?_
      refine ts_icmp_ge (tgt := 72) hx hb (by omega) dX0_firstInHand_36 (by decide) (fun c36 => ?_) (fun c36 => ?_)
      · skip
        refine ts_iconst hx hb dX0_firstInHand_72 ?_
        exact ro_ret cx hr hlocks (by rw [ffst_none (fun k hk => hno k (by omega))]) dX0_firstInHand_73
      · skip
        have hci := hcd (i - z12).toNat (by omega)
        rw [show (g 1 (4 * w + 2)).toNat + (i - z12).toNat = i.toNat by omega] at hci
        refine lv_aload_n hx hb dX0_firstInHand_39 rfl (lv_at hl 0 rfl) ?_
        refine gm_get0 cx hK hw tl_RX0_9 dX0_firstInHand_40 ?_
        refine lv_iload hx hb dX0_firstInHand_43 (lv_at hl 5 rfl) ?_
        refine gm_ld0 cx hK hw ((i).toNat) (by omega) dX0_firstInHand_45 (fun z45 hz45 => ?_)
        have hb45 := hm2 ((i).toNat) (by omega)
        refine lv_iload_n hx hb dX0_firstInHand_46 rfl (lv_at hl 1 rfl) ?_
        refine ts_icmp_lt (tgt := 66) hx hb (by omega) dX0_firstInHand_47 (by decide) (fun c47 => ?_) (fun c47 => ?_)
        · skip
          obtain ⟨z66, hz66⟩ : ∃ z : Int, z = i + 1 := ⟨_, rfl⟩
          refine lv_iinc (v := iN z66) (lv' := [(5, .int (iN z66)), (0, .ref (ad 0)), (1, .int (iN lo)), (2, .int (iN hi)), (3, .int (iN z12)), (4, .int (iN z26))]) hx hb dX0_firstInHand_66 hl (k := 5) rfl (by rw [hz66]; exact iN_add _ _) (by decide) rfl (fun ls hl => ?_)
          have hno2 : ∀ j : Nat, (j : Int) < z66 - z12 → ¬ (lo ≤ (hand S).getD j 0 ∧ (hand S).getD j 0 ≤ hi) := by
            intro j hj
            by_cases hji : (j : Int) < i - z12
            · exact hno j hji
            · rw [show j = (i - z12).toNat by omega]
              omega
          refine lv_goto (tgt := 32) hx hb dX0_firstInHand_69 (by decide) ?_
          exact ih32 (z66) (by omega) (by omega) (hno2) _ (lv_sub hl [1, 2, 3, 4, 5, 0] rfl)
        · skip
          refine lv_aload_n hx hb dX0_firstInHand_50 rfl (lv_at hl 0 rfl) ?_
          refine gm_get0 cx hK hw tl_RX0_9 dX0_firstInHand_51 ?_
          refine lv_iload hx hb dX0_firstInHand_54 (lv_at hl 5 rfl) ?_
          refine gm_ld0 cx hK hw ((i).toNat) (by omega) dX0_firstInHand_56 (fun z56 hz56 => ?_)
          have hb56 := hm2 ((i).toNat) (by omega)
          refine lv_iload_n hx hb dX0_firstInHand_57 rfl (lv_at hl 2 rfl) ?_
          refine ts_icmp_gt (tgt := 66) hx hb (by omega) dX0_firstInHand_58 (by decide) (fun c58 => ?_) (fun c58 => ?_)
          · skip
            obtain ⟨z66, hz66⟩ : ∃ z : Int, z = i + 1 := ⟨_, rfl⟩
            refine lv_iinc (v := iN z66) (lv' := [(5, .int (iN z66)), (0, .ref (ad 0)), (1, .int (iN lo)), (2, .int (iN hi)), (3, .int (iN z12)), (4, .int (iN z26))]) hx hb dX0_firstInHand_66 hl (k := 5) rfl (by rw [hz66]; exact iN_add _ _) (by decide) rfl (fun ls hl => ?_)
            have hno2 : ∀ j : Nat, (j : Int) < z66 - z12 → ¬ (lo ≤ (hand S).getD j 0 ∧ (hand S).getD j 0 ≤ hi) := by
              intro j hj
              by_cases hji : (j : Int) < i - z12
              · exact hno j hji
              · rw [show j = (i - z12).toNat by omega]
                omega
            refine lv_goto (tgt := 32) hx hb dX0_firstInHand_69 (by decide) ?_
            exact ih32 (z66) (by omega) (by omega) (hno2) _ (lv_sub hl [1, 2, 3, 4, 5, 0] rfl)
          · skip
            refine lv_iload hx hb dX0_firstInHand_61 (lv_at hl 5 rfl) ?_
            refine lv_iload_n hx hb dX0_firstInHand_63 rfl (lv_at hl 3 rfl) ?_
            refine ts_isub hx hb dX0_firstInHand_64 (fun z64 hz64 => ?_)
            exact ro_ret cx hr hlocks (by rw [ffst_at (k := (i - z12).toNat) (by omega) (by omega) (fun j hj => hno j (by omega))]; omega) dX0_firstInHand_65
  exact cut32 _ (z12) (Nat.lt_succ_self _) (by omega) (fun j hj => by omega) _ (lv_sub hl [3, 4, 5, 2, 1, 0] rfl)
theorem lead_le (L : LLT) : ∀ n : Nat, leadN L n ≤ n
  | 0 => Nat.le_refl _
  | n + 1 => by
    unfold leadN
    split
    · exact Nat.le_refl _
    · exact Nat.le_succ_of_le (lead_le L n)
theorem PX_pt {g : GS} {L : LLT} (h : PX g (lx L)) (p : Nat) (hp : p < 4) : sumN (fun i => tv 7 (g 0 ((g 1 (4 * p + 0)).toNat + i)).toNat) (g 1 (4 * p + 3 + 1) - g 1 (4 * p + 0)).toNat = ptA L p := PX_sum4 h (fun x => tv 7 x.toNat) p hp
theorem PX_len4 {g : GS} {L : LLT} (h : PX g (lx L)) (p : Nat) (hp : p < 4) : 0 ≤ g 1 (4 * p + 3 + 1) - g 1 (4 * p + 0) ∧ g 1 (4 * p + 3 + 1) - g 1 (4 * p + 0) ≤ 164 := by
  have h1 := MX_le (PX_M h) (a := 4 * p + 0) (b := 4 * p + 3 + 1) (by omega) (by omega)
  have h2 := MX_b (PX_M h) (4 * p + 0) (by omega)
  have h3 := MX_b (PX_M h) (4 * p + 3 + 1) (by omega)
  omega
theorem PX_ptb {g : GS} {L : LLT} (h : PX g (lx L)) (p : Nat) (hp : p < 4) : -10000 ≤ ptA L p ∧ ptA L p ≤ 10000 := by
  rw [← PX_pt h p hp]
  have h1 := PX_len4 h p hp
  have h2 := sumN_le (f := fun i => tv 7 (g 0 ((g 1 (4 * p + 0)).toNat + i)).toNat) (c := 60) (n := (g 1 (4 * p + 3 + 1) - g 1 (4 * p + 0)).toNat) (fun i _ => (tv_b 7 _).2)
  have h3 := sumN_ge (f := fun i => tv 7 (g 0 ((g 1 (4 * p + 0)).toNat + i)).toNat) (c := -1) (n := (g 1 (4 * p + 3 + 1) - g 1 (4 * p + 0)).toNat) (fun i _ => (tv_b 7 _).1)
  omega
set_option maxHeartbeats 4000000 in
set_option maxRecDepth 100000 in
theorem c_X0_leader (l : Launch) (g : GS) (S : StT) (hx0 : RX g S) (hn : NX g) (hk : kindsOk (lx S.2)) : gmRi l yX0_leader (wU yX0_leader cX0_leader 3 (some .int)) ({ frames := 1, cells := 0, slots := 0, locals := 27 } : Room) [] g (fun z => z = (leadN S.2 (S.1 0 - 1).toNat : Nat)) := by
  refine gmRi_of (by decide) (Nat.le_of_ble_eq_true rfl) ?_
  intro p e s m args below meth c D cI tb ad A ls cx hr hlocks hK hA hT hw hl
  have hx := cx.1
  have hb := cx.2.1
  have hl : lv_has ls 3 [(0, .ref (ad 0))] := hl
  have hm := PX_M hx0.2
  have hm2 := PX_K hx0.2 hk
  have hn1 := NX_13 hx0.1 hn
  have h00 := hx0.1.1
  refine ts_iconst hx hb dX0_leader_0 ?_
  refine lv_istore_n (lv' := [(1, .int (iN 0)), (0, .ref (ad 0))]) hx hb dX0_leader_1 rfl hl (by decide) rfl (fun ls hl => ?_)
  refine ts_iconst hx hb dX0_leader_2 ?_
  refine lv_istore_n (lv' := [(2, .int (iN 1)), (1, .int (iN 0)), (0, .ref (ad 0))]) hx hb dX0_leader_3 rfl hl (by decide) rfl (fun ls hl => ?_)
  have cut4 : ∀ (fu : Nat) (n : Int) (i : Int) (hmu : (5 - i).toNat < fu) (hi : 1 ≤ i ∧ i ≤ S.1 0) (hq : n = (leadN S.2 (i - 1).toNat : Nat)) (hq2 : 0 ≤ n ∧ n < i) (ls : Array Slot) (hl : lv_has ls 3 [(0, .ref (ad 0)), (1, .int (iN n)), (2, .int (iN i))]), W p l e ({ frames := 1, cells := 0, slots := 0, locals := 27 } : Room) s m args below meth c s.heap [] 0 0 (roQ below args s (fun z => z = (leadN S.2 (S.1 0 - 1).toNat : Nat))) (F0 m 4 ls []) := by
    intro fu
    induction fu with
    | zero => intro n i hmu; exact absurd hmu (Nat.not_lt_zero _)
    | succ fu ih4 =>
      intro n i hmu hi hq hq2 ls hl
      refine lv_iload_n hx hb dX0_leader_4 rfl (lv_at hl 2 rfl) ?_
      refine lv_aload_n hx hb dX0_leader_5 rfl (lv_at hl 0 rfl) ?_
      refine gm_get4 cx hK hw tl_RX0_30 dX0_leader_6 (fun z6 hz6 => ?_)
      refine ts_icmp_ge (tgt := 43) hx hb (by omega) dX0_leader_9 (by decide) (fun c9 => ?_) (fun c9 => ?_)
      · skip
        refine lv_iload_n hx hb dX0_leader_43 rfl (lv_at hl 1 rfl) ?_
        exact ro_ret cx hr hlocks (by rw [hq]; congr 2; omega) dX0_leader_44
      · skip
        have hv : ((i.toNat : Nat) : Int) = i := by omega
        have hvn : ((n.toNat : Nat) : Int) = n := by omega
        have hs2 : leadN S.2 ((i - 1).toNat + 1) = if ptA S.2 (leadN S.2 (i - 1).toNat) < ptA S.2 ((i - 1).toNat + 1) then (i - 1).toNat + 1 else leadN S.2 (i - 1).toNat := rfl
        rw [show leadN S.2 (i - 1).toNat = n.toNat by omega, show (i - 1).toNat + 1 = i.toNat by omega] at hs2
        refine lv_aload_n hx hb dX0_leader_12 rfl (lv_at hl 0 rfl) ?_
        refine lv_iload_n hx hb dX0_leader_13 rfl (lv_at hl 2 rfl) ?_
        refine ts_iconst hx hb dX0_leader_14 ?_
        refine ts_iconst hx hb dX0_leader_15 ?_
        refine tt_gst cx hT hw.2.2 7 (by decide) rfl dX0_leader_16 ?_
        refine gm_callt (rest := []) cx hK hT hA hw hl (c_X0_sumOf l 7 i.toNat 0 3 g (by omega) (by omega) (by omega) hm hm2) tg_RX0_154 ⟨rfl, rfl⟩ 4 rfl (by decide +kernel) ⟨Nat.le_of_ble_eq_true rfl, Nat.le_of_ble_eq_true rfl⟩ ⟨Nat.zero_le _, Nat.zero_le _⟩ (Nat.le_of_ble_eq_true rfl) dX0_leader_19 (by rw [hv]; rfl) (fun z19 hz19 => ?_)
        rw [PX_pt hx0.2 i.toNat (by omega)] at hz19
        have hb19 := PX_ptb hx0.2 i.toNat (by omega)
        refine lv_aload_n hx hb dX0_leader_22 rfl (lv_at hl 0 rfl) ?_
        refine lv_iload_n hx hb dX0_leader_23 rfl (lv_at hl 1 rfl) ?_
        refine ts_iconst hx hb dX0_leader_24 ?_
        refine ts_iconst hx hb dX0_leader_25 ?_
        refine tt_gst cx hT hw.2.2 7 (by decide) rfl dX0_leader_26 ?_
        refine gm_callt (rest := [.int (iN z19)]) cx hK hT hA hw hl (c_X0_sumOf l 7 n.toNat 0 3 g (by omega) (by omega) (by omega) hm hm2) tg_RX0_154 ⟨rfl, rfl⟩ 4 rfl (by decide +kernel) ⟨Nat.le_of_ble_eq_true rfl, Nat.le_of_ble_eq_true rfl⟩ ⟨Nat.zero_le _, Nat.zero_le _⟩ (Nat.le_of_ble_eq_true rfl) dX0_leader_29 (by rw [hvn]; rfl) (fun z29 hz29 => ?_)
        rw [PX_pt hx0.2 n.toNat (by omega)] at hz29
        have hb29 := PX_ptb hx0.2 n.toNat (by omega)
        refine ts_icmp_le (tgt := 37) hx hb (by omega) dX0_leader_32 (by decide) (fun c32 => ?_) (fun c32 => ?_)
        · skip
          obtain ⟨z37, hz37⟩ : ∃ z : Int, z = i + 1 := ⟨_, rfl⟩
          refine lv_iinc (v := iN z37) (lv' := [(2, .int (iN z37)), (0, .ref (ad 0)), (1, .int (iN n))]) hx hb dX0_leader_37 hl (k := 2) rfl (by rw [hz37]; exact iN_add _ _) (by decide) rfl (fun ls hl => ?_)
          have hsn : n = (leadN S.2 (z37 - 1).toNat : Nat) := by
            rw [show (z37 - 1).toNat = i.toNat by omega, hs2]
            first | (rw [if_pos (by omega)]; omega) | (rw [if_neg (by omega)]; omega)
          refine lv_goto (tgt := 4) hx hb dX0_leader_40 (by decide) ?_
          exact ih4 (n) (z37) (by omega) (by omega) (hsn) (by omega) _ (lv_sub hl [1, 2, 0] rfl)
        · skip
          refine lv_iload_n hx hb dX0_leader_35 rfl (lv_at hl 2 rfl) ?_
          refine lv_istore_n (lv' := [(1, .int (iN i)), (0, .ref (ad 0)), (2, .int (iN i))]) hx hb dX0_leader_36 rfl hl (by decide) rfl (fun ls hl => ?_)
          obtain ⟨z37, hz37⟩ : ∃ z : Int, z = i + 1 := ⟨_, rfl⟩
          refine lv_iinc (v := iN z37) (lv' := [(2, .int (iN z37)), (1, .int (iN i)), (0, .ref (ad 0))]) hx hb dX0_leader_37 hl (k := 2) rfl (by rw [hz37]; exact iN_add _ _) (by decide) rfl (fun ls hl => ?_)
          have hsn : i = (leadN S.2 (z37 - 1).toNat : Nat) := by
            rw [show (z37 - 1).toNat = i.toNat by omega, hs2]
            first | (rw [if_pos (by omega)]; omega) | (rw [if_neg (by omega)]; omega)
          refine lv_goto (tgt := 4) hx hb dX0_leader_40 (by decide) ?_
          exact ih4 (i) (z37) (by omega) (by omega) (hsn) (by omega) _ (lv_sub hl [2, 1, 0] rfl)
  exact cut4 _ (0) (1) (Nat.lt_succ_self _) (by omega) (by rfl) (by omega) _ (lv_sub hl [2, 1, 0] rfl)
end
section
/-! cards that are moved: what becomes of the picture -/
theorem getD_erase (l : List Int) (k j : Nat) : (l.eraseIdx k).getD j 0 = if j < k then l.getD j 0 else l.getD (j + 1) 0 := by
  simp only [List.getD_eq_getElem?_getD, List.getElem?_eraseIdx]
  split <;> rfl
theorem getD_app (l m : List Int) (j : Nat) : (l ++ m).getD j 0 = if j < l.length then l.getD j 0 else m.getD (j - l.length) 0 := by
  simp only [List.getD_eq_getElem?_getD, List.getElem?_append]
  split <;> rfl
theorem getD_snoc (l : List Int) (x : Int) (j : Nat) (h : j ≤ l.length) : (l ++ [x]).getD j 0 = if j < l.length then l.getD j 0 else x := by
  rw [getD_app]
  split
  · rfl
  · rw [show j - l.length = 0 by omega]
    rfl
theorem len_erase {l : List Int} {k : Nat} (h : k < l.length) : (l.eraseIdx k).length = l.length - 1 := by
  rw [List.length_eraseIdx, if_pos h]
def mvX (LX : Nat → List Int) (r k r2 : Nat) : Nat → List Int := fun q => if q = r then (LX r).eraseIdx k else if q = r2 then LX r2 ++ [(LX r).getD k 0] else LX q
theorem PX_move {g g1 : GS} {LX : Nat → List Int} (h : PX g LX) {r k r2 : Nat} (hr : r < r2 ∧ r2 < 16) (hk : k < (LX r).length) (h1 : ∀ j : Nat, g1 1 j = if r + 1 ≤ j ∧ j ≤ r2 then g 1 j - 1 else g 1 j) (h0 : ∀ j : Nat, g1 0 j = if (g 1 r).toNat + k ≤ j ∧ (j : Int) < g 1 (r2 + 1) - 1 then g 0 (j + 1) else if (j : Int) = g 1 (r2 + 1) - 1 then g 0 ((g 1 r).toNat + k) else g 0 j) : PX g1 (mvX LX r k r2) := by
  have hm := PX_M h
  have hb := MX_b hm
  have hlr := h.2.1 r (by omega)
  have hl2 := h.2.1 r2 (by omega)
  have hb1 := hb r (by omega)
  have hb2 := hb (r + 1) (by omega)
  have hb3 := hb r2 (by omega)
  have hb4 := hb (r2 + 1) (by omega)
  have hm1 := MX_le hm (a := r + 1) (b := r2) (by omega) (by omega)
  have hle := len_erase hk
  refine ⟨by rw [h1, if_neg (by omega)]; exact h.1, fun q hq => ?_, fun q hq k' hk' => ?_, by rw [h1, if_neg (by omega)]; exact h.2.2.2⟩
  · have hlq := h.2.1 q hq
    rw [h1, h1]
    unfold mvX
    by_cases e1 : q = r
    · subst e1
      rw [if_pos rfl, if_pos (by omega), if_neg (by omega), hle]
      omega
    · rw [if_neg e1]
      by_cases e2 : q = r2
      · subst e2
        rw [if_pos rfl, if_neg (by omega), if_pos (by omega), List.length_append, List.length_singleton]
        omega
      · rw [if_neg e2]
        by_cases e3 : r < q ∧ q < r2
        · rw [if_pos (by omega), if_pos (by omega)]; omega
        · rw [if_neg (by omega), if_neg (by omega)]; omega
  · have hlq := h.2.1 q hq
    have hcq := h.2.2.1 q hq
    have hbq := hb q (by omega)
    have hbq2 := hb (q + 1) (by omega)
    rw [h0, h1]
    unfold mvX at hk' ⊢
    by_cases e1 : q = r
    · subst e1
      rw [if_pos rfl] at hk' ⊢
      rw [hle] at hk'
      rw [getD_erase, if_neg (show ¬ (q + 1 ≤ q ∧ q ≤ r2) by omega)]
      by_cases e4 : k' < k
      · rw [if_pos e4, if_neg (by omega), if_neg (by omega)]
        exact hcq k' (by omega)
      · rw [if_neg e4, if_pos (by omega)]
        have := hcq (k' + 1) (by omega)
        rw [← this]
        congr 1
    · rw [if_neg e1] at hk' ⊢
      by_cases e2 : q = r2
      · subst e2
        rw [if_pos rfl] at hk' ⊢
        rw [List.length_append, List.length_singleton] at hk'
        rw [if_pos (show r + 1 ≤ q ∧ q ≤ q by omega), getD_snoc _ _ _ (by omega)]
        by_cases e4 : k' < (LX q).length
        · rw [if_pos e4, if_pos (by omega)]
          rw [← hcq k' e4]
          congr 1
          omega
        · rw [if_neg e4, if_neg (by omega), if_pos (by omega)]
          exact h.2.2.1 r (by omega) k hk
      · rw [if_neg e2] at hk' ⊢
        by_cases e3 : r < q ∧ q < r2
        · have hm2 := MX_le hm (a := r + 1) (b := q) (by omega) (by omega)
          have hm3 := MX_le hm (a := q + 1) (b := r2 + 1) (by omega) (by omega)
          rw [if_pos (show r + 1 ≤ q ∧ q ≤ r2 by omega), if_pos (by omega)]
          rw [← hcq k' hk']
          congr 1
          omega
        · rw [if_neg (show ¬ (r + 1 ≤ q ∧ q ≤ r2) by omega)]
          by_cases e5 : q < r
          · have hm2 := MX_le hm (a := q + 1) (b := r) (by omega) (by omega)
            rw [if_neg (by omega), if_neg (by omega)]
            exact hcq k' hk'
          · have hm2 := MX_le hm (a := r2 + 1) (b := q) (by omega) (by omega)
            rw [if_neg (by omega), if_neg (by omega)]
            exact hcq k' hk'
def ptX (LX : Nat → List Int) (r : Nat) (x : Int) : Nat → List Int := fun q => if q = r then LX r ++ [x] else LX q
theorem PX_put {g g1 : GS} {LX : Nat → List Int} (h : PX g LX) {r : Nat} {x : Int} (hr : r < 16) (h16 : g 1 16 < 164) (h1 : ∀ j : Nat, g1 1 j = if r + 1 ≤ j ∧ j ≤ 16 then g 1 j + 1 else g 1 j) (h0 : ∀ j : Nat, g1 0 j = if g 1 (r + 1) < j ∧ (j : Int) ≤ g 1 16 then g 0 (j - 1) else if (j : Int) = g 1 (r + 1) then x else g 0 j) : PX g1 (ptX LX r x) := by
  have hm := PX_M h
  have hb := MX_b hm
  have hlr := h.2.1 r (by omega)
  have hb1 := hb r (by omega)
  have hb2 := hb (r + 1) (by omega)
  refine ⟨by rw [h1, if_neg (by omega)]; exact h.1, fun q hq => ?_, fun q hq k' hk' => ?_, by rw [h1, if_pos (by omega)]; omega⟩
  · have hlq := h.2.1 q hq
    rw [h1, h1]
    unfold ptX
    by_cases e1 : q = r
    · subst e1
      rw [if_pos rfl, if_pos (by omega), if_neg (by omega), List.length_append, List.length_singleton]
      omega
    · rw [if_neg e1]
      by_cases e3 : r < q
      · rw [if_pos (by omega), if_pos (by omega)]; omega
      · rw [if_neg (by omega), if_neg (by omega)]; omega
  · have hlq := h.2.1 q hq
    have hcq := h.2.2.1 q hq
    have hbq := hb q (by omega)
    have hbq2 := hb (q + 1) (by omega)
    have hm4 := MX_le hm (a := q + 1) (b := 16) (by omega) (by omega)
    rw [h0, h1]
    unfold ptX at hk' ⊢
    by_cases e1 : q = r
    · subst e1
      rw [if_pos rfl] at hk' ⊢
      rw [List.length_append, List.length_singleton] at hk'
      rw [getD_snoc _ _ _ (by omega), if_neg (show ¬ (q + 1 ≤ q ∧ q ≤ 16) by omega)]
      by_cases e4 : k' < (LX q).length
      · rw [if_pos e4, if_neg (by omega), if_neg (by omega)]
        exact hcq k' e4
      · rw [if_neg e4, if_neg (by omega), if_pos (by omega)]
    · rw [if_neg e1] at hk' ⊢
      by_cases e3 : r < q
      · have hm2 := MX_le hm (a := r + 1) (b := q) (by omega) (by omega)
        rw [if_pos (show r + 1 ≤ q ∧ q ≤ 16 by omega), if_pos (by omega)]
        rw [← hcq k' hk']
        congr 1
        omega
      · have hm2 := MX_le hm (a := q + 1) (b := r) (by omega) (by omega)
        rw [if_neg (show ¬ (r + 1 ≤ q ∧ q ≤ 16) by omega), if_neg (by omega), if_neg (by omega)]
        exact hcq k' hk'
def dlX (LX : Nat → List Int) (r k : Nat) : Nat → List Int := fun q => if q = r then (LX r).eraseIdx k else LX q
theorem PX_del {g g1 : GS} {LX : Nat → List Int} (h : PX g LX) {r k : Nat} (hr : r < 16) (hk : k < (LX r).length) (h1 : ∀ j : Nat, g1 1 j = if r + 1 ≤ j ∧ j ≤ 16 then g 1 j - 1 else g 1 j) (h0 : ∀ j : Nat, g1 0 j = if (g 1 r).toNat + k ≤ j ∧ (j : Int) < g 1 16 - 1 then g 0 (j + 1) else g 0 j) : PX g1 (dlX LX r k) := by
  have hm := PX_M h
  have hb := MX_b hm
  have hlr := h.2.1 r (by omega)
  have hb1 := hb r (by omega)
  have hb2 := hb (r + 1) (by omega)
  have hle := len_erase hk
  have h164 := h.2.2.2
  refine ⟨by rw [h1, if_neg (by omega)]; exact h.1, fun q hq => ?_, fun q hq k' hk' => ?_, by rw [h1, if_pos (by omega)]; omega⟩
  · have hlq := h.2.1 q hq
    rw [h1, h1]
    unfold dlX
    by_cases e1 : q = r
    · subst e1
      rw [if_pos rfl, if_pos (by omega), if_neg (by omega), hle]
      omega
    · rw [if_neg e1]
      by_cases e3 : r < q
      · rw [if_pos (by omega), if_pos (by omega)]; omega
      · rw [if_neg (by omega), if_neg (by omega)]; omega
  · have hlq := h.2.1 q hq
    have hcq := h.2.2.1 q hq
    have hbq := hb q (by omega)
    have hbq2 := hb (q + 1) (by omega)
    have hm4 := MX_le hm (a := q + 1) (b := 16) (by omega) (by omega)
    rw [h0, h1]
    unfold dlX at hk' ⊢
    by_cases e1 : q = r
    · subst e1
      rw [if_pos rfl] at hk' ⊢
      rw [hle] at hk'
      rw [getD_erase, if_neg (show ¬ (q + 1 ≤ q ∧ q ≤ 16) by omega)]
      by_cases e4 : k' < k
      · rw [if_pos e4, if_neg (by omega)]
        exact hcq k' (by omega)
      · rw [if_neg e4, if_pos (by omega)]
        rw [← hcq (k' + 1) (by omega)]
        congr 1
    · rw [if_neg e1] at hk' ⊢
      by_cases e3 : r < q
      · have hm2 := MX_le hm (a := r + 1) (b := q) (by omega) (by omega)
        rw [if_pos (show r + 1 ≤ q ∧ q ≤ 16 by omega), if_pos (by omega)]
        rw [← hcq k' hk']
        congr 1
        omega
      · have hm2 := MX_le hm (a := q + 1) (b := r) (by omega) (by omega)
        rw [if_neg (show ¬ (r + 1 ≤ q ∧ q ≤ 16) by omega), if_neg (by omega)]
        exact hcq k' hk'
/-- a border moves: two parts one behind the other are cut anew -/
theorem PX_cut {g g1 : GS} {LX LY : Nat → List Int} (h : PX g LX) {r : Nat} (hr : r + 1 < 16) (hq : ∀ q : Nat, q ≠ r → q ≠ r + 1 → LY q = LX q) (ha : LY r ++ LY (r + 1) = LX r ++ LX (r + 1)) (h1 : ∀ j : Nat, g1 1 j = if j = r + 1 then g 1 r + ((LY r).length : Int) else g 1 j) (h0 : ∀ j : Nat, g1 0 j = g 0 j) : PX g1 LY := by
  have hb := MX_b (PX_M h)
  have hlr := h.2.1 r (by omega)
  have hl2 := h.2.1 (r + 1) (by omega)
  have hb1 := hb r (by omega)
  have hb2 := hb (r + 1) (by omega)
  have hlen := congrArg List.length ha
  rw [List.length_append, List.length_append] at hlen
  have key : ∀ j : Nat, j < (LX r ++ LX (r + 1)).length → g 0 ((g 1 r).toNat + j) = (LX r ++ LX (r + 1)).getD j 0 := by
    intro j hj
    rw [List.length_append] at hj
    rw [getD_app]
    by_cases e : j < (LX r).length
    · rw [if_pos e]; exact h.2.2.1 r (by omega) j e
    · rw [if_neg e, ← h.2.2.1 (r + 1) (by omega) (j - (LX r).length) (by omega)]
      congr 1
      omega
  refine ⟨by rw [h1, if_neg (by omega)]; exact h.1, fun q hq2 => ?_, fun q hq2 k hk => ?_, by rw [h1, if_neg (by omega)]; exact h.2.2.2⟩
  · have hlq := h.2.1 q hq2
    rw [h1, h1]
    by_cases e1 : q = r
    · subst e1
      rw [if_pos rfl, if_neg (by omega)]
    · by_cases e2 : q = r + 1
      · subst e2
        rw [if_neg (by omega), if_pos rfl]
        omega
      · rw [if_neg (by omega), if_neg e2, hq q e1 e2]
        exact hlq
  · rw [h0, h1]
    by_cases e1 : q = r
    · subst e1
      rw [if_neg (by omega), key k (by rw [← ha, List.length_append]; omega), ← ha, getD_app, if_pos hk]
    · by_cases e2 : q = r + 1
      · subst e2
        rw [if_pos rfl, show (g 1 r + ((LY r).length : Int)).toNat + k = (g 1 r).toNat + ((LY r).length + k) by omega, key _ (by rw [← ha, List.length_append]; omega), ← ha, getD_app, if_neg (by omega)]
        congr 1
        omega
      · rw [if_neg e2]
        rw [hq q e1 e2] at hk ⊢
        exact h.2.2.1 q hq2 k hk
end
section
set_option maxHeartbeats 4000000 in
set_option maxRecDepth 100000 in
theorem c_X0_beginTurn (l : Launch) (g : GS) : gmMv l yX0_beginTurn (wU yX0_beginTurn cX0_beginTurn 1 none) ({ frames := 0, cells := 0, slots := 0, locals := 0 } : Room) [] g (fun g1 => g1 = u2 (u2 (u2 (u2 g 4 6 0) 4 7 1) 4 8 1) 4 9 0) := by
  refine gmMv_of (by decide) (Nat.le_of_ble_eq_true rfl) ?_
  intro p e s m args below meth c D cI tb ad A ls cx hr hlocks hK hA hT hw hl
  have hx := cx.1
  have hb := cx.2.1
  have hl : lv_has ls 1 [(0, .ref (ad 0))] := hl
  refine lv_aload_n hx hb dX0_beginTurn_0 rfl (lv_at hl 0 rfl) ?_
  refine ts_iconst hx hb dX0_beginTurn_1 ?_
  refine gm_put6 cx hK hw tl_RX0_37 dX0_beginTurn_2 (fun g2 H locs hg2 hw => ?_)
  refine lv_aload_n hx hb dX0_beginTurn_5 rfl (lv_at hl 0 rfl) ?_
  refine ts_iconst hx hb dX0_beginTurn_6 ?_
  refine gm_put7 cx hK hw tl_RX0_40 dX0_beginTurn_7 (fun g7 H locs hg7 hw => ?_)
  refine lv_aload_n hx hb dX0_beginTurn_10 rfl (lv_at hl 0 rfl) ?_
  refine ts_iconst hx hb dX0_beginTurn_11 ?_
  refine gm_put8 cx hK hw tl_RX0_43 dX0_beginTurn_12 (fun g12 H locs hg12 hw => ?_)
  refine lv_aload_n hx hb dX0_beginTurn_15 rfl (lv_at hl 0 rfl) ?_
  refine ts_iconst hx hb dX0_beginTurn_16 ?_
  refine gm_put9 cx hK hw tl_RX0_46 dX0_beginTurn_17 (fun g17 H locs hg17 hw => ?_)
  exact gm_vret cx hr hlocks hw (by rw [hg17, hg12, hg7, hg2]) dX0_beginTurn_20
set_option maxHeartbeats 4000000 in
set_option maxRecDepth 100000 in
theorem c_X0_moveToEnd (l : Launch) (r k r2 : Nat) (g : GS) (hrr : r < r2 ∧ r2 < 16) (hm : MX g) (hk : (k : Int) < g 1 (r + 1) - g 1 r) : gmMv l yX0_moveToEnd (wU yX0_moveToEnd cX0_moveToEnd 8 none) ({ frames := 1, cells := 0, slots := 0, locals := 60 } : Room) [.int (iN ((r : Int))), .int (iN ((k : Int))), .int (iN ((r2 : Int)))] g (fun g1 => (∀ j : Nat, g1 1 j = if r + 1 ≤ j ∧ j ≤ r2 then g 1 j - 1 else g 1 j) ∧ (∀ j : Nat, g1 0 j = if (g 1 r).toNat + k ≤ j ∧ (j : Int) < g 1 (r2 + 1) - 1 then g 0 (j + 1) else if (j : Int) = g 1 (r2 + 1) - 1 then g 0 ((g 1 r).toNat + k) else g 0 j) ∧ g1 2 = g 2 ∧ g1 3 = g 3 ∧ g1 4 = g 4) := by
  refine gmMv_of (by decide) (Nat.le_of_ble_eq_true rfl) ?_
  intro p e s m args below meth c D cI tb ad A ls cx hr hlocks hK hA hT hw hl
  have hx := cx.1
  have hb := cx.2.1
  have hl : lv_has ls 8 [(0, .ref (ad 0)), (1, .int (iN ((r : Int)))), (2, .int (iN ((k : Int)))), (3, .int (iN ((r2 : Int))))] := hl
  have hT2 := MX_b hm
  have hq := MX_le hm (a := r + 1) (b := r2) (by omega) (by omega)
  have hq2 := hm.2.1 r2 (by omega)
  refine lv_aload_n hx hb dX0_moveToEnd_0 rfl (lv_at hl 0 rfl) ?_
  refine gm_get1 cx hK hw tl_RX0_15 dX0_moveToEnd_1 ?_
  refine lv_iload_n hx hb dX0_moveToEnd_4 rfl (lv_at hl 1 rfl) ?_
  refine gm_ld1 cx hK hw (r) (by omega) dX0_moveToEnd_5 (fun z5 hz5 => ?_)
  have hb5 := hT2 (r) (by omega)
  refine lv_iload_n hx hb dX0_moveToEnd_6 rfl (lv_at hl 2 rfl) ?_
  refine ts_iadd hx hb dX0_moveToEnd_7 (fun z7 hz7 => ?_)
  refine lv_istore (lv' := [(4, .int (iN z7)), (0, .ref (ad 0)), (1, .int (iN ((r : Int)))), (2, .int (iN ((k : Int)))), (3, .int (iN ((r2 : Int))))]) hx hb dX0_moveToEnd_8 hl (by decide) rfl (fun ls hl => ?_)
  refine lv_aload_n hx hb dX0_moveToEnd_10 rfl (lv_at hl 1 rfl) ?_
  refine gm_get1 cx hK hw tl_RX0_15 dX0_moveToEnd_11 ?_
  refine lv_iload_n hx hb dX0_moveToEnd_14 rfl (lv_at hl 4 rfl) ?_
  refine ts_iconst hx hb dX0_moveToEnd_15 ?_
  refine ts_iadd hx hb dX0_moveToEnd_16 (fun z16 hz16 => ?_)
  refine gm_ld1 cx hK hw (r2 + 1) (by omega) dX0_moveToEnd_17 (fun z17 hz17 => ?_)
  have hb17 := hT2 (r2 + 1) (by omega)
  refine ts_iconst hx hb dX0_moveToEnd_18 ?_
  refine ts_isub hx hb dX0_moveToEnd_19 (fun z19 hz19 => ?_)
  refine lv_istore (lv' := [(5, .int (iN z19)), (4, .int (iN z7)), (0, .ref (ad 0)), (1, .int (iN ((r : Int)))), (2, .int (iN ((k : Int)))), (3, .int (iN ((r2 : Int))))]) hx hb dX0_moveToEnd_20 hl (by decide) rfl (fun ls hl => ?_)
  refine lv_iload hx hb dX0_moveToEnd_22 (lv_at hl 1 rfl) ?_
  refine lv_aload_n hx hb dX0_moveToEnd_24 rfl (lv_at hl 2 rfl) ?_
  refine gm_get1 cx hK hw tl_RX0_15 dX0_moveToEnd_25 ?_
  refine lv_iload_n hx hb dX0_moveToEnd_28 rfl (lv_at hl 3 rfl) ?_
  refine gm_ld1 cx hK hw (r) (by omega) dX0_moveToEnd_29 (fun z29 hz29 => ?_)
  have hb29 := hT2 (r) (by omega)
  refine ts_icmp_lt (tgt := 48) hx hb (by omega) dX0_moveToEnd_30 (by decide) (fun c30 => ?_) (fun c30 => ?_)
  · exfalso
    omega
  · skip
    refine lv_iload hx hb dX0_moveToEnd_33 (lv_at hl 1 rfl) ?_
    refine lv_iload hx hb dX0_moveToEnd_35 (lv_at hl 0 rfl) ?_
    refine ts_icmp_gt (tgt := 48) hx hb (by omega) dX0_moveToEnd_37 (by decide) (fun c37 => ?_) (fun c37 => ?_)
    · exfalso
      omega
    · skip
      refine lv_iload hx hb dX0_moveToEnd_40 (lv_at hl 0 rfl) ?_
      refine ts_sipush hx hb dX0_moveToEnd_42 (by decide) ?_
      refine ts_icmp_lt (tgt := 49) hx hb (by omega) dX0_moveToEnd_45 (by decide) (fun c45 => ?_) (fun c45 => ?_)
      · skip
        refine lv_aload_n hx hb dX0_moveToEnd_49 rfl (lv_at hl 2 rfl) ?_
        refine gm_get0 cx hK hw tl_RX0_9 dX0_moveToEnd_50 ?_
        refine lv_iload hx hb dX0_moveToEnd_53 (lv_at hl 1 rfl) ?_
        refine gm_ld0 cx hK hw ((g 1 r).toNat + k) (by omega) dX0_moveToEnd_55 (fun z55 hz55 => ?_)
        refine lv_istore (lv' := [(6, .int (iN z55)), (5, .int (iN z19)), (4, .int (iN z7)), (0, .ref (ad 0)), (1, .int (iN ((r : Int)))), (2, .int (iN ((k : Int)))), (3, .int (iN ((r2 : Int))))]) hx hb dX0_moveToEnd_56 hl (by decide) rfl (fun ls hl => ?_)
        refine lv_aload_n hx hb dX0_moveToEnd_58 rfl (lv_at hl 3 rfl) ?_
        refine gm_get0 cx hK hw tl_RX0_9 dX0_moveToEnd_59 ?_
        refine lv_iload hx hb dX0_moveToEnd_62 (lv_at hl 2 rfl) ?_
        refine ts_iconst hx hb dX0_moveToEnd_64 ?_
        refine ts_iadd hx hb dX0_moveToEnd_65 (fun z65 hz65 => ?_)
        refine lv_aload_n hx hb dX0_moveToEnd_66 rfl (lv_at hl 3 rfl) ?_
        refine gm_get0 cx hK hw tl_RX0_9 dX0_moveToEnd_67 ?_
        refine lv_iload hx hb dX0_moveToEnd_70 (lv_at hl 2 rfl) ?_
        refine lv_iload hx hb dX0_moveToEnd_72 (lv_at hl 1 rfl) ?_
        refine lv_iload hx hb dX0_moveToEnd_74 (lv_at hl 2 rfl) ?_
        refine ts_isub hx hb dX0_moveToEnd_76 (fun z76 hz76 => ?_)
        refine gm_cpy cx hK hw hl (z65).toNat (z7).toNat (z76).toNat (by omega) tc_RX0 ⟨Nat.le_of_ble_eq_true rfl, Nat.le_of_ble_eq_true rfl⟩ dX0_moveToEnd_77 (fun g77 H locs hg77 hw => ?_)
        refine lv_aload_n hx hb dX0_moveToEnd_80 rfl (lv_at hl 3 rfl) ?_
        refine gm_get0 cx hK hw tl_RX0_9 dX0_moveToEnd_81 ?_
        refine lv_iload hx hb dX0_moveToEnd_84 (lv_at hl 1 rfl) ?_
        refine lv_iload hx hb dX0_moveToEnd_86 (lv_at hl 0 rfl) ?_
        refine gm_st0 cx hK hw (z19.toNat) (by omega) dX0_moveToEnd_88 (fun g88 H locs hg88 hw => ?_)
        refine lv_iload_n hx hb dX0_moveToEnd_89 rfl (lv_at hl 4 rfl) ?_
        refine ts_iconst hx hb dX0_moveToEnd_90 ?_
        refine ts_iadd hx hb dX0_moveToEnd_91 (fun z91 hz91 => ?_)
        refine lv_istore (lv' := [(7, .int (iN z91)), (6, .int (iN z55)), (5, .int (iN z19)), (4, .int (iN z7)), (0, .ref (ad 0)), (1, .int (iN ((r : Int)))), (2, .int (iN ((k : Int)))), (3, .int (iN ((r2 : Int))))]) hx hb dX0_moveToEnd_92 hl (by decide) rfl (fun ls hl => ?_)
        have cut94 : ∀ (fu : Nat) (i : Int) (ga : GS) (hmu : ((r2 : Int) + 1 - i).toNat < fu) (hi : (r : Int) + 1 ≤ i ∧ i ≤ r2 + 1) (ha : ∀ j : Nat, ga 1 j = if r + 1 ≤ j ∧ (j : Int) < i then g 1 j - 1 else g 1 j) (hb0 : ga 0 = g88 0 ∧ ga 2 = g 2 ∧ ga 3 = g 3 ∧ ga 4 = g 4) (H : Heap) (locs : List Loc) (hw : gmB D A s cI ad ga H locs) (ls : Array Slot) (hl : lv_has ls 8 [(0, .ref (ad 0)), (3, .int (iN ((r2 : Int)))), (7, .int (iN i))]), W p l e ({ frames := 1, cells := 0, slots := 0, locals := 60 } : Room) s m args below meth c H locs 0 0 (gmQv D cI ad A below args s (fun g1 => (∀ j : Nat, g1 1 j = if r + 1 ≤ j ∧ j ≤ r2 then g 1 j - 1 else g 1 j) ∧ (∀ j : Nat, g1 0 j = if (g 1 r).toNat + k ≤ j ∧ (j : Int) < g 1 (r2 + 1) - 1 then g 0 (j + 1) else if (j : Int) = g 1 (r2 + 1) - 1 then g 0 ((g 1 r).toNat + k) else g 0 j) ∧ g1 2 = g 2 ∧ g1 3 = g 3 ∧ g1 4 = g 4)) (F0 m 94 ls []) := by
          intro fu
          induction fu with
          | zero => intro i ga hmu; exact absurd hmu (Nat.not_lt_zero _)
          | succ fu ih94 =>
            intro i ga hmu hi ha hb0 H locs hw ls hl
            refine lv_iload hx hb dX0_moveToEnd_94 (lv_at hl 2 rfl) ?_
            refine lv_iload_n hx hb dX0_moveToEnd_96 rfl (lv_at hl 1 rfl) ?_
            refine ts_icmp_gt (tgt := 117) hx hb (by omega) dX0_moveToEnd_97 (by decide) (fun c97 => ?_) (fun c97 => ?_)
            · skip
              have hp1 : ∀ j : Nat, ga 1 j = if r + 1 ≤ j ∧ j ≤ r2 then g 1 j - 1 else g 1 j := by
                intro j
                rw [ha j]
                by_cases hj : r + 1 ≤ j ∧ j ≤ r2
                · rw [if_pos hj, if_pos (by omega)]
                · rw [if_neg hj, if_neg (by omega)]
              have hp0 : ∀ j : Nat, ga 0 j = if (g 1 r).toNat + k ≤ j ∧ (j : Int) < g 1 (r2 + 1) - 1 then g 0 (j + 1) else if (j : Int) = g 1 (r2 + 1) - 1 then g 0 ((g 1 r).toNat + k) else g 0 j := by
                intro j
                rw [hb0.1, hg88]
                by_cases hj : j = z19.toNat
                · rw [hj, u2_s, if_neg (by omega), if_pos (by omega), hz55]
                · rw [u2_k _ hj, hg77]
                  show (if 0 = 0 ∧ z7.toNat ≤ j ∧ j < z7.toNat + z76.toNat then g 0 (z65.toNat + (j - z7.toNat)) else g 0 j) = _
                  by_cases hj2 : z7.toNat ≤ j ∧ j < z7.toNat + z76.toNat
                  · rw [if_pos ⟨rfl, hj2⟩, if_pos (by omega)]
                    congr 1
                    omega
                  · rw [if_neg (fun q => hj2 q.2), if_neg (by omega), if_neg (by omega)]
              exact gm_vret cx hr hlocks hw (⟨hp1, hp0, hb0.2.1, hb0.2.2.1, hb0.2.2.2⟩) dX0_moveToEnd_117
            · skip
              refine lv_aload_n hx hb dX0_moveToEnd_100 rfl (lv_at hl 0 rfl) ?_
              refine gm_get1 cx hK hw tl_RX0_15 dX0_moveToEnd_101 ?_
              refine lv_iload hx hb dX0_moveToEnd_104 (lv_at hl 2 rfl) ?_
              refine lv_dup2_11 hx hb dX0_moveToEnd_106 rfl rfl ?_
              have hai := ha i.toNat
              rw [if_neg (by omega)] at hai
              have hbi := hT2 i.toNat (by omega)
              refine gm_ld1 cx hK hw (i.toNat) (by omega) dX0_moveToEnd_107 (fun z107 hz107 => ?_)
              have hb107 := hT2 (i.toNat) (by omega)
              refine ts_iconst hx hb dX0_moveToEnd_108 ?_
              refine ts_isub hx hb dX0_moveToEnd_109 (fun z109 hz109 => ?_)
              refine gm_st1 cx hK hw (i.toNat) (by omega) dX0_moveToEnd_110 (fun g110 H locs hg110 hw => ?_)
              obtain ⟨z111, hz111⟩ : ∃ z : Int, z = i + 1 := ⟨_, rfl⟩
              refine lv_iinc (v := iN z111) (lv' := [(7, .int (iN z111)), (0, .ref (ad 0)), (3, .int (iN ((r2 : Int))))]) hx hb dX0_moveToEnd_111 hl (k := 2) rfl (by rw [hz111]; exact iN_add _ _) (by decide) rfl (fun ls hl => ?_)
              have hnew : ∀ j : Nat, g110 1 j = if r + 1 ≤ j ∧ (j : Int) < z111 then g 1 j - 1 else g 1 j := by
                intro j
                rw [hg110]
                by_cases hj : j = i.toNat
                · rw [hj, u2_s, if_pos (by omega)]
                  omega
                · rw [u2_k _ hj, ha j]
                  by_cases hj2 : r + 1 ≤ j ∧ (j : Int) < i
                  · rw [if_pos hj2, if_pos (by omega)]
                  · rw [if_neg hj2, if_neg (by omega)]
              refine lv_goto (tgt := 94) hx hb dX0_moveToEnd_114 (by decide) ?_
              exact ih94 (z111) (g110) (by omega) (by omega) (hnew) (⟨by rw [hg110, u2_row _ (by decide)]; exact hb0.1, by rw [hg110, u2_row _ (by decide)]; exact hb0.2.1, by rw [hg110, u2_row _ (by decide)]; exact hb0.2.2.1, by rw [hg110, u2_row _ (by decide)]; exact hb0.2.2.2⟩) _ _ hw _ (lv_sub hl [1, 2, 0] rfl)
        exact cut94 _ (z91) (g88) (Nat.lt_succ_self _) (by omega) (fun j => by rw [if_neg (by omega), hg88, u2_row _ (by decide), hg77, uc_a _ (by decide)]) (⟨rfl, by rw [hg88, u2_row _ (by decide), hg77, uc_a _ (by decide)], by rw [hg88, u2_row _ (by decide), hg77, uc_a _ (by decide)], by rw [hg88, u2_row _ (by decide), hg77, uc_a _ (by decide)]⟩) _ _ hw _ (lv_sub hl [4, 7, 0] rfl)
      · exfalso
        omega
theorem wx_inj {a b : Nat} (ha : a < 4) (hb : b < 4) (h : wx a = wx b) : a = b := by
  unfold wx at h
  repeat' split at h
  all_goals omega
theorem lx_ul (L : LLT) (p r : Nat) (x : List Int) (hr : r < 4) : lx (ul L p (wx r) x) = fun q => if q = 4 * p + r then x else lx L q := by
  funext q
  unfold lx
  by_cases h : q = 4 * p + r
  · subst h
    rw [if_pos rfl, show (4 * p + r) / 4 = p by omega, show (4 * p + r) % 4 = r by omega, ul_s]
  · rw [if_neg h]
    unfold ul
    rw [if_neg]
    intro z
    have := wx_inj (Nat.mod_lt q (by omega)) hr z.2
    omega
theorem lx_mvL (L : LLT) (p r k r2 : Nat) (hr : r < 4) (hr2 : r2 < 4) (hne : r ≠ r2) : lx (mvL L p (wx r) k (wx r2)) = mvX (lx L) (4 * p + r) k (4 * p + r2) := by
  unfold mvL
  rw [lx_ul _ p r2 _ hr2, lx_ul _ p r _ hr]
  funext q
  unfold mvX
  rw [lx_at L p r hr, lx_at L p r2 hr2]
  by_cases h : q = 4 * p + r
  · subst h
    dsimp only
    rw [if_neg (by omega), if_pos rfl, if_pos rfl]
  · rw [if_neg h]
    simp only [if_neg h]
theorem flip_ne {L : LLT} {p : Nat} (h : L p 0 ≠ []) : flipL L p = L := if_neg h
theorem flip_flip {L : LLT} {p : Nat} (h : (flipL L p) p 0 = []) : flipL (flipL L p) p = flipL L p := by
  by_cases h0 : L p 0 = []
  · have e : flipL L p = ul (ul L p 0 (L p 3)) p 3 [] := if_pos h0
    have h3 : L p 3 = [] := by
      rw [e, ul_w _ _ (by decide), ul_s] at h
      exact h
    have e2 : flipL L p = ul (ul L p 0 []) p 3 [] := by rw [e, h3]
    rw [e2]
    unfold flipL
    rw [if_pos (by rw [ul_w _ _ (by decide), ul_s]), ul_s]
    funext p' w'
    by_cases hp : p' = p
    · subst hp
      by_cases hw : w' = 3
      · subst hw; rw [ul_s, ul_s]
      · rw [ul_w _ _ hw, ul_w _ _ hw]
        by_cases hw0 : w' = 0
        · subst hw0; rw [ul_s, ul_s]
        · rw [ul_w _ _ hw0, ul_w _ _ hw, ul_w _ _ hw0]
    · rw [ul_p _ _ hp, ul_p _ _ hp, ul_p _ _ hp, ul_p _ _ hp]
  · rw [flip_ne h0, flip_ne h0]
theorem dr_stop {L : LLT} {p : Nat} (h : (flipL L p) p 0 = []) : ∀ n : Nat, dr (n + 1) L p = flipL L p := by
  have e : dr1 L p = flipL L p := if_pos h
  have k : ∀ n : Nat, dr n (flipL L p) p = flipL L p := by
    intro n
    induction n with
    | zero => rfl
    | succ n ih =>
      show dr n (dr1 (flipL L p) p) p = flipL L p
      have e2 : dr1 (flipL L p) p = flipL (flipL L p) p := if_pos (by rw [flip_flip h]; exact h)
      rw [e2, flip_flip h]
      exact ih
  intro n
  show dr n (dr1 L p) p = _
  rw [e]
  exact k n
theorem PX_flip {g g1 : GS} {L : LLT} {p : Nat} (hp : p < 4) (h : PX g (lx L)) (h0 : L p 0 = []) (h1 : ∀ j : Nat, g1 1 j = if j = 4 * p + 1 then g 1 (4 * p + 2) else g 1 j) (hc : g1 0 = g 0) : PX g1 (lx (flipL L p)) := by
  have e : flipL L p = ul (ul L p (wx 0) (L p 3)) p (wx 1) [] := if_pos h0
  have a0 := h.2.1 (4 * p) (by omega)
  have a1 := h.2.1 (4 * p + 1) (by omega)
  have l0 : lx L (4 * p) = L p 0 := lx_at L p 0 (by omega)
  have l1 : lx L (4 * p + 1) = L p 3 := lx_at L p 1 (by omega)
  rw [l0, h0, List.length_nil] at a0
  rw [l1] at a1
  rw [e, lx_ul _ p 1 _ (by omega), lx_ul _ p 0 _ (by omega)]
  refine PX_cut h (r := 4 * p) (by omega) (fun q h2 h3 => by rw [if_neg h3]; exact if_neg h2) ?_ (fun j => ?_) (fun j => by rw [hc])
  · dsimp only
    rw [if_neg (by omega), if_pos (by omega), if_pos rfl, l0, l1, h0, List.append_nil, List.nil_append]
  · dsimp only
    rw [h1 j, if_neg (show ¬ 4 * p = 4 * p + 1 by omega), if_pos (show 4 * p = 4 * p + 0 by omega)]
    by_cases hj : j = 4 * p + 1
    · rw [if_pos hj, if_pos hj]
      rw [show 4 * p + 1 + 1 = 4 * p + 2 by omega] at a1
      omega
    · rw [if_neg hj, if_neg hj]
set_option maxHeartbeats 4000000 in
set_option maxRecDepth 100000 in
theorem c_X0_drawCards (l : Launch) (w n : Nat) (g : GS) (L : LLT) (hw4 : w < 4) (hn : n ≤ 164) (hx0 : PX g (lx L)) : gmMv l yX0_drawCards (wU yX0_drawCards cX0_drawCards 5 none) ({ frames := 2, cells := 0, slots := 0, locals := 87 } : Room) [.int (iN ((w : Int))), .int (iN ((n : Int)))] g (fun g1 => PX g1 (lx (dr n L w)) ∧ g1 2 = g 2 ∧ g1 3 = g 3 ∧ g1 4 = g 4) := by
  refine gmMv_of (by decide) (Nat.le_of_ble_eq_true rfl) ?_
  intro p e s m args below meth c D cI tb ad A ls cx hr hlocks hK hA hT hw hl
  have hx := cx.1
  have hb := cx.2.1
  have hl : lv_has ls 5 [(0, .ref (ad 0)), (1, .int (iN ((w : Int)))), (2, .int (iN ((n : Int))))] := hl
  refine lv_iload_n hx hb dX0_drawCards_0 rfl (lv_at hl 1 rfl) ?_
  refine ts_iconst hx hb dX0_drawCards_1 ?_
  refine ts_imul hx hb dX0_drawCards_2 (fun z2 hz2 => ?_)
  refine ts_iconst hx hb dX0_drawCards_3 ?_
  refine ts_iadd hx hb dX0_drawCards_4 (fun z4 hz4 => ?_)
  refine lv_istore_n (lv' := [(3, .int (iN z4)), (0, .ref (ad 0)), (1, .int (iN ((w : Int)))), (2, .int (iN ((n : Int))))]) hx hb dX0_drawCards_5 rfl hl (by decide) rfl (fun ls hl => ?_)
  refine ts_iconst hx hb dX0_drawCards_6 ?_
  refine lv_istore (lv' := [(4, .int (iN 0)), (3, .int (iN z4)), (0, .ref (ad 0)), (1, .int (iN ((w : Int)))), (2, .int (iN ((n : Int))))]) hx hb dX0_drawCards_7 hl (by decide) rfl (fun ls hl => ?_)
  have cut9 : ∀ (fu : Nat) (i : Int) (ga : GS) (Li : LLT) (hmu : ((n : Int) - i).toNat < fu) (hi : 0 ≤ i ∧ i ≤ n) (hxi : PX ga (lx Li)) (hdi : dr ((n : Int) - i).toNat Li w = dr n L w) (hri : ga 2 = g 2 ∧ ga 3 = g 3 ∧ ga 4 = g 4) (H : Heap) (locs : List Loc) (hw : gmB D A s cI ad ga H locs) (ls : Array Slot) (hl : lv_has ls 5 [(0, .ref (ad 0)), (2, .int (iN ((n : Int)))), (3, .int (iN z4)), (4, .int (iN i))]), W p l e ({ frames := 2, cells := 0, slots := 0, locals := 87 } : Room) s m args below meth c H locs 0 0 (gmQv D cI ad A below args s (fun g1 => PX g1 (lx (dr n L w)) ∧ g1 2 = g 2 ∧ g1 3 = g 3 ∧ g1 4 = g 4)) (F0 m 9 ls []) := by
    intro fu
    induction fu with
    | zero => intro i ga Li hmu; exact absurd hmu (Nat.not_lt_zero _)
    | succ fu ih9 =>
      intro i ga Li hmu hi hxi hdi hri H locs hw ls hl
      refine lv_iload hx hb dX0_drawCards_9 (lv_at hl 3 rfl) ?_
      refine lv_iload_n hx hb dX0_drawCards_11 rfl (lv_at hl 1 rfl) ?_
      refine ts_icmp_ge (tgt := 81) hx hb (by omega) dX0_drawCards_12 (by decide) (fun c12 => ?_) (fun c12 => ?_)
      · skip
        exact gm_vret cx hr hlocks hw (⟨by rw [← hdi, show ((n : Int) - i).toNat = 0 by omega]; exact hxi, hri⟩) dX0_drawCards_81
      · skip
        have hmi := PX_M hxi
        have hl0 := hxi.2.1 (4 * w) (by omega)
        rw [show lx Li (4 * w) = Li w 0 from lx_at Li w 0 (by omega)] at hl0
        refine lv_aload_n hx hb dX0_drawCards_15 rfl (lv_at hl 0 rfl) ?_
        refine gm_get1 cx hK hw tl_RX0_15 dX0_drawCards_16 ?_
        refine lv_iload_n hx hb dX0_drawCards_19 rfl (lv_at hl 2 rfl) ?_
        refine gm_ld1 cx hK hw (4 * w) (by omega) dX0_drawCards_20 (fun z20 hz20 => ?_)
        have hb20 := MX_b hmi (4 * w) (by omega)
        refine lv_aload_n hx hb dX0_drawCards_21 rfl (lv_at hl 0 rfl) ?_
        refine gm_get1 cx hK hw tl_RX0_15 dX0_drawCards_22 ?_
        refine lv_iload_n hx hb dX0_drawCards_25 rfl (lv_at hl 2 rfl) ?_
        refine ts_iconst hx hb dX0_drawCards_26 ?_
        refine ts_iadd hx hb dX0_drawCards_27 (fun z27 hz27 => ?_)
        refine gm_ld1 cx hK hw (4 * w + 1) (by omega) dX0_drawCards_28 (fun z28 hz28 => ?_)
        have hb28 := MX_b hmi (4 * w + 1) (by omega)
        have cut48 : ∀ (gb : GS) (hxb : PX gb (lx (flipL Li w))) (hrb : gb 2 = g 2 ∧ gb 3 = g 3 ∧ gb 4 = g 4) (H : Heap) (locs : List Loc) (hw : gmB D A s cI ad gb H locs) (ls : Array Slot) (hl : lv_has ls 5 [(0, .ref (ad 0)), (2, .int (iN ((n : Int)))), (3, .int (iN z4)), (4, .int (iN i))]), W p l e ({ frames := 2, cells := 0, slots := 0, locals := 87 } : Room) s m args below meth c H locs 0 0 (gmQv D cI ad A below args s (fun g1 => PX g1 (lx (dr n L w)) ∧ g1 2 = g 2 ∧ g1 3 = g 3 ∧ g1 4 = g 4)) (F0 m 48 ls []) := by
          intro gb hxb hrb H locs hw ls hl
          have hmi := PX_M hxb
          have hl1 := hxb.2.1 (4 * w) (by omega)
          rw [show lx (flipL Li w) (4 * w) = (flipL Li w) w 0 from lx_at (flipL Li w) w 0 (by omega)] at hl1
          refine lv_aload_n hx hb dX0_drawCards_48 rfl (lv_at hl 0 rfl) ?_
          refine gm_get1 cx hK hw tl_RX0_15 dX0_drawCards_49 ?_
          refine lv_iload_n hx hb dX0_drawCards_52 rfl (lv_at hl 2 rfl) ?_
          refine gm_ld1 cx hK hw (4 * w) (by omega) dX0_drawCards_53 (fun z53 hz53 => ?_)
          have hb53 := MX_b hmi (4 * w) (by omega)
          refine lv_aload_n hx hb dX0_drawCards_54 rfl (lv_at hl 0 rfl) ?_
          refine gm_get1 cx hK hw tl_RX0_15 dX0_drawCards_55 ?_
          refine lv_iload_n hx hb dX0_drawCards_58 rfl (lv_at hl 2 rfl) ?_
          refine ts_iconst hx hb dX0_drawCards_59 ?_
          refine ts_iadd hx hb dX0_drawCards_60 (fun z60 hz60 => ?_)
          refine gm_ld1 cx hK hw (4 * w + 1) (by omega) dX0_drawCards_61 (fun z61 hz61 => ?_)
          have hb61 := MX_b hmi (4 * w + 1) (by omega)
          refine ts_icmp_ne (tgt := 66) hx hb (by omega) dX0_drawCards_62 (by decide) (fun c62 => ?_) (fun c62 => ?_)
          · skip
            refine lv_aload_n hx hb dX0_drawCards_66 rfl (lv_at hl 0 rfl) ?_
            refine lv_iload_n hx hb dX0_drawCards_67 rfl (lv_at hl 2 rfl) ?_
            refine ts_iconst hx hb dX0_drawCards_68 ?_
            refine lv_iload_n hx hb dX0_drawCards_69 rfl (lv_at hl 2 rfl) ?_
            refine ts_iconst hx hb dX0_drawCards_70 ?_
            refine ts_iadd hx hb dX0_drawCards_71 (fun z71 hz71 => ?_)
            refine gm_callv (rest := []) cx hK hT hA hw hl (c_X0_moveToEnd l (4 * w) 0 (4 * w + 2) gb (by omega) hmi (by omega)) tg_RX0_90 ⟨rfl, rfl⟩ 3 rfl (by decide +kernel) ⟨Nat.le_of_ble_eq_true rfl, Nat.le_of_ble_eq_true rfl⟩ ⟨Nat.zero_le _, Nat.zero_le _⟩ (Nat.le_of_ble_eq_true rfl) dX0_drawCards_72 (by rw [show z4 = ((4 * w : Nat) : Int) by omega, show z71 = ((4 * w + 2 : Nat) : Int) by omega]; rfl) (fun g72 H locs hq72 hw => ?_)
            have hne : (flipL Li w) w 0 ≠ [] := fun z => by rw [z] at hl1; simp only [List.length_nil] at hl1; omega
            have hpos : 0 < ((flipL Li w) w 0).length := List.length_pos_iff.mpr hne
            have hxn : PX g72 (lx (dr1 Li w)) := by
              have e : dr1 Li w = mvL (flipL Li w) w (wx 0) 0 (wx 2) := if_neg hne
              rw [e, lx_mvL _ w 0 0 2 (by omega) (by omega) (by omega)]
              exact PX_move hxb (by omega) (by rw [show lx (flipL Li w) (4 * w + 0) = (flipL Li w) w 0 from lx_at (flipL Li w) w 0 (by omega)]; exact hpos) hq72.1 hq72.2.1
            obtain ⟨z75, hz75⟩ : ∃ z : Int, z = i + 1 := ⟨_, rfl⟩
            refine lv_iinc (v := iN z75) (lv' := [(4, .int (iN z75)), (0, .ref (ad 0)), (2, .int (iN ((n : Int)))), (3, .int (iN z4))]) hx hb dX0_drawCards_75 hl (k := 3) rfl (by rw [hz75]; exact iN_add _ _) (by decide) rfl (fun ls hl => ?_)
            have hnn : ((n : Int) - i).toNat = ((n : Int) - z75).toNat + 1 := by omega
            refine lv_goto (tgt := 9) hx hb dX0_drawCards_78 (by decide) ?_
            exact ih9 (z75) (g72) (dr1 Li w) (by omega) (by omega) (hxn) (by rw [← hdi, hnn]; show _ = dr (((n : Int) - z75).toNat) (dr1 Li w) w; rfl) (⟨hq72.2.2.1.trans hrb.1, hq72.2.2.2.1.trans hrb.2.1, hq72.2.2.2.2.trans hrb.2.2⟩) _ _ hw _ (lv_sub hl [1, 2, 3, 0] rfl)
          · skip
            have he := dr_stop (List.length_eq_zero_iff.mp (show ((flipL Li w) w 0).length = 0 by omega)) (((n : Int) - i).toNat - 1)
            rw [show ((n : Int) - i).toNat - 1 + 1 = ((n : Int) - i).toNat by omega, hdi] at he
            exact gm_vret cx hr hlocks hw (⟨by rw [he]; exact hxb, hrb⟩) dX0_drawCards_65
        refine ts_icmp_ne (tgt := 48) hx hb (by omega) dX0_drawCards_29 (by decide) (fun c29 => ?_) (fun c29 => ?_)
        · skip
          exact cut48 (ga) (by rw [flip_ne (fun z => by rw [z] at hl0; exact c29 (by rw [hz20, hz28]; simp only [List.length_nil] at hl0; omega))]; exact hxi) (hri) _ _ hw _ (lv_sub hl [0, 1, 2, 3] rfl)
        · skip
          refine lv_aload_n hx hb dX0_drawCards_32 rfl (lv_at hl 0 rfl) ?_
          refine gm_get1 cx hK hw tl_RX0_15 dX0_drawCards_33 ?_
          refine lv_iload_n hx hb dX0_drawCards_36 rfl (lv_at hl 2 rfl) ?_
          refine ts_iconst hx hb dX0_drawCards_37 ?_
          refine ts_iadd hx hb dX0_drawCards_38 (fun z38 hz38 => ?_)
          refine lv_aload_n hx hb dX0_drawCards_39 rfl (lv_at hl 0 rfl) ?_
          refine gm_get1 cx hK hw tl_RX0_15 dX0_drawCards_40 ?_
          refine lv_iload_n hx hb dX0_drawCards_43 rfl (lv_at hl 2 rfl) ?_
          refine ts_iconst hx hb dX0_drawCards_44 ?_
          refine ts_iadd hx hb dX0_drawCards_45 (fun z45 hz45 => ?_)
          refine gm_ld1 cx hK hw (4 * w + 2) (by omega) dX0_drawCards_46 (fun z46 hz46 => ?_)
          have hb46 := MX_b hmi (4 * w + 2) (by omega)
          refine gm_st1 cx hK hw (4 * w + 1) (by omega) dX0_drawCards_47 (fun g47 H locs hg47 hw => ?_)
          have h47j : ∀ j : Nat, g47 1 j = if j = 4 * w + 1 then ga 1 (4 * w + 2) else ga 1 j := by
            intro j
            rw [hg47]
            by_cases hj : j = 4 * w + 1
            · rw [hj, u2_s, if_pos rfl, hz46]
            · rw [u2_k _ hj, if_neg hj]
          exact cut48 (g47) (PX_flip hw4 hxi (List.length_eq_zero_iff.mp (by omega)) h47j (by rw [hg47, u2_row _ (by decide)])) (⟨by rw [hg47, u2_row _ (by decide)]; exact hri.1, by rw [hg47, u2_row _ (by decide)]; exact hri.2.1, by rw [hg47, u2_row _ (by decide)]; exact hri.2.2⟩) _ _ hw _ (lv_sub hl [0, 1, 2, 3] rfl)
  exact cut9 _ (0) (g) (L) (Nat.lt_succ_self _) (by omega) (hx0) (by rw [show ((n : Int) - 0).toNat = n by omega]) (⟨rfl, rfl, rfl⟩) _ _ hw _ (lv_sub hl [2, 4, 1, 0] rfl)
end
section
/-! what holds of every state -/
theorem u2_4 (g : GS) (k : Nat) (v : Int) (j : Nat) : u2 g 4 k v 4 j = if j = k then v else g 4 j := by
  unfold u2
  by_cases h : j = k
  · rw [if_pos h, if_pos ⟨rfl, h⟩]
  · rw [if_neg h, if_neg fun q => h q.2]
theorem u2_r (g : GS) (a k : Nat) (v : Int) (j : Nat) : u2 g a k v a j = if j = k then v else g a j := by
  unfold u2
  by_cases h : j = k
  · rw [if_pos h, if_pos ⟨rfl, h⟩]
  · rw [if_neg h, if_neg fun q => h q.2]
theorem sumN_term {f : Nat → Int} : ∀ {n k : Nat}, (∀ i, i < n → 0 ≤ f i) → k < n → f k ≤ sumN f n
  | 0, k, _, hk => by omega
  | n + 1, k, h, hk => by
    have h1 := sumN_nonneg (f := f) (n := n) (fun i hi => h i (by omega))
    have h2 := h n (by omega)
    show f k ≤ sumN f n + f n
    by_cases e : k = n
    · subst e; omega
    · have := sumN_term (f := f) (n := n) (k := k) (fun i hi => h i (by omega)) (by omega)
      omega
def lenS (L : LLT) : Int := sumN (fun q => ((L (q / 4) (q % 4)).length : Int)) 16
def VS (S : StT) : Prop := (2 ≤ S.1 0 ∧ S.1 0 ≤ 4) ∧ (0 ≤ S.1 1 ∧ S.1 1 < S.1 0) ∧ (0 ≤ S.1 6 ∧ S.1 6 ≤ 9) ∧ (0 ≤ S.1 9 ∧ S.1 9 ≤ 9) ∧ (S.1 8 = 0 ∨ S.1 8 = 1) ∧ (∀ k : Nat, k < 20 → 0 ≤ S.1 (10 + k)) ∧ (0 ≤ S.1 2 ∧ S.1 2 ≤ 3 * ((S.2 (pl S) 2).length : Int)) ∧ (0 ≤ S.1 3 ∧ S.1 3 ≤ 1 + ((S.2 (pl S) 2).length : Int)) ∧ (0 ≤ S.1 4 ∧ S.1 4 ≤ 1 + ((S.2 (pl S) 2).length : Int)) ∧ (0 ≤ S.1 5 ∧ S.1 5 ≤ ((S.2 (pl S) 2).length : Int)) ∧ (∀ p w : Nat, ∀ x ∈ S.2 p w, 0 ≤ x ∧ x ≤ 9) ∧ (∀ p w : Nat, ¬ ((p : Int) < S.1 0 ∧ w < 4) → S.2 p w = []) ∧ sumN (fun k => S.1 (10 + k)) 20 + lenS S.2 = 164
theorem lenS_nonneg (L : LLT) : 0 ≤ lenS L := sumN_nonneg fun i _ => by omega
theorem lenS_len (L : LLT) {p w : Nat} (hp : p < 4) (hw : w < 4) : ((L p w).length : Int) ≤ lenS L := by
  have h := sumN_term (f := fun q => ((L (q / 4) (q % 4)).length : Int)) (n := 16) (k := 4 * p + w) (fun i _ => by omega) (by omega)
  simp only [show (4 * p + w) / 4 = p by omega, show (4 * p + w) % 4 = w by omega] at h
  exact h
theorem PX_tot {g : GS} {L : LLT} (h : PX g (lx L)) : g 1 16 = lenS L := by
  have e : ∀ r : Nat, r < 16 → g 1 (r + 1) = g 1 r + ((lx L r).length : Int) := h.2.1
  have h0 := h.1
  have e0 : g 1 1 = g 1 0 + ((L 0 0).length : Int) := e 0 (by omega)
  have e1 : g 1 2 = g 1 1 + ((L 0 3).length : Int) := e 1 (by omega)
  have e2 : g 1 3 = g 1 2 + ((L 0 1).length : Int) := e 2 (by omega)
  have e3 : g 1 4 = g 1 3 + ((L 0 2).length : Int) := e 3 (by omega)
  have e4 : g 1 5 = g 1 4 + ((L 1 0).length : Int) := e 4 (by omega)
  have e5 : g 1 6 = g 1 5 + ((L 1 3).length : Int) := e 5 (by omega)
  have e6 : g 1 7 = g 1 6 + ((L 1 1).length : Int) := e 6 (by omega)
  have e7 : g 1 8 = g 1 7 + ((L 1 2).length : Int) := e 7 (by omega)
  have e8 : g 1 9 = g 1 8 + ((L 2 0).length : Int) := e 8 (by omega)
  have e9 : g 1 10 = g 1 9 + ((L 2 3).length : Int) := e 9 (by omega)
  have e10 : g 1 11 = g 1 10 + ((L 2 1).length : Int) := e 10 (by omega)
  have e11 : g 1 12 = g 1 11 + ((L 2 2).length : Int) := e 11 (by omega)
  have e12 : g 1 13 = g 1 12 + ((L 3 0).length : Int) := e 12 (by omega)
  have e13 : g 1 14 = g 1 13 + ((L 3 3).length : Int) := e 13 (by omega)
  have e14 : g 1 15 = g 1 14 + ((L 3 1).length : Int) := e 14 (by omega)
  have e15 : g 1 16 = g 1 15 + ((L 3 2).length : Int) := e 15 (by omega)
  have eL : lenS L = 0 + ((L 0 0).length : Int) + ((L 0 1).length : Int) + ((L 0 2).length : Int) + ((L 0 3).length : Int) + ((L 1 0).length : Int) + ((L 1 1).length : Int) + ((L 1 2).length : Int) + ((L 1 3).length : Int) + ((L 2 0).length : Int) + ((L 2 1).length : Int) + ((L 2 2).length : Int) + ((L 2 3).length : Int) + ((L 3 0).length : Int) + ((L 3 1).length : Int) + ((L 3 2).length : Int) + ((L 3 3).length : Int) := rfl
  omega
theorem VS_pos {S : StT} (h : VS S) : 0 ≤ sumN (fun k => S.1 (10 + k)) 20 := sumN_nonneg fun k hk => h.2.2.2.2.2.1 k hk
theorem VS_pile {S : StT} (h : VS S) (k : Nat) (hk : k < 20) : 0 ≤ S.1 (10 + k) ∧ S.1 (10 + k) + lenS S.2 ≤ 164 := by
  have h1 := h.2.2.2.2.2.1
  have h2 := sumN_term (f := fun k => S.1 (10 + k)) (n := 20) (k := k) (fun i hi => h1 i hi) hk
  have h3 := h.2.2.2.2.2.2.2.2.2.2.2.2
  exact ⟨h1 k hk, by omega⟩
theorem VS_pl {S : StT} (h : VS S) : pl S < 4 ∧ ((pl S : Nat) : Int) = S.1 1 := by
  have h1 := h.1
  have h2 := h.2.1
  unfold pl
  omega
theorem VS_len {S : StT} (h : VS S) {p w : Nat} (hp : p < 4) (hw : w < 4) : ((S.2 p w).length : Int) ≤ 164 := by
  have h1 := lenS_len S.2 hp hw
  have h2 := VS_pos h
  have h3 := h.2.2.2.2.2.2.2.2.2.2.2.2
  omega
theorem VS_NX {g : GS} {S : StT} (hx : RX g S) (h : VS S) : NX g := by
  obtain ⟨⟨r0, r1, r2, r3, r4, r5, r6, r9, r7, r8, rp, rq⟩, -⟩ := hx
  have hl := VS_len h (p := pl S) (w := 2) (VS_pl h).1 (by omega)
  have hl0 := lenS_nonneg S.2
  have hp := VS_pile h
  obtain ⟨v0, v1, v6, v9, v8, vp, v2, v3, v4, v5, -, -, -⟩ := h
  refine ⟨by omega, by omega, by omega, by omega, by omega, by omega, by omega, by omega, by omega, fun k hk => ?_, fun k hk => ?_⟩
  · rw [rp k hk]
    have := hp k (by omega)
    omega
  · rw [rq k hk]
    have := hp (10 + k) (by omega)
    rw [show 10 + (10 + k) = 20 + k by omega] at this
    omega
theorem VS_kinds {S : StT} (h : VS S) : kindsOk (lx S.2) := fun r hr k hk => by
  have h1 := h.2.2.2.2.2.2.2.2.2.2.1 (r / 4) (wx (r % 4))
  have h2 : (lx S.2 r).getD k 0 ∈ S.2 (r / 4) (wx (r % 4)) := by
    rw [List.getD_eq_getElem?_getD, List.getElem?_eq_getElem hk]
    exact List.getElem_mem hk
  exact h1 _ h2
theorem VS_hand {S : StT} (h : VS S) {k : Nat} (hk : k < (hand S).length) : 0 ≤ (hand S).getD k 0 ∧ (hand S).getD k 0 ≤ 9 := by
  refine h.2.2.2.2.2.2.2.2.2.2.1 (pl S) 1 _ ?_
  rw [List.getD_eq_getElem?_getD, List.getElem?_eq_getElem hk]
  exact List.getElem_mem hk
/-! the answers of the moves, and what they leave -/
def buyO (S : StT) (k : Int) : Int × StT := if ¬ (0 ≤ k ∧ k ≤ 9) then (-1000001, S) else if why S.1 k.toNat ≠ 0 then (-1000002, S) else (S.1 (10 + k.toNat) - 1, buyA S k.toNat)
def playO (S : StT) (i : Int) : Int × StT := if ¬ (0 ≤ i ∧ i < (hand S).length) then (-1000001, S) else if S.1 8 = 1 ∨ (3 ≤ (hand S).getD i.toNat 0 ∧ (hand S).getD i.toNat 0 ≤ 5) ∨ (6 ≤ (hand S).getD i.toNat 0 ∧ S.1 4 ≤ 0) then (-1000002, S) else ((hand S).getD i.toNat 0, playA S i.toNat)
def scrO (S : StT) (i : Int) : Int × StT := if ¬ (0 ≤ i ∧ i < (hand S).length) then (-1000001, S) else if S.1 8 = 1 ∨ S.1 5 ≤ 0 then (-1000002, S) else ((hand S).getD i.toNat 0, scrA S i.toNat)
def endO (S : StT) : Int × StT := if S.1 8 = 1 then (-1000002, S) else ((endA S).1 1, endA S)
def begO (S : StT) (np : Int) : Int × StT := if ¬ (2 ≤ np ∧ np ≤ 4) then (-1000001, S) else (60 - 7 * np, begA S np)
theorem VS_hidx {g : GS} {S : StT} (hx : RX g S) (h : VS S) : (hand S = lx S.2 (4 * pl S + 2)) ∧ g 4 5 = ((pl S : Nat) : Int) ∧ g 1 (4 * pl S + 2 + 1) = g 1 (4 * pl S + 2) + ((hand S).length : Int) ∧ (∀ k : Nat, k < (hand S).length → g 0 ((g 1 (4 * pl S + 2)).toNat + k) = (hand S).getD k 0) := by
  have h1 := VS_pl h
  have e : hand S = lx S.2 (4 * pl S + 2) := (lx_at S.2 (pl S) 2 (by omega)).symm
  refine ⟨e, by rw [hx.1.2.1]; exact h1.2.symm, ?_, ?_⟩
  · rw [e]; exact hx.2.2.1 _ (by omega)
  · rw [e]; exact hx.2.2.2.1 _ (by omega)
end
section
set_option maxHeartbeats 4000000 in
set_option maxRecDepth 100000 in
theorem c_X0_takeFromPile (l : Launch) (w k : Nat) (g : GS) (L : LLT) (hw4 : w < 4) (hk : k < 10) (hx0 : PX g (lx L)) (hp : 0 ≤ g 2 k ∧ g 2 k ≤ 164) (h16 : 0 < g 2 k → g 1 16 < 164) : gmMv l yX0_takeFromPile (wU yX0_takeFromPile cX0_takeFromPile 5 none) ({ frames := 1, cells := 0, slots := 0, locals := 60 } : Room) [.int (iN ((w : Int))), .int (iN ((k : Int)))] g (fun g1 => (0 < g 2 k ∧ PX g1 (lx (ul L w 3 (L w 3 ++ [(k : Int)]))) ∧ (∀ j : Nat, g1 2 j = if j = k then g 2 k - 1 else g 2 j) ∧ g1 3 = g 3 ∧ g1 4 = g 4 ∧ g1 1 16 = g 1 16 + 1) ∨ (g 2 k = 0 ∧ g1 = g)) := by
  refine gmMv_of (by decide) (Nat.le_of_ble_eq_true rfl) ?_
  intro p e s m args below meth c D cI tb ad A ls cx hr hlocks hK hA hT hw hl
  have hx := cx.1
  have hb := cx.2.1
  have hl : lv_has ls 5 [(0, .ref (ad 0)), (1, .int (iN ((w : Int)))), (2, .int (iN ((k : Int))))] := hl
  have hm := PX_M hx0
  have hT2 := MX_b hm
  have hqq := MX_le hm (a := 4 * w + 2) (b := 16) (by omega) (by omega)
  refine lv_aload_n hx hb dX0_takeFromPile_0 rfl (lv_at hl 0 rfl) ?_
  refine gm_get1 cx hK hw tl_RX0_15 dX0_takeFromPile_1 ?_
  refine lv_iload_n hx hb dX0_takeFromPile_4 rfl (lv_at hl 1 rfl) ?_
  refine ts_iconst hx hb dX0_takeFromPile_5 ?_
  refine ts_imul hx hb dX0_takeFromPile_6 (fun z6 hz6 => ?_)
  refine ts_iconst hx hb dX0_takeFromPile_7 ?_
  refine ts_iadd hx hb dX0_takeFromPile_8 (fun z8 hz8 => ?_)
  refine gm_ld1 cx hK hw (4 * w + 2) (by omega) dX0_takeFromPile_9 (fun z9 hz9 => ?_)
  have hb9 := hT2 (4 * w + 2) (by omega)
  refine lv_istore_n (lv' := [(3, .int (iN z9)), (0, .ref (ad 0)), (1, .int (iN ((w : Int)))), (2, .int (iN ((k : Int))))]) hx hb dX0_takeFromPile_10 rfl hl (by decide) rfl (fun ls hl => ?_)
  refine lv_aload_n hx hb dX0_takeFromPile_11 rfl (lv_at hl 1 rfl) ?_
  refine gm_get2 cx hK hw tl_RX0_18 dX0_takeFromPile_12 ?_
  refine lv_iload_n hx hb dX0_takeFromPile_15 rfl (lv_at hl 3 rfl) ?_
  refine gm_ld2 cx hK hw (k) (by omega) dX0_takeFromPile_16 (fun z16 hz16 => ?_)
  refine ts_if_le (tgt := 33) hx hb (by omega) dX0_takeFromPile_17 (by decide) (fun c17 => ?_) (fun c17 => ?_)
  · skip
    exact gm_vret cx hr hlocks hw (Or.inr ⟨by omega, rfl⟩) dX0_takeFromPile_33
  · skip
    refine lv_aload_n hx hb dX0_takeFromPile_20 rfl (lv_at hl 1 rfl) ?_
    refine gm_get1 cx hK hw tl_RX0_15 dX0_takeFromPile_21 ?_
    refine ts_bipush hx hb dX0_takeFromPile_24 (by decide) ?_
    refine gm_ld1 cx hK hw (16) (by omega) dX0_takeFromPile_26 (fun z26 hz26 => ?_)
    have hb26 := hT2 (16) (by omega)
    refine ts_sipush hx hb dX0_takeFromPile_27 (by decide) ?_
    refine ts_icmp_lt (tgt := 34) hx hb (by omega) dX0_takeFromPile_30 (by decide) (fun c30 => ?_) (fun c30 => ?_)
    · skip
      refine lv_aload_n hx hb dX0_takeFromPile_34 rfl (lv_at hl 1 rfl) ?_
      refine gm_get0 cx hK hw tl_RX0_9 dX0_takeFromPile_35 ?_
      refine lv_iload_n hx hb dX0_takeFromPile_38 rfl (lv_at hl 0 rfl) ?_
      refine lv_aload_n hx hb dX0_takeFromPile_39 rfl (lv_at hl 1 rfl) ?_
      refine gm_get0 cx hK hw tl_RX0_9 dX0_takeFromPile_40 ?_
      refine lv_iload_n hx hb dX0_takeFromPile_43 rfl (lv_at hl 0 rfl) ?_
      refine ts_iconst hx hb dX0_takeFromPile_44 ?_
      refine ts_iadd hx hb dX0_takeFromPile_45 (fun z45 hz45 => ?_)
      refine lv_aload_n hx hb dX0_takeFromPile_46 rfl (lv_at hl 1 rfl) ?_
      refine gm_get1 cx hK hw tl_RX0_15 dX0_takeFromPile_47 ?_
      refine ts_bipush hx hb dX0_takeFromPile_50 (by decide) ?_
      refine gm_ld1 cx hK hw (16) (by omega) dX0_takeFromPile_52 (fun z52 hz52 => ?_)
      have hb52 := hT2 (16) (by omega)
      refine lv_iload_n hx hb dX0_takeFromPile_53 rfl (lv_at hl 0 rfl) ?_
      refine ts_isub hx hb dX0_takeFromPile_54 (fun z54 hz54 => ?_)
      refine gm_cpy cx hK hw hl (z9).toNat (z45).toNat (z54).toNat (by omega) tc_RX0 ⟨Nat.le_of_ble_eq_true rfl, Nat.le_of_ble_eq_true rfl⟩ dX0_takeFromPile_55 (fun g55 H locs hg55 hw => ?_)
      refine lv_aload_n hx hb dX0_takeFromPile_58 rfl (lv_at hl 1 rfl) ?_
      refine gm_get0 cx hK hw tl_RX0_9 dX0_takeFromPile_59 ?_
      refine lv_iload_n hx hb dX0_takeFromPile_62 rfl (lv_at hl 0 rfl) ?_
      refine lv_iload_n hx hb dX0_takeFromPile_63 rfl (lv_at hl 3 rfl) ?_
      refine gm_st0 cx hK hw (z9.toNat) (by omega) dX0_takeFromPile_64 (fun g64 H locs hg64 hw => ?_)
      refine lv_iload_n hx hb dX0_takeFromPile_65 rfl (lv_at hl 2 rfl) ?_
      refine ts_iconst hx hb dX0_takeFromPile_66 ?_
      refine ts_imul hx hb dX0_takeFromPile_67 (fun z67 hz67 => ?_)
      refine ts_iconst hx hb dX0_takeFromPile_68 ?_
      refine ts_iadd hx hb dX0_takeFromPile_69 (fun z69 hz69 => ?_)
      refine lv_istore (lv' := [(4, .int (iN z69)), (3, .int (iN z9)), (0, .ref (ad 0)), (1, .int (iN ((w : Int)))), (2, .int (iN ((k : Int))))]) hx hb dX0_takeFromPile_70 hl (by decide) rfl (fun ls hl => ?_)
      have cut72 : ∀ (fu : Nat) (i : Int) (ga : GS) (hmu : (17 - i).toNat < fu) (hi : (4 * w + 2 : Int) ≤ i ∧ i ≤ 17) (ha : ∀ j : Nat, ga 1 j = if 4 * w + 2 ≤ j ∧ (j : Int) < i then g 1 j + 1 else g 1 j) (hb0 : ga 0 = g64 0 ∧ ga 2 = g 2 ∧ ga 3 = g 3 ∧ ga 4 = g 4) (H : Heap) (locs : List Loc) (hw : gmB D A s cI ad ga H locs) (ls : Array Slot) (hl : lv_has ls 5 [(0, .ref (ad 0)), (2, .int (iN ((k : Int)))), (4, .int (iN i))]), W p l e ({ frames := 1, cells := 0, slots := 0, locals := 60 } : Room) s m args below meth c H locs 0 0 (gmQv D cI ad A below args s (fun g1 => (0 < g 2 k ∧ PX g1 (lx (ul L w 3 (L w 3 ++ [(k : Int)]))) ∧ (∀ j : Nat, g1 2 j = if j = k then g 2 k - 1 else g 2 j) ∧ g1 3 = g 3 ∧ g1 4 = g 4 ∧ g1 1 16 = g 1 16 + 1) ∨ (g 2 k = 0 ∧ g1 = g))) (F0 m 72 ls []) := by
        intro fu
        induction fu with
        | zero => intro i ga hmu; exact absurd hmu (Nat.not_lt_zero _)
        | succ fu ih72 =>
          intro i ga hmu hi ha hb0 H locs hw ls hl
          refine lv_iload hx hb dX0_takeFromPile_72 (lv_at hl 2 rfl) ?_
          refine ts_bipush hx hb dX0_takeFromPile_74 (by decide) ?_
          refine ts_icmp_gt (tgt := 96) hx hb (by omega) dX0_takeFromPile_76 (by decide) (fun c76 => ?_) (fun c76 => ?_)
          · skip
            refine lv_aload_n hx hb dX0_takeFromPile_96 rfl (lv_at hl 0 rfl) ?_
            refine gm_get2 cx hK hw tl_RX0_18 dX0_takeFromPile_97 ?_
            refine lv_iload_n hx hb dX0_takeFromPile_100 rfl (lv_at hl 1 rfl) ?_
            refine lv_dup2_11 hx hb dX0_takeFromPile_101 rfl rfl ?_
            refine gm_ld2 cx hK hw (k) (by omega) dX0_takeFromPile_102 (fun z102 hz102 => ?_)
            refine ts_iconst hx hb dX0_takeFromPile_103 ?_
            refine ts_isub hx hb dX0_takeFromPile_104 (fun z104 hz104 => ?_)
            refine gm_st2 cx hK hw (k) (by omega) dX0_takeFromPile_105 (fun g105 H locs hg105 hw => ?_)
            have hp1 : ∀ j : Nat, g105 1 j = if (4 * w + 1) + 1 ≤ j ∧ j ≤ 16 then g 1 j + 1 else g 1 j := by
              intro j
              rw [hg105, u2_row _ (by decide), ha j]
              by_cases hj : 4 * w + 2 ≤ j ∧ j ≤ 16
              · rw [if_pos hj, if_pos (by omega)]
              · rw [if_neg (by omega), if_neg (by omega)]
            have hp0 : ∀ j : Nat, g105 0 j = if g 1 ((4 * w + 1) + 1) < j ∧ (j : Int) ≤ g 1 16 then g 0 (j - 1) else if (j : Int) = g 1 ((4 * w + 1) + 1) then (k : Int) else g 0 j := by
              intro j
              rw [hg105, u2_row _ (by decide), hb0.1, hg64, u2_r, show (4 * w + 1) + 1 = 4 * w + 2 by omega]
              by_cases hj : j = z9.toNat
              · rw [hj, if_pos rfl, if_neg (by omega), if_pos (by omega)]
              · rw [if_neg hj, hg55]
                show (if 0 = 0 ∧ z45.toNat ≤ j ∧ j < z45.toNat + z54.toNat then g 0 (z9.toNat + (j - z45.toNat)) else g 0 j) = _
                by_cases hj2 : z45.toNat ≤ j ∧ j < z45.toNat + z54.toNat
                · rw [if_pos ⟨rfl, hj2⟩, if_pos (by omega)]
                  congr 1
                  omega
                · rw [if_neg (fun q => hj2 q.2), if_neg (by omega), if_neg (by omega)]
            have hput : PX g105 (lx (ul L w 3 (L w 3 ++ [(k : Int)]))) := by
              rw [show (3 : Nat) = wx 1 from rfl, lx_ul _ w 1 _ (by omega)]
              have e : (fun q => if q = 4 * w + 1 then L w (wx 1) ++ [(k : Int)] else lx L q) = ptX (lx L) (4 * w + 1) (k : Int) := by
                funext q
                unfold ptX
                rw [lx_at L w 1 (by omega)]
              rw [e]
              exact PX_put hx0 (by omega) (h16 (by omega)) hp1 hp0
            have hp2 : ∀ j : Nat, g105 2 j = if j = k then g 2 k - 1 else g 2 j := by
              intro j
              rw [hg105, u2_r, hz104, hz102, hb0.2.1]
            exact gm_vret cx hr hlocks hw (Or.inl ⟨by omega, hput, hp2, by rw [hg105, u2_row _ (by decide)]; exact hb0.2.2.1, by rw [hg105, u2_row _ (by decide)]; exact hb0.2.2.2, by rw [hp1 16, if_pos (by omega)]⟩) dX0_takeFromPile_106
          · skip
            refine lv_aload_n hx hb dX0_takeFromPile_79 rfl (lv_at hl 0 rfl) ?_
            refine gm_get1 cx hK hw tl_RX0_15 dX0_takeFromPile_80 ?_
            refine lv_iload hx hb dX0_takeFromPile_83 (lv_at hl 2 rfl) ?_
            refine lv_dup2_11 hx hb dX0_takeFromPile_85 rfl rfl ?_
            have hai := ha i.toNat
            rw [if_neg (by omega)] at hai
            have hbi := hT2 i.toNat (by omega)
            refine gm_ld1 cx hK hw (i.toNat) (by omega) dX0_takeFromPile_86 (fun z86 hz86 => ?_)
            have hb86 := hT2 (i.toNat) (by omega)
            refine ts_iconst hx hb dX0_takeFromPile_87 ?_
            refine ts_iadd hx hb dX0_takeFromPile_88 (fun z88 hz88 => ?_)
            refine gm_st1 cx hK hw (i.toNat) (by omega) dX0_takeFromPile_89 (fun g89 H locs hg89 hw => ?_)
            obtain ⟨z90, hz90⟩ : ∃ z : Int, z = i + 1 := ⟨_, rfl⟩
            refine lv_iinc (v := iN z90) (lv' := [(4, .int (iN z90)), (0, .ref (ad 0)), (2, .int (iN ((k : Int))))]) hx hb dX0_takeFromPile_90 hl (k := 2) rfl (by rw [hz90]; exact iN_add _ _) (by decide) rfl (fun ls hl => ?_)
            have hnew : ∀ j : Nat, g89 1 j = if 4 * w + 2 ≤ j ∧ (j : Int) < z90 then g 1 j + 1 else g 1 j := by
              intro j
              rw [hg89, u2_r]
              by_cases hj : j = i.toNat
              · rw [hj, if_pos rfl, if_pos (by omega)]
                omega
              · rw [if_neg hj, ha j]
                by_cases hj2 : 4 * w + 2 ≤ j ∧ (j : Int) < i
                · rw [if_pos hj2, if_pos (by omega)]
                · rw [if_neg hj2, if_neg (by omega)]
            refine lv_goto (tgt := 72) hx hb dX0_takeFromPile_93 (by decide) ?_
            exact ih72 (z90) (g89) (by omega) (by omega) (hnew) (⟨by rw [hg89, u2_row _ (by decide)]; exact hb0.1, by rw [hg89, u2_row _ (by decide)]; exact hb0.2.1, by rw [hg89, u2_row _ (by decide)]; exact hb0.2.2.1, by rw [hg89, u2_row _ (by decide)]; exact hb0.2.2.2⟩) _ _ hw _ (lv_sub hl [1, 2, 0] rfl)
      exact cut72 _ (z69) (g64) (Nat.lt_succ_self _) (by omega) (fun j => by rw [if_neg (by omega), hg64, u2_row _ (by decide), hg55, uc_a _ (by decide)]) (⟨rfl, by rw [hg64, u2_row _ (by decide), hg55, uc_a _ (by decide)], by rw [hg64, u2_row _ (by decide), hg55, uc_a _ (by decide)], by rw [hg64, u2_row _ (by decide), hg55, uc_a _ (by decide)]⟩) _ _ hw _ (lv_sub hl [2, 4, 0] rfl)
    · exfalso
      omega
theorem PX_row {g g1 : GS} {LX : Nat → List Int} (h : PX g LX) (h0 : g1 0 = g 0) (h1 : g1 1 = g 1) : PX g1 LX := by
  unfold PX
  rw [h0, h1]
  exact h
theorem mod_next {x n : Int} (hn : 2 ≤ n ∧ n ≤ 4) : (0 ≤ x % n ∧ x % n < n) ∧ (x % n + 1 < n → (x + 1) % n = x % n + 1) ∧ (x % n + 1 = n → (x + 1) % n = 0) := by
  have : n = 2 ∨ n = 3 ∨ n = 4 := by omega
  rcases this with rfl | rfl | rfl <;> omega
theorem why_0 {sc : SCT} {k : Nat} (h : why sc k = 0) : sc 8 ≠ 1 ∧ sc (10 + k) ≠ 0 ∧ sc 3 ≠ 0 ∧ tv 0 k ≤ sc 2 := by
  unfold why at h
  repeat' split at h
  all_goals first | omega | (refine ⟨by assumption, by assumption, by assumption, by omega⟩)
theorem PX_end {g g1 : GS} {L : LLT} {p : Nat} (hp : p < 4) (h : PX g (lx L)) (h1 : ∀ j : Nat, g1 1 j = if j = 4 * p + 2 ∨ j = 4 * p + 3 then g 1 (4 * p + 4) else g 1 j) (hc : g1 0 = g 0) : PX g1 (lx (enL L p)) := by
  have a1 := h.2.1 (4 * p + 1) (by omega)
  have a2 := h.2.1 (4 * p + 2) (by omega)
  have a3 := h.2.1 (4 * p + 3) (by omega)
  rw [show lx L (4 * p + 1) = L p 3 from lx_at L p 1 (by omega)] at a1
  rw [show lx L (4 * p + 2) = L p 1 from lx_at L p 2 (by omega)] at a2
  rw [show lx L (4 * p + 3) = L p 2 from lx_at L p 3 (by omega)] at a3
  let LY : Nat → List Int := fun q => if q = 4 * p + 2 then L p 1 ++ L p 2 else if q = 4 * p + 3 then [] else lx L q
  let ga : GS := fun a j => if a = 1 ∧ j = 4 * p + 3 then g 1 (4 * p + 4) else g a j
  have hA : PX ga LY := by
    refine PX_cut h (r := 4 * p + 2) (by omega) (fun q h2 h3 => by show (if q = 4 * p + 2 then _ else if q = 4 * p + 3 then _ else lx L q) = _; rw [if_neg h2, if_neg h3]) ?_ (fun j => ?_) (fun j => by show (if 0 = 1 ∧ _ then _ else _) = _; rw [if_neg (by omega)])
    · show (if 4 * p + 2 = 4 * p + 2 then _ else _) ++ (if 4 * p + 2 + 1 = 4 * p + 2 then _ else if 4 * p + 2 + 1 = 4 * p + 3 then _ else _) = _
      rw [if_pos rfl, if_neg (by omega), if_pos (by omega), List.append_nil, show lx L (4 * p + 2) = L p 1 from lx_at L p 2 (by omega), show lx L (4 * p + 2 + 1) = L p 2 from lx_at L p 3 (by omega)]
    · show (if 1 = 1 ∧ j = 4 * p + 3 then _ else _) = if j = 4 * p + 2 + 1 then g 1 (4 * p + 2) + (((if 4 * p + 2 = 4 * p + 2 then L p 1 ++ L p 2 else _ : List Int).length : Nat) : Int) else g 1 j
      by_cases hj : j = 4 * p + 3
      · rw [if_pos ⟨rfl, hj⟩, if_pos hj, if_pos rfl, List.length_append]
        rw [show 4 * p + 1 + 1 = 4 * p + 2 by omega] at a1
        rw [show 4 * p + 2 + 1 = 4 * p + 3 by omega] at a2
        rw [show 4 * p + 3 + 1 = 4 * p + 4 by omega] at a3
        omega
      · rw [if_neg (fun z => hj z.2), if_neg (by omega)]
  refine PX_cut hA (r := 4 * p + 1) (by omega) (fun q h2 h3 => ?_) ?_ (fun j => ?_) (fun j => by rw [hc]; show _ = (if 0 = 1 ∧ _ then _ else _); rw [if_neg (by omega)])
  · show lx (enL L p) q = (if q = 4 * p + 2 then _ else if q = 4 * p + 3 then _ else lx L q)
    have e : enL L p = ul (ul (ul L p (wx 1) (L p 3 ++ L p 1 ++ L p 2)) p (wx 2) []) p (wx 3) [] := rfl
    rw [e, lx_ul _ p 3 _ (by omega), lx_ul _ p 2 _ (by omega), lx_ul _ p 1 _ (by omega)]
    dsimp only
    rw [if_neg (show ¬ q = 4 * p + 2 by omega), if_neg (show ¬ q = 4 * p + 2 by omega), if_neg (show ¬ q = 4 * p + 1 by omega)]
  · have e : enL L p = ul (ul (ul L p (wx 1) (L p 3 ++ L p 1 ++ L p 2)) p (wx 2) []) p (wx 3) [] := rfl
    rw [show lx (enL L p) (4 * p + 1) = (enL L p) p 3 from lx_at _ p 1 (by omega), show lx (enL L p) (4 * p + 1 + 1) = (enL L p) p 1 from lx_at _ p 2 (by omega)]
    show _ = (if 4 * p + 1 = 4 * p + 2 then _ else if 4 * p + 1 = 4 * p + 3 then _ else lx L (4 * p + 1)) ++ (if 4 * p + 1 + 1 = 4 * p + 2 then L p 1 ++ L p 2 else _)
    rw [if_neg (by omega), if_neg (by omega), if_pos (by omega), show lx L (4 * p + 1) = L p 3 from lx_at L p 1 (by omega)]
    unfold enL
    rw [ul_w _ _ (by decide), ul_w _ _ (by decide), ul_s, ul_w _ _ (by decide), ul_s, List.append_nil, List.append_assoc]
  · have e3 : lx (enL L p) (4 * p + 1) = L p 3 ++ L p 1 ++ L p 2 := by
      rw [show lx (enL L p) (4 * p + 1) = (enL L p) p 3 from lx_at _ p 1 (by omega)]
      unfold enL
      rw [ul_w _ _ (by decide), ul_w _ _ (by decide), ul_s]
    rw [h1 j, e3, List.length_append, List.length_append]
    show _ = if j = 4 * p + 1 + 1 then (if 1 = 1 ∧ 4 * p + 1 = 4 * p + 3 then _ else g 1 (4 * p + 1)) + _ else (if 1 = 1 ∧ j = 4 * p + 3 then g 1 (4 * p + 4) else g 1 j)
    rw [show 4 * p + 1 + 1 = 4 * p + 2 by omega] at a1 ⊢
    rw [show 4 * p + 2 + 1 = 4 * p + 3 by omega] at a2
    rw [show 4 * p + 3 + 1 = 4 * p + 4 by omega] at a3
    by_cases hj : j = 4 * p + 2
    · rw [if_pos (Or.inl hj), if_pos hj, if_neg (by omega)]
      omega
    · rw [if_neg hj]
      by_cases hj3 : j = 4 * p + 3
      · rw [if_pos (Or.inr hj3), if_pos ⟨rfl, hj3⟩]
      · rw [if_neg (by omega), if_neg (fun z => hj3 z.2)]
set_option maxHeartbeats 4000000 in
set_option maxRecDepth 100000 in
theorem c_X0_giveCurses (l : Launch) (g : GS) (L : LLT) (hx0 : PX g (lx L)) (hn : 2 ≤ g 4 4 ∧ g 4 4 ≤ 4) (hn2 : 0 ≤ g 4 5 ∧ g 4 5 < g 4 4) (hp : 0 ≤ g 2 5) (hsum : g 1 16 + g 2 5 ≤ 164) : gmMv l yX0_giveCurses (wU yX0_giveCurses cX0_giveCurses 3 none) ({ frames := 2, cells := 0, slots := 0, locals := 84 } : Room) [] g (fun g1 => PX g1 (lx (cuN (g 4 5) (g 4 4) (g 4 4 - 1).toNat (g 2 5, L)).2) ∧ (∀ j : Nat, g1 2 j = if j = 5 then (cuN (g 4 5) (g 4 4) (g 4 4 - 1).toNat (g 2 5, L)).1 else g 2 j) ∧ g1 3 = g 3 ∧ g1 4 = g 4) := by
  refine gmMv_of (by decide) (Nat.le_of_ble_eq_true rfl) ?_
  intro p e s m args below meth c D cI tb ad A ls cx hr hlocks hK hA hT hw hl
  have hx := cx.1
  have hb := cx.2.1
  have hl : lv_has ls 3 [(0, .ref (ad 0))] := hl
  have hmn := mod_next (x := g 4 5) hn
  rw [Int.emod_eq_of_lt hn2.1 hn2.2] at hmn
  have h16a := (MX_b (PX_M hx0) 16 (by omega))
  refine lv_aload_n hx hb dX0_giveCurses_0 rfl (lv_at hl 0 rfl) ?_
  refine lv_aload_n hx hb dX0_giveCurses_1 rfl (lv_at hl 0 rfl) ?_
  refine gm_get5 cx hK hw tl_RX0_34 dX0_giveCurses_2 (fun z2 hz2 => ?_)
  refine gm_callr (rest := []) cx hK hT hA hw hl (c_X0_playerBehind l z2 g (by omega) hn) tg_RX0_115 ⟨rfl, rfl⟩ 1 rfl (by decide +kernel) ⟨Nat.le_of_ble_eq_true rfl, Nat.le_of_ble_eq_true rfl⟩ ⟨Nat.zero_le _, Nat.zero_le _⟩ (Nat.le_of_ble_eq_true rfl) dX0_giveCurses_5 (rfl) (fun z5 hz5 => ?_)
  refine lv_istore_n (lv' := [(1, .int (iN z5)), (0, .ref (ad 0))]) hx hb dX0_giveCurses_8 rfl hl (by decide) rfl (fun ls hl => ?_)
  refine ts_iconst hx hb dX0_giveCurses_9 ?_
  refine lv_istore_n (lv' := [(2, .int (iN 1)), (1, .int (iN z5)), (0, .ref (ad 0))]) hx hb dX0_giveCurses_10 rfl hl (by decide) rfl (fun ls hl => ?_)
  have cut11 : ∀ (fu : Nat) (x : Int) (i : Int) (ga : GS) (ci : Int × LLT) (hmu : (5 - i).toNat < fu) (hi : 1 ≤ i ∧ i ≤ g 4 4) (hxx : x = (g 4 5 + i) % g 4 4) (hxb : 0 ≤ x ∧ x < g 4 4) (hci : ci = cuN (g 4 5) (g 4 4) (i - 1).toNat (g 2 5, L)) (hxi : PX ga (lx ci.2)) (hpi : ∀ j : Nat, ga 2 j = if j = 5 then ci.1 else g 2 j) (hcb : 0 ≤ ci.1 ∧ ga 1 16 + ci.1 ≤ 164) (hr3 : ga 3 = g 3) (hr4 : ga 4 = g 4) (H : Heap) (locs : List Loc) (hw : gmB D A s cI ad ga H locs) (ls : Array Slot) (hl : lv_has ls 3 [(0, .ref (ad 0)), (1, .int (iN x)), (2, .int (iN i))]), W p l e ({ frames := 2, cells := 0, slots := 0, locals := 84 } : Room) s m args below meth c H locs 0 0 (gmQv D cI ad A below args s (fun g1 => PX g1 (lx (cuN (g 4 5) (g 4 4) (g 4 4 - 1).toNat (g 2 5, L)).2) ∧ (∀ j : Nat, g1 2 j = if j = 5 then (cuN (g 4 5) (g 4 4) (g 4 4 - 1).toNat (g 2 5, L)).1 else g 2 j) ∧ g1 3 = g 3 ∧ g1 4 = g 4)) (F0 m 11 ls []) := by
    intro fu
    induction fu with
    | zero => intro x i ga ci hmu; exact absurd hmu (Nat.not_lt_zero _)
    | succ fu ih11 =>
      intro x i ga ci hmu hi hxx hxb hci hxi hpi hcb hr3 hr4 H locs hw ls hl
      refine lv_iload_n hx hb dX0_giveCurses_11 rfl (lv_at hl 2 rfl) ?_
      refine lv_aload_n hx hb dX0_giveCurses_12 rfl (lv_at hl 0 rfl) ?_
      refine gm_get4 cx hK hw tl_RX0_30 dX0_giveCurses_13 (fun z13 hz13 => ?_)
      rw [hr4] at hz13
      refine ts_icmp_ge (tgt := 37) hx hb (by omega) dX0_giveCurses_16 (by decide) (fun c16 => ?_) (fun c16 => ?_)
      · skip
        have hie : i = g 4 4 := by omega
        rw [hie] at hci
        exact gm_vret cx hr hlocks hw (⟨by rw [← hci]; exact hxi, by rw [← hci]; exact hpi, hr3, hr4⟩) dX0_giveCurses_37
      · skip
        have h16b := (MX_b (PX_M hxi) 16 (by omega))
        have hmx := mod_next (x := g 4 5 + i) hn
        rw [← hxx] at hmx
        refine lv_aload_n hx hb dX0_giveCurses_19 rfl (lv_at hl 0 rfl) ?_
        refine lv_iload_n hx hb dX0_giveCurses_20 rfl (lv_at hl 1 rfl) ?_
        refine ts_iconst hx hb dX0_giveCurses_21 ?_
        refine gm_callv (rest := []) cx hK hT hA hw hl (c_X0_takeFromPile l x.toNat 5 ga ci.2 (by omega) (by omega) hxi (by rw [hpi 5, if_pos rfl]; omega) (by rw [hpi 5, if_pos rfl]; omega)) tg_RX0_119 ⟨rfl, rfl⟩ 2 rfl (by decide +kernel) ⟨Nat.le_of_ble_eq_true rfl, Nat.le_of_ble_eq_true rfl⟩ ⟨Nat.zero_le _, Nat.zero_le _⟩ (Nat.le_of_ble_eq_true rfl) dX0_giveCurses_22 (by rw [show x = ((x.toNat : Nat) : Int) by omega]; rfl) (fun g22 H locs hq22 hw => ?_)
        have h224 : g22 4 = g 4 := by
          rcases hq22 with q | q
          · exact q.2.2.2.2.1.trans hr4
          · rw [q.2]; exact hr4
        have hr3n : g22 3 = g 3 := by
          rcases hq22 with q | q
          · exact q.2.2.2.1.trans hr3
          · rw [q.2]; exact hr3
        have hc5 : ga 2 5 = ci.1 := by rw [hpi 5, if_pos rfl]
        rw [hc5] at hq22
        have hxn : PX g22 (lx (cu1 ci x.toNat).2) := by
          rcases hq22 with q | q
          · unfold cu1
            rw [if_pos q.1]
            exact q.2.1
          · unfold cu1
            rw [if_neg (by omega), q.2]
            exact hxi
        have hpn : ∀ j : Nat, g22 2 j = if j = 5 then (cu1 ci x.toNat).1 else g 2 j := by
          intro j
          rcases hq22 with q | q
          · rw [q.2.2.1 j]
            unfold cu1
            rw [if_pos q.1]
            by_cases hj : j = 5
            · rw [if_pos hj, if_pos hj]
            · rw [if_neg hj, if_neg hj, hpi j, if_neg hj]
          · have e0 : cu1 ci x.toNat = ci := if_neg (by omega)
            rw [e0, q.2]
            exact hpi j
        have hcbn : 0 ≤ (cu1 ci x.toNat).1 ∧ g22 1 16 + (cu1 ci x.toNat).1 ≤ 164 := by
          rcases hq22 with q | q
          · unfold cu1
            rw [if_pos q.1]
            have := q.2.2.2.2.2
            omega
          · unfold cu1
            rw [if_neg (by omega), q.2]
            exact hcb
        refine lv_aload_n hx hb dX0_giveCurses_25 rfl (lv_at hl 0 rfl) ?_
        refine lv_iload_n hx hb dX0_giveCurses_26 rfl (lv_at hl 1 rfl) ?_
        refine gm_callr (rest := []) cx hK hT hA hw hl (c_X0_playerBehind l x g22 (by rw [h224]; omega) (by rw [h224]; omega)) tg_RX0_115 ⟨rfl, rfl⟩ 1 rfl (by decide +kernel) ⟨Nat.le_of_ble_eq_true rfl, Nat.le_of_ble_eq_true rfl⟩ ⟨Nat.zero_le _, Nat.zero_le _⟩ (Nat.le_of_ble_eq_true rfl) dX0_giveCurses_27 (rfl) (fun z27 hz27 => ?_)
        rw [h224] at hz27
        refine lv_istore_n (lv' := [(1, .int (iN z27)), (0, .ref (ad 0)), (2, .int (iN i))]) hx hb dX0_giveCurses_30 rfl hl (by decide) rfl (fun ls hl => ?_)
        obtain ⟨z31, hz31⟩ : ∃ z : Int, z = i + 1 := ⟨_, rfl⟩
        refine lv_iinc (v := iN z31) (lv' := [(2, .int (iN z31)), (1, .int (iN z27)), (0, .ref (ad 0))]) hx hb dX0_giveCurses_31 hl (k := 2) rfl (by rw [hz31]; exact iN_add _ _) (by decide) rfl (fun ls hl => ?_)
        have hcn : cu1 ci x.toNat = cuN (g 4 5) (g 4 4) (z31 - 1).toNat (g 2 5, L) := by
          rw [show (z31 - 1).toNat = (i - 1).toNat + 1 by omega]
          show _ = cu1 (cuN (g 4 5) (g 4 4) (i - 1).toNat (g 2 5, L)) ((g 4 5 + (((i - 1).toNat : Nat) + 1)) % g 4 4).toNat
          rw [← hci, show (((i - 1).toNat : Nat) : Int) + 1 = i by omega, ← hxx]
        refine lv_goto (tgt := 11) hx hb dX0_giveCurses_34 (by decide) ?_
        exact ih11 (z27) (z31) (g22) (cu1 ci x.toNat) (by omega) (by omega) (by rw [hz31, show g 4 5 + (i + 1) = g 4 5 + i + 1 by omega]; omega) (by omega) (hcn) (hxn) (hpn) (hcbn) (hr3n) (h224) _ _ hw _ (lv_sub hl [2, 1, 0] rfl)
  exact cut11 _ (z5) (1) (g) ((g 2 5, L)) (Nat.lt_succ_self _) (by omega) (by omega) (by omega) (rfl) (hx0) (fun j => by by_cases hj : j = 5 <;> simp [hj]) (⟨hp, hsum⟩) (rfl) (rfl) _ _ hw _ (lv_sub hl [2, 1, 0] rfl)
end
section
set_option maxHeartbeats 4000000 in
set_option maxRecDepth 100000 in
theorem c_X0_buyCard (l : Launch) (kind : Int) (g : GS) (S : StT) (hx0 : RX g S) (hv0 : VS S) (hkb : -2147483648 ≤ kind ∧ kind ≤ 2147483647) : gmMi l yX0_buyCard (wU yX0_buyCard cX0_buyCard 2 (some .int)) ({ frames := 2, cells := 0, slots := 0, locals := 84 } : Room) [.int (iN kind)] g (fun z g1 => z = (buyO S kind).1 ∧ RX g1 (buyO S kind).2) := by
  refine gmMi_of (by decide) (Nat.le_of_ble_eq_true rfl) ?_
  intro p e s m args below meth c D cI tb ad A ls cx hr hlocks hK hA hT hw hl
  have hx := cx.1
  have hb := cx.2.1
  have hl : lv_has ls 2 [(0, .ref (ad 0)), (1, .int (iN kind))] := hl
  obtain ⟨h0, h1, h2, h3, h4, h5, h6, h9, h7, h8, hp, hs⟩ := id hx0.1
  have hpl := VS_pl hv0
  have hnx := VS_NX hx0 hv0
  have hnn := NX_13 hx0.1 hnx
  have hm := PX_M hx0.2
  have hm2 := PX_K hx0.2 (VS_kinds hv0)
  refine lv_iload_n hx hb dX0_buyCard_0 rfl (lv_at hl 1 rfl) ?_
  refine ts_if_lt (tgt := 10) hx hb (by omega) dX0_buyCard_1 (by decide) (fun c1 => ?_) (fun c1 => ?_)
  · skip
    refine ts_ldc (z := -1000001) hx hb cx.2.2.2.1 cx.2.2.2.2 tk_RX0_62 dX0_buyCard_10 ?_
    exact gm_ret cx hr hlocks hw (by unfold buyO; rw [if_pos (fun h => by omega)]; exact ⟨rfl, hx0⟩) dX0_buyCard_12
  · skip
    refine lv_iload_n hx hb dX0_buyCard_4 rfl (lv_at hl 1 rfl) ?_
    refine ts_bipush hx hb dX0_buyCard_5 (by decide) ?_
    refine ts_icmp_lt (tgt := 13) hx hb (by omega) dX0_buyCard_7 (by decide) (fun c7 => ?_) (fun c7 => ?_)
    · skip
      refine lv_aload_n hx hb dX0_buyCard_13 rfl (lv_at hl 0 rfl) ?_
      refine lv_iload_n hx hb dX0_buyCard_14 rfl (lv_at hl 1 rfl) ?_
      refine gm_callr (rest := []) cx hK hT hA hw hl (c_X0_whyNotBought l kind.toNat g S.1 (by omega) hx0.1 hnx) tg_RX0_122 ⟨rfl, rfl⟩ 1 rfl (by decide +kernel) ⟨Nat.le_of_ble_eq_true rfl, Nat.le_of_ble_eq_true rfl⟩ ⟨Nat.zero_le _, Nat.zero_le _⟩ (Nat.le_of_ble_eq_true rfl) dX0_buyCard_15 (by rw [show ((kind.toNat : Nat) : Int) = kind by omega]; rfl) (fun z15 hz15 => ?_)
      have hwb : 0 ≤ why S.1 kind.toNat ∧ why S.1 kind.toNat ≤ 5 := by unfold why; (repeat' split) <;> omega
      refine ts_if_eq (tgt := 24) hx hb (by omega) dX0_buyCard_18 (by decide) (fun c18 => ?_) (fun c18 => ?_)
      · skip
        have hw0 : why S.1 kind.toNat = 0 := by omega
        have hw1 := why_0 hw0
        have hvp := VS_pile hv0 kind.toNat (by omega)
        have hpk := hp kind.toNat (by omega)
        have hpb := hnx.2.2.2.2.2.2.2.2.2.1 kind.toNat (by omega)
        have hO : buyO S kind = (S.1 (10 + kind.toNat) - 1, buyA S kind.toNat) := by
          unfold buyO
          rw [if_neg (fun h => h (by omega)), if_neg (fun h => h hw0)]
        refine lv_aload_n hx hb dX0_buyCard_24 rfl (lv_at hl 0 rfl) ?_
        refine lv_dup hx hb dX0_buyCard_25 rfl ?_
        refine gm_get6 cx hK hw tl_RX0_37 dX0_buyCard_26 (fun z26 hz26 => ?_)
        refine tt_gst cx hT hw.2.2 0 (by decide) rfl dX0_buyCard_29 ?_
        refine lv_iload_n hx hb dX0_buyCard_32 rfl (lv_at hl 1 rfl) ?_
        refine tt_ld hx hb hT hw.2.2 0 (by decide) (kind.toNat) (by omega) dX0_buyCard_33 (fun z33 hz33 => ?_)
        have hb33 := tv_b 0 (kind.toNat)
        refine ts_isub hx hb dX0_buyCard_34 (fun z34 hz34 => ?_)
        refine gm_put6 cx hK hw tl_RX0_37 dX0_buyCard_35 (fun g35 H locs hg35 hw => ?_)
        refine lv_aload_n hx hb dX0_buyCard_38 rfl (lv_at hl 0 rfl) ?_
        refine lv_dup hx hb dX0_buyCard_39 rfl ?_
        refine gm_get7 cx hK hw tl_RX0_40 dX0_buyCard_40 (fun z40 hz40 => ?_)
        refine ts_iconst hx hb dX0_buyCard_43 ?_
        refine ts_isub hx hb dX0_buyCard_44 (fun z44 hz44 => ?_)
        refine gm_put7 cx hK hw tl_RX0_40 dX0_buyCard_45 (fun g45 H locs hg45 hw => ?_)
        refine lv_aload_n hx hb dX0_buyCard_48 rfl (lv_at hl 0 rfl) ?_
        refine lv_aload_n hx hb dX0_buyCard_49 rfl (lv_at hl 0 rfl) ?_
        refine gm_get5 cx hK hw tl_RX0_34 dX0_buyCard_50 (fun z50 hz50 => ?_)
        refine lv_iload_n hx hb dX0_buyCard_53 rfl (lv_at hl 1 rfl) ?_
        have hx45 : PX g45 (lx S.2) := PX_row hx0.2 (by rw [hg45, u2_row _ (by decide), hg35, u2_row _ (by decide)]) (by rw [hg45, u2_row _ (by decide), hg35, u2_row _ (by decide)])
        refine gm_callv (rest := []) cx hK hT hA hw hl (c_X0_takeFromPile l (pl S) kind.toNat g45 S.2 (by omega) (by omega) hx45 (by rw [hg45, u2_row _ (by decide), hg35, u2_row _ (by decide)]; exact hpb) (by rw [hg45, u2_row _ (by decide), u2_row _ (by decide), hg35, u2_row _ (by decide), u2_row _ (by decide)]; intro _; rw [PX_tot hx0.2]; omega)) tg_RX0_119 ⟨rfl, rfl⟩ 2 rfl (by decide +kernel) ⟨Nat.le_of_ble_eq_true rfl, Nat.le_of_ble_eq_true rfl⟩ ⟨Nat.zero_le _, Nat.zero_le _⟩ (Nat.le_of_ble_eq_true rfl) dX0_buyCard_54 (by rw [show ((kind.toNat : Nat) : Int) = kind by omega, show z50 = ((pl S : Nat) : Int) by rw [hz50, hg45, u2_4, if_neg (by decide), hg35, u2_4, if_neg (by decide), h1, hpl.2]]; rfl) (fun g54 H locs hq54 hw => ?_)
        have e2 : g45 2 = g 2 := by rw [hg45, u2_row _ (by decide), hg35, u2_row _ (by decide)]
        rw [e2] at hq54
        have hq : 0 < g 2 kind.toNat := by omega
        have hqq : PX g54 (lx (ul S.2 (pl S) 3 (S.2 (pl S) 3 ++ [((kind.toNat : Nat) : Int)]))) ∧ (∀ j : Nat, g54 2 j = if j = kind.toNat then g 2 kind.toNat - 1 else g 2 j) ∧ g54 3 = g 3 ∧ (∀ j : Nat, g54 4 j = if j = 7 then z44 else if j = 6 then z34 else g 4 j) := by
          rcases hq54 with q | q
          · refine ⟨q.2.1, q.2.2.1, ?_, fun j => ?_⟩
            · rw [q.2.2.2.1, hg45, u2_row _ (by decide), hg35, u2_row _ (by decide)]
            · rw [q.2.2.2.2.1, hg45, u2_4, hg35, u2_4]
          · omega
        have hz40b : z40 = g 4 7 := by rw [hz40, hg35, u2_4, if_neg (by decide)]
        have hpq := hqq.2.1 kind.toNat
        rw [if_pos rfl] at hpq
        have hR : RS g54 (buS S.1 kind.toNat) := ⟨by rw [hqq.2.2.2 4]; simp only [buS, uf]; (repeat' split) <;> omega, by rw [hqq.2.2.2 5]; simp only [buS, uf]; (repeat' split) <;> omega, by rw [hqq.2.2.2 6]; simp only [buS, uf]; (repeat' split) <;> omega, by rw [hqq.2.2.2 7]; simp only [buS, uf]; (repeat' split) <;> omega, by rw [hqq.2.2.2 8]; simp only [buS, uf]; (repeat' split) <;> omega, by rw [hqq.2.2.2 9]; simp only [buS, uf]; (repeat' split) <;> omega, by rw [hqq.2.2.2 10]; simp only [buS, uf]; (repeat' split) <;> omega, by rw [hqq.2.2.2 11]; simp only [buS, uf]; (repeat' split) <;> omega, by rw [hqq.2.2.2 12]; simp only [buS, uf]; (repeat' split) <;> omega, by rw [hqq.2.2.2 13]; simp only [buS, uf]; (repeat' split) <;> omega, fun j hj => by have hpj := hp j hj; rw [hqq.2.1 j]; simp only [buS, uf]; (repeat' split) <;> omega, fun j hj => by have hpj := hs j hj; rw [congrFun hqq.2.2.1 j]; simp only [buS, uf]; (repeat' split) <;> omega⟩
        refine lv_aload_n hx hb dX0_buyCard_57 rfl (lv_at hl 0 rfl) ?_
        refine gm_get2 cx hK hw tl_RX0_18 dX0_buyCard_58 ?_
        refine lv_iload_n hx hb dX0_buyCard_61 rfl (lv_at hl 1 rfl) ?_
        refine gm_ld2 cx hK hw (kind.toNat) (by omega) dX0_buyCard_62 (fun z62 hz62 => ?_)
        exact gm_ret cx hr hlocks hw (by rw [hO]; exact ⟨by show z62 = S.1 (10 + kind.toNat) - 1; omega, hR, hqq.1⟩) dX0_buyCard_63
      · skip
        refine ts_ldc (z := -1000002) hx hb cx.2.2.2.1 cx.2.2.2.2 tk_RX0_89 dX0_buyCard_21 ?_
        exact gm_ret cx hr hlocks hw (by unfold buyO; rw [if_neg (fun h => h (by omega)), if_pos (by omega)]; exact ⟨rfl, hx0⟩) dX0_buyCard_23
    · skip
      refine ts_ldc (z := -1000001) hx hb cx.2.2.2.1 cx.2.2.2.2 tk_RX0_62 dX0_buyCard_10 ?_
      exact gm_ret cx hr hlocks hw (by unfold buyO; rw [if_pos (fun h => by omega)]; exact ⟨rfl, hx0⟩) dX0_buyCard_12
set_option maxHeartbeats 4000000 in
set_option maxRecDepth 100000 in
theorem c_X0_scrapCard (l : Launch) (place : Int) (g : GS) (S : StT) (hx0 : RX g S) (hv0 : VS S) (hkb : -2147483648 ≤ place ∧ place ≤ 2147483647) : gmMi l yX0_scrapCard (wU yX0_scrapCard cX0_scrapCard 5 (some .int)) ({ frames := 1, cells := 0, slots := 0, locals := 60 } : Room) [.int (iN place)] g (fun z g1 => z = (scrO S place).1 ∧ RX g1 (scrO S place).2) := by
  refine gmMi_of (by decide) (Nat.le_of_ble_eq_true rfl) ?_
  intro p e s m args below meth c D cI tb ad A ls cx hr hlocks hK hA hT hw hl
  have hx := cx.1
  have hb := cx.2.1
  have hl : lv_has ls 5 [(0, .ref (ad 0)), (1, .int (iN place))] := hl
  obtain ⟨h0, h1, h2, h3, h4, h5, h6, h9, h7, h8, hp, hs⟩ := id hx0.1
  have hpl := VS_pl hv0
  have hnx := VS_NX hx0 hv0
  have hnn := NX_13 hx0.1 hnx
  have hm := PX_M hx0.2
  have hm2 := PX_K hx0.2 (VS_kinds hv0)
  obtain ⟨hh, hp5, hlen, hcd⟩ := VS_hidx hx0 hv0
  have hT2 := MX_b hm
  have hq16 := MX_le hm (a := 4 * pl S + 2 + 1) (b := 16) (by omega) (by omega)
  have hss := hnx.2.2.2.2.2.2.2.2.2.2
  have hn5 := hnx.2.2.2.2.2.1
  refine lv_aload_n hx hb dX0_scrapCard_0 rfl (lv_at hl 0 rfl) ?_
  refine lv_aload_n hx hb dX0_scrapCard_1 rfl (lv_at hl 0 rfl) ?_
  refine gm_get5 cx hK hw tl_RX0_34 dX0_scrapCard_2 (fun z2 hz2 => ?_)
  refine ts_iconst hx hb dX0_scrapCard_5 ?_
  refine lv_iload_n hx hb dX0_scrapCard_6 rfl (lv_at hl 1 rfl) ?_
  refine gm_callr (rest := []) cx hK hT hA hw hl (c_X0_cardOf l (pl S) 2 place g (by omega) (by omega) hkb hm hm2) tg_RX0_85 ⟨rfl, rfl⟩ 3 rfl (by decide +kernel) ⟨Nat.le_of_ble_eq_true rfl, Nat.le_of_ble_eq_true rfl⟩ ⟨Nat.zero_le _, Nat.zero_le _⟩ (Nat.le_of_ble_eq_true rfl) dX0_scrapCard_7 (by rw [show z2 = ((pl S : Nat) : Int) by omega]; rfl) (fun z7 hz7 => ?_)
  have hcz : (0 ≤ place ∧ place < (hand S).length ∧ z7 = (hand S).getD place.toNat 0 ∧ 0 ≤ z7 ∧ z7 ≤ 9) ∨ (¬ (0 ≤ place ∧ place < (hand S).length) ∧ z7 = -1) := by
    rcases hz7 with q | q
    · have e1 := hcd place.toNat (by omega)
      have e2 := VS_hand hv0 (k := place.toNat) (by omega)
      exact Or.inl ⟨by omega, by omega, by omega, by omega, by omega⟩
    · exact Or.inr ⟨by omega, by omega⟩
  refine lv_istore_n (lv' := [(2, .int (iN z7)), (0, .ref (ad 0)), (1, .int (iN place))]) hx hb dX0_scrapCard_10 rfl hl (by decide) rfl (fun ls hl => ?_)
  refine lv_iload_n hx hb dX0_scrapCard_11 rfl (lv_at hl 0 rfl) ?_
  refine ts_if_ge (tgt := 18) hx hb (by omega) dX0_scrapCard_12 (by decide) (fun c12 => ?_) (fun c12 => ?_)
  · skip
    refine lv_aload_n hx hb dX0_scrapCard_18 rfl (lv_at hl 1 rfl) ?_
    refine gm_get13 cx hK hw tl_RX0_58 dX0_scrapCard_19 (fun z19 hz19 => ?_)
    refine ts_if_ne (tgt := 32) hx hb (by omega) dX0_scrapCard_22 (by decide) (fun c22 => ?_) (fun c22 => ?_)
    · skip
      refine ts_ldc (z := -1000002) hx hb cx.2.2.2.1 cx.2.2.2.2 tk_RX0_89 dX0_scrapCard_32 ?_
      exact gm_ret cx hr hlocks hw (by unfold scrO; rw [if_neg (fun h => h (by omega)), if_pos (by omega)]; exact ⟨rfl, hx0⟩) dX0_scrapCard_34
    · skip
      refine lv_aload_n hx hb dX0_scrapCard_25 rfl (lv_at hl 1 rfl) ?_
      refine gm_get9 cx hK hw tl_RX0_46 dX0_scrapCard_26 (fun z26 hz26 => ?_)
      refine ts_if_gt (tgt := 35) hx hb (by omega) dX0_scrapCard_29 (by decide) (fun c29 => ?_) (fun c29 => ?_)
      · skip
        have hO : scrO S place = ((hand S).getD place.toNat 0, scrA S place.toNat) := by
          unfold scrO
          rw [if_neg (fun h => h (by omega)), if_neg (by omega)]
        refine lv_aload_n hx hb dX0_scrapCard_35 rfl (lv_at hl 1 rfl) ?_
        refine lv_dup hx hb dX0_scrapCard_36 rfl ?_
        refine gm_get9 cx hK hw tl_RX0_46 dX0_scrapCard_37 (fun z37 hz37 => ?_)
        refine ts_iconst hx hb dX0_scrapCard_40 ?_
        refine ts_isub hx hb dX0_scrapCard_41 (fun z41 hz41 => ?_)
        refine gm_put9 cx hK hw tl_RX0_46 dX0_scrapCard_42 (fun g42 H locs hg42 hw => ?_)
        refine lv_aload_n hx hb dX0_scrapCard_45 rfl (lv_at hl 1 rfl) ?_
        refine gm_get3 cx hK hw tl_RX0_21 dX0_scrapCard_46 ?_
        have hss2 : g42 3 = g 3 := by rw [hg42, u2_row _ (by decide)]
        rw [← hss2] at hss
        refine lv_iload_n hx hb dX0_scrapCard_49 rfl (lv_at hl 0 rfl) ?_
        refine lv_dup2_11 hx hb dX0_scrapCard_50 rfl rfl ?_
        refine gm_ld3 cx hK hw (z7.toNat) (by omega) dX0_scrapCard_51 (fun z51 hz51 => ?_)
        have hb51 := hss (z7.toNat) (by omega)
        refine ts_iconst hx hb dX0_scrapCard_52 ?_
        refine ts_iadd hx hb dX0_scrapCard_53 (fun z53 hz53 => ?_)
        refine gm_st3 cx hK hw (z7.toNat) (by omega) dX0_scrapCard_54 (fun g54 H locs hg54 hw => ?_)
        refine lv_aload_n hx hb dX0_scrapCard_55 rfl (lv_at hl 1 rfl) ?_
        refine gm_get1 cx hK hw tl_RX0_15 dX0_scrapCard_56 ?_
        refine lv_aload_n hx hb dX0_scrapCard_59 rfl (lv_at hl 1 rfl) ?_
        refine gm_get5 cx hK hw tl_RX0_34 dX0_scrapCard_60 (fun z60 hz60 => ?_)
        refine ts_iconst hx hb dX0_scrapCard_63 ?_
        refine ts_imul hx hb dX0_scrapCard_64 (fun z64 hz64 => ?_)
        refine ts_iconst hx hb dX0_scrapCard_65 ?_
        refine ts_iadd hx hb dX0_scrapCard_66 (fun z66 hz66 => ?_)
        have e1 : g54 1 = g 1 := by rw [hg54, u2_row _ (by decide), hg42, u2_row _ (by decide)]
        have e0 : g54 0 = g 0 := by rw [hg54, u2_row _ (by decide), hg42, u2_row _ (by decide)]
        have e45 : g54 4 5 = g 4 5 := by rw [hg54, u2_row _ (by decide), hg42, u2_4, if_neg (by decide)]
        rw [← e1] at hT2 hlen hq16
        rw [e45] at hz60
        refine gm_ld1 cx hK hw (4 * pl S + 2) (by omega) dX0_scrapCard_67 (fun z67 hz67 => ?_)
        have hb67 := hT2 (4 * pl S + 2) (by omega)
        refine lv_iload_n hx hb dX0_scrapCard_68 rfl (lv_at hl 2 rfl) ?_
        refine ts_iadd hx hb dX0_scrapCard_69 (fun z69 hz69 => ?_)
        refine lv_istore_n (lv' := [(3, .int (iN z69)), (2, .int (iN z7)), (0, .ref (ad 0)), (1, .int (iN place))]) hx hb dX0_scrapCard_70 rfl hl (by decide) rfl (fun ls hl => ?_)
        refine lv_aload_n hx hb dX0_scrapCard_71 rfl (lv_at hl 2 rfl) ?_
        refine gm_get0 cx hK hw tl_RX0_9 dX0_scrapCard_72 ?_
        refine lv_iload_n hx hb dX0_scrapCard_75 rfl (lv_at hl 0 rfl) ?_
        refine ts_iconst hx hb dX0_scrapCard_76 ?_
        refine ts_iadd hx hb dX0_scrapCard_77 (fun z77 hz77 => ?_)
        refine lv_aload_n hx hb dX0_scrapCard_78 rfl (lv_at hl 2 rfl) ?_
        refine gm_get0 cx hK hw tl_RX0_9 dX0_scrapCard_79 ?_
        refine lv_iload_n hx hb dX0_scrapCard_82 rfl (lv_at hl 0 rfl) ?_
        refine lv_aload_n hx hb dX0_scrapCard_83 rfl (lv_at hl 2 rfl) ?_
        refine gm_get1 cx hK hw tl_RX0_15 dX0_scrapCard_84 ?_
        refine ts_bipush hx hb dX0_scrapCard_87 (by decide) ?_
        refine gm_ld1 cx hK hw (16) (by omega) dX0_scrapCard_89 (fun z89 hz89 => ?_)
        have hb89 := hT2 (16) (by omega)
        refine lv_iload_n hx hb dX0_scrapCard_90 rfl (lv_at hl 0 rfl) ?_
        refine ts_isub hx hb dX0_scrapCard_91 (fun z91 hz91 => ?_)
        refine ts_iconst hx hb dX0_scrapCard_92 ?_
        refine ts_isub hx hb dX0_scrapCard_93 (fun z93 hz93 => ?_)
        refine gm_cpy cx hK hw hl (z77).toNat (z69).toNat (z93).toNat (by omega) tc_RX0 ⟨Nat.le_of_ble_eq_true rfl, Nat.le_of_ble_eq_true rfl⟩ dX0_scrapCard_94 (fun g94 H locs hg94 hw => ?_)
        refine lv_aload_n hx hb dX0_scrapCard_97 rfl (lv_at hl 2 rfl) ?_
        refine gm_get5 cx hK hw tl_RX0_34 dX0_scrapCard_98 (fun z98 hz98 => ?_)
        rw [hg94, uc_a _ (by decide), e45] at hz98
        refine ts_iconst hx hb dX0_scrapCard_101 ?_
        refine ts_imul hx hb dX0_scrapCard_102 (fun z102 hz102 => ?_)
        refine ts_iconst hx hb dX0_scrapCard_103 ?_
        refine ts_iadd hx hb dX0_scrapCard_104 (fun z104 hz104 => ?_)
        refine lv_istore (lv' := [(4, .int (iN z104)), (3, .int (iN z69)), (2, .int (iN z7)), (0, .ref (ad 0)), (1, .int (iN place))]) hx hb dX0_scrapCard_105 hl (by decide) rfl (fun ls hl => ?_)
        have cut107 : ∀ (fu : Nat) (i : Int) (ga : GS) (hmu : (17 - i).toNat < fu) (hi : (4 * (pl S : Nat) + 3 : Int) ≤ i ∧ i ≤ 17) (ha : ∀ j : Nat, ga 1 j = if 4 * pl S + 2 + 1 ≤ j ∧ (j : Int) < i then g 1 j - 1 else g 1 j) (hb0 : ga 0 = g94 0 ∧ ga 2 = g54 2 ∧ ga 3 = g54 3 ∧ ga 4 = g54 4) (H : Heap) (locs : List Loc) (hw : gmB D A s cI ad ga H locs) (ls : Array Slot) (hl : lv_has ls 5 [(0, .ref (ad 0)), (2, .int (iN z7)), (4, .int (iN i))]), W p l e ({ frames := 1, cells := 0, slots := 0, locals := 60 } : Room) s m args below meth c H locs 0 0 (gmQi D cI ad A below args s (fun z g1 => z = (scrO S place).1 ∧ RX g1 (scrO S place).2)) (F0 m 107 ls []) := by
          intro fu
          induction fu with
          | zero => intro i ga hmu; exact absurd hmu (Nat.not_lt_zero _)
          | succ fu ih107 =>
            intro i ga hmu hi ha hb0 H locs hw ls hl
            refine lv_iload hx hb dX0_scrapCard_107 (lv_at hl 2 rfl) ?_
            refine ts_bipush hx hb dX0_scrapCard_109 (by decide) ?_
            refine ts_icmp_gt (tgt := 131) hx hb (by omega) dX0_scrapCard_111 (by decide) (fun c111 => ?_) (fun c111 => ?_)
            · skip
              have hp1 : ∀ j : Nat, ga 1 j = if 4 * pl S + 2 + 1 ≤ j ∧ j ≤ 16 then g 1 j - 1 else g 1 j := by
                intro j
                rw [ha j]
                by_cases hj : 4 * pl S + 2 + 1 ≤ j ∧ j ≤ 16
                · rw [if_pos hj, if_pos (by omega)]
                · rw [if_neg hj, if_neg (by omega)]
              have hp0 : ∀ j : Nat, ga 0 j = if (g 1 (4 * pl S + 2)).toNat + place.toNat ≤ j ∧ (j : Int) < g 1 16 - 1 then g 0 (j + 1) else g 0 j := by
                intro j
                rw [hb0.1, hg94]
                show (if 0 = 0 ∧ z69.toNat ≤ j ∧ j < z69.toNat + z93.toNat then g54 0 (z77.toNat + (j - z69.toNat)) else g54 0 j) = _
                rw [e0, ← e1]
                by_cases hj2 : z69.toNat ≤ j ∧ j < z69.toNat + z93.toNat
                · rw [if_pos ⟨rfl, hj2⟩, if_pos (by omega)]
                  congr 1
                  omega
                · rw [if_neg (fun q => hj2 q.2), if_neg (by omega)]
              have hdel : PX ga (lx (ul S.2 (pl S) 1 ((hand S).eraseIdx place.toNat))) := by
                rw [show (1 : Nat) = wx 2 from rfl, lx_ul _ (pl S) 2 _ (by omega)]
                have e : (fun q => if q = 4 * pl S + 2 then (hand S).eraseIdx place.toNat else lx S.2 q) = dlX (lx S.2) (4 * pl S + 2) place.toNat := by
                  funext q
                  unfold dlX
                  rw [← hh]
                rw [e]
                exact PX_del hx0.2 (by omega) (by rw [← hh]; omega) hp1 hp0
              have r4 : ∀ j : Nat, ga 4 j = if j = 9 then z41 else g 4 j := fun j => by rw [hb0.2.2.2, hg54, u2_row _ (by decide), hg42, u2_4]
              have r2 : ∀ j : Nat, ga 2 j = g 2 j := fun j => by rw [hb0.2.1, hg54, u2_row _ (by decide), hg42, u2_row _ (by decide)]
              have r3 : ∀ j : Nat, ga 3 j = if j = z7.toNat then z53 else g 3 j := fun j => by rw [hb0.2.2.1, hg54, u2_r, hg42, u2_row _ (by decide)]
              have hkz : (hand S).getD place.toNat 0 = z7 := by omega
              have hsz := hs z7.toNat (by omega)
              have hz51b : z51 = g 3 z7.toNat := by rw [hz51, hss2]
              have hR : RS ga (uf (uf S.1 5 (S.1 5 - 1)) (20 + z7.toNat) (S.1 (20 + z7.toNat) + 1)) := ⟨by rw [r4 4]; simp only [uf]; (repeat' split) <;> omega, by rw [r4 5]; simp only [uf]; (repeat' split) <;> omega, by rw [r4 6]; simp only [uf]; (repeat' split) <;> omega, by rw [r4 7]; simp only [uf]; (repeat' split) <;> omega, by rw [r4 8]; simp only [uf]; (repeat' split) <;> omega, by rw [r4 9]; simp only [uf]; (repeat' split) <;> omega, by rw [r4 10]; simp only [uf]; (repeat' split) <;> omega, by rw [r4 11]; simp only [uf]; (repeat' split) <;> omega, by rw [r4 12]; simp only [uf]; (repeat' split) <;> omega, by rw [r4 13]; simp only [uf]; (repeat' split) <;> omega, fun j hj => by have hpj := hp j hj; rw [r2 j]; simp only [uf]; (repeat' split) <;> omega, fun j hj => by have hpj := hs j hj; rw [r3 j]; simp only [uf]; (repeat' split) <;> omega⟩
              refine lv_iload_n hx hb dX0_scrapCard_131 rfl (lv_at hl 1 rfl) ?_
              exact gm_ret cx hr hlocks hw (by rw [hO]; exact ⟨by show z7 = (hand S).getD place.toNat 0; omega, by show RS ga (scrA S place.toNat).1; unfold scrA; rw [hkz]; exact hR, hdel⟩) dX0_scrapCard_132
            · skip
              refine lv_aload_n hx hb dX0_scrapCard_114 rfl (lv_at hl 0 rfl) ?_
              refine gm_get1 cx hK hw tl_RX0_15 dX0_scrapCard_115 ?_
              refine lv_iload hx hb dX0_scrapCard_118 (lv_at hl 2 rfl) ?_
              refine lv_dup2_11 hx hb dX0_scrapCard_120 rfl rfl ?_
              have hai := ha i.toNat
              rw [if_neg (by omega)] at hai
              rw [← e1] at hai
              have hbi := hT2 i.toNat (by omega)
              refine gm_ld1 cx hK hw (i.toNat) (by omega) dX0_scrapCard_121 (fun z121 hz121 => ?_)
              have hb121 := hT2 (i.toNat) (by omega)
              refine ts_iconst hx hb dX0_scrapCard_122 ?_
              refine ts_isub hx hb dX0_scrapCard_123 (fun z123 hz123 => ?_)
              refine gm_st1 cx hK hw (i.toNat) (by omega) dX0_scrapCard_124 (fun g124 H locs hg124 hw => ?_)
              obtain ⟨z125, hz125⟩ : ∃ z : Int, z = i + 1 := ⟨_, rfl⟩
              refine lv_iinc (v := iN z125) (lv' := [(4, .int (iN z125)), (0, .ref (ad 0)), (2, .int (iN z7))]) hx hb dX0_scrapCard_125 hl (k := 2) rfl (by rw [hz125]; exact iN_add _ _) (by decide) rfl (fun ls hl => ?_)
              have hnew : ∀ j : Nat, g124 1 j = if 4 * pl S + 2 + 1 ≤ j ∧ (j : Int) < z125 then g 1 j - 1 else g 1 j := by
                intro j
                rw [hg124, u2_r]
                by_cases hj : j = i.toNat
                · rw [hj, if_pos rfl, if_pos (by omega)]
                  rw [← e1]
                  omega
                · rw [if_neg hj, ha j]
                  by_cases hj2 : 4 * pl S + 2 + 1 ≤ j ∧ (j : Int) < i
                  · rw [if_pos hj2, if_pos (by omega)]
                  · rw [if_neg hj2, if_neg (by omega)]
              refine lv_goto (tgt := 107) hx hb dX0_scrapCard_128 (by decide) ?_
              exact ih107 (z125) (g124) (by omega) (by omega) (hnew) (⟨by rw [hg124, u2_row _ (by decide)]; exact hb0.1, by rw [hg124, u2_row _ (by decide)]; exact hb0.2.1, by rw [hg124, u2_row _ (by decide)]; exact hb0.2.2.1, by rw [hg124, u2_row _ (by decide)]; exact hb0.2.2.2⟩) _ _ hw _ (lv_sub hl [1, 2, 0] rfl)
        exact cut107 _ (z104) (g94) (Nat.lt_succ_self _) (by omega) (fun j => by rw [if_neg (by omega), hg94, uc_a _ (by decide), e1]) (⟨rfl, by rw [hg94, uc_a _ (by decide)], by rw [hg94, uc_a _ (by decide)], by rw [hg94, uc_a _ (by decide)]⟩) _ _ hw _ (lv_sub hl [3, 2, 0] rfl)
      · skip
        refine ts_ldc (z := -1000002) hx hb cx.2.2.2.1 cx.2.2.2.2 tk_RX0_89 dX0_scrapCard_32 ?_
        exact gm_ret cx hr hlocks hw (by unfold scrO; rw [if_neg (fun h => h (by omega)), if_pos (by omega)]; exact ⟨rfl, hx0⟩) dX0_scrapCard_34
  · skip
    refine ts_ldc (z := -1000001) hx hb cx.2.2.2.1 cx.2.2.2.2 tk_RX0_62 dX0_scrapCard_15 ?_
    exact gm_ret cx hr hlocks hw (by unfold scrO; rw [if_pos (fun h => by omega)]; exact ⟨rfl, hx0⟩) dX0_scrapCard_17
theorem enS_hi (sc : SCT) {j : Nat} (h : 9 ≤ j) : enS sc j = sc j := by
  unfold enS
  rw [if_neg (by omega), if_neg (by omega), if_neg (by omega), if_neg (by omega), if_neg (by omega), if_neg (by omega), if_neg (by omega), if_neg (by omega)]
theorem emp_b (sc : SCT) : 0 ≤ emp sc ∧ emp sc ≤ 10 := by
  unfold emp
  have q1 := sumN_le (f := fun k => if sc (10 + k) = 0 then 1 else 0) (c := 1) (n := 10) (fun i _ => by (try dsimp only); split <;> omega)
  have q2 := sumN_nonneg (f := fun k => if sc (10 + k) = 0 then 1 else 0) (n := 10) (fun i _ => by (try dsimp only); split <;> omega)
  omega
set_option maxHeartbeats 4000000 in
set_option maxRecDepth 100000 in
theorem c_X0_endTurn (l : Launch) (g : GS) (S : StT) (hx0 : RX g S) (hv0 : VS S) : gmMi l yX0_endTurn (wU yX0_endTurn cX0_endTurn 2 (some .int)) ({ frames := 3, cells := 0, slots := 0, locals := 111 } : Room) [] g (fun z g1 => z = (endO S).1 ∧ RX g1 (endO S).2) := by
  refine gmMi_of (by decide) (Nat.le_of_ble_eq_true rfl) ?_
  intro p e s m args below meth c D cI tb ad A ls cx hr hlocks hK hA hT hw hl
  have hx := cx.1
  have hb := cx.2.1
  have hl : lv_has ls 2 [(0, .ref (ad 0))] := hl
  obtain ⟨h0, h1, h2, h3, h4, h5, h6, h9, h7, h8, hp, hs⟩ := id hx0.1
  have hpl := VS_pl hv0
  have hnx := VS_NX hx0 hv0
  have hnn := NX_13 hx0.1 hnx
  have hm := PX_M hx0.2
  have hm2 := PX_K hx0.2 (VS_kinds hv0)
  have hT2 := MX_b hm
  have hmn := mod_next (x := S.1 1) hnn.2.2.2.2.2.1
  rw [Int.emod_eq_of_lt hnn.2.2.2.2.2.2.1 hnn.2.2.2.2.2.2.2] at hmn
  refine lv_aload_n hx hb dX0_endTurn_0 rfl (lv_at hl 0 rfl) ?_
  refine gm_get13 cx hK hw tl_RX0_58 dX0_endTurn_1 (fun z1 hz1 => ?_)
  refine ts_if_eq (tgt := 10) hx hb (by omega) dX0_endTurn_4 (by decide) (fun c4 => ?_) (fun c4 => ?_)
  · skip
    refine lv_aload_n hx hb dX0_endTurn_10 rfl (lv_at hl 0 rfl) ?_
    refine gm_get1 cx hK hw tl_RX0_15 dX0_endTurn_11 ?_
    refine lv_aload_n hx hb dX0_endTurn_14 rfl (lv_at hl 0 rfl) ?_
    refine gm_get5 cx hK hw tl_RX0_34 dX0_endTurn_15 (fun z15 hz15 => ?_)
    refine ts_iconst hx hb dX0_endTurn_18 ?_
    refine ts_imul hx hb dX0_endTurn_19 (fun z19 hz19 => ?_)
    refine ts_iconst hx hb dX0_endTurn_20 ?_
    refine ts_iadd hx hb dX0_endTurn_21 (fun z21 hz21 => ?_)
    refine gm_ld1 cx hK hw (4 * pl S + 4) (by omega) dX0_endTurn_22 (fun z22 hz22 => ?_)
    have hb22 := hT2 (4 * pl S + 4) (by omega)
    refine lv_istore_n (lv' := [(1, .int (iN z22)), (0, .ref (ad 0))]) hx hb dX0_endTurn_23 rfl hl (by decide) rfl (fun ls hl => ?_)
    refine lv_aload_n hx hb dX0_endTurn_24 rfl (lv_at hl 1 rfl) ?_
    refine gm_get1 cx hK hw tl_RX0_15 dX0_endTurn_25 ?_
    have hv9 := hv0.2.2.2.1
    have hpb := hnx.2.2.2.2.2.2.2.2.2.1
    refine lv_aload_n hx hb dX0_endTurn_28 rfl (lv_at hl 1 rfl) ?_
    refine gm_get5 cx hK hw tl_RX0_34 dX0_endTurn_29 (fun z29 hz29 => ?_)
    refine ts_iconst hx hb dX0_endTurn_32 ?_
    refine ts_imul hx hb dX0_endTurn_33 (fun z33 hz33 => ?_)
    refine ts_iconst hx hb dX0_endTurn_34 ?_
    refine ts_iadd hx hb dX0_endTurn_35 (fun z35 hz35 => ?_)
    refine lv_iload_n hx hb dX0_endTurn_36 rfl (lv_at hl 0 rfl) ?_
    refine gm_st1 cx hK hw (4 * pl S + 2) (by omega) dX0_endTurn_37 (fun g37 H locs hg37 hw => ?_)
    refine lv_aload_n hx hb dX0_endTurn_38 rfl (lv_at hl 1 rfl) ?_
    refine gm_get1 cx hK hw tl_RX0_15 dX0_endTurn_39 ?_
    refine lv_aload_n hx hb dX0_endTurn_42 rfl (lv_at hl 1 rfl) ?_
    refine gm_get5 cx hK hw tl_RX0_34 dX0_endTurn_43 (fun z43 hz43 => ?_)
    have e37 : ∀ j : Nat, g37 4 j = g 4 j := fun j => by rw [hg37, u2_row _ (by decide)]
    rw [e37 5] at hz43
    refine ts_iconst hx hb dX0_endTurn_46 ?_
    refine ts_imul hx hb dX0_endTurn_47 (fun z47 hz47 => ?_)
    refine ts_iconst hx hb dX0_endTurn_48 ?_
    refine ts_iadd hx hb dX0_endTurn_49 (fun z49 hz49 => ?_)
    refine lv_iload_n hx hb dX0_endTurn_50 rfl (lv_at hl 0 rfl) ?_
    refine gm_st1 cx hK hw (4 * pl S + 3) (by omega) dX0_endTurn_51 (fun g51 H locs hg51 hw => ?_)
    refine lv_aload_n hx hb dX0_endTurn_52 rfl (lv_at hl 1 rfl) ?_
    refine lv_aload_n hx hb dX0_endTurn_53 rfl (lv_at hl 1 rfl) ?_
    refine gm_get5 cx hK hw tl_RX0_34 dX0_endTurn_54 (fun z54 hz54 => ?_)
    have e51 : ∀ j : Nat, g51 4 j = g 4 j := fun j => by rw [hg51, u2_row _ (by decide), hg37, u2_row _ (by decide)]
    rw [e51 5] at hz54
    have hx51 : PX g51 (lx (enL S.2 (pl S))) := by
      refine PX_end hpl.1 hx0.2 (fun j => ?_) (by rw [hg51, u2_row _ (by decide), hg37, u2_row _ (by decide)])
      rw [hg51, u2_r, hg37, u2_r]
      by_cases q3 : j = 4 * pl S + 3
      · rw [if_pos q3, if_pos (Or.inr q3), hz22]
      · rw [if_neg q3]
        by_cases q2 : j = 4 * pl S + 2
        · rw [if_pos q2, if_pos (Or.inl q2), hz22]
        · rw [if_neg q2, if_neg (by omega)]
    refine ts_iconst hx hb dX0_endTurn_57 ?_
    refine gm_callv (rest := []) cx hK hT hA hw hl (c_X0_drawCards l (pl S) 5 g51 (enL S.2 (pl S)) (by omega) (by omega) hx51) tg_RX0_75 ⟨rfl, rfl⟩ 2 rfl (by decide +kernel) ⟨Nat.le_of_ble_eq_true rfl, Nat.le_of_ble_eq_true rfl⟩ ⟨Nat.zero_le _, Nat.zero_le _⟩ (Nat.le_of_ble_eq_true rfl) dX0_endTurn_58 (by rw [show z54 = ((pl S : Nat) : Int) by omega]; rfl) (fun g58 H locs hq58 hw => ?_)
    have r58 : ∀ j : Nat, g58 4 j = g 4 j := fun j => by rw [hq58.2.2.2]; exact e51 j
    refine lv_aload_n hx hb dX0_endTurn_61 rfl (lv_at hl 1 rfl) ?_
    refine lv_aload_n hx hb dX0_endTurn_62 rfl (lv_at hl 1 rfl) ?_
    refine gm_get10 cx hK hw tl_RX0_49 dX0_endTurn_63 (fun z63 hz63 => ?_)
    refine lv_aload_n hx hb dX0_endTurn_66 rfl (lv_at hl 1 rfl) ?_
    refine gm_get11 cx hK hw tl_RX0_52 dX0_endTurn_67 (fun z67 hz67 => ?_)
    rw [r58 10] at hz63
    rw [r58 11] at hz67
    refine ts_iadd hx hb dX0_endTurn_70 (fun z70 hz70 => ?_)
    refine ts_bipush hx hb dX0_endTurn_71 (by decide) ?_
    refine ts_irem hx hb (by omega) dX0_endTurn_73 (fun z73 hz73 => ?_)
    refine gm_put10 cx hK hw tl_RX0_49 dX0_endTurn_74 (fun g74 H locs hg74 hw => ?_)
    have r74 : ∀ j : Nat, g74 4 j = if j = 10 then z73 else g 4 j := fun j => by rw [hg74, u2_4, r58 j]
    have q74 : g74 4 4 = g 4 4 := r74 4
    refine lv_aload_n hx hb dX0_endTurn_77 rfl (lv_at hl 1 rfl) ?_
    refine lv_aload_n hx hb dX0_endTurn_78 rfl (lv_at hl 1 rfl) ?_
    refine lv_aload_n hx hb dX0_endTurn_79 rfl (lv_at hl 1 rfl) ?_
    refine gm_get5 cx hK hw tl_RX0_34 dX0_endTurn_80 (fun z80 hz80 => ?_)
    have q745 : g74 4 5 = g 4 5 := r74 5
    rw [q745] at hz80
    refine gm_callr (rest := [.ref (ad 0)]) cx hK hT hA hw hl (c_X0_playerBehind l z80 g74 (by rw [q74]; omega) (by rw [q74]; omega)) tg_RX0_115 ⟨rfl, rfl⟩ 1 rfl (by decide +kernel) ⟨Nat.le_of_ble_eq_true rfl, Nat.le_of_ble_eq_true rfl⟩ ⟨Nat.zero_le _, Nat.zero_le _⟩ (Nat.le_of_ble_eq_true rfl) dX0_endTurn_83 (rfl) (fun z83 hz83 => ?_)
    rw [q74] at hz83
    refine gm_put5 cx hK hw tl_RX0_34 dX0_endTurn_86 (fun g86 H locs hg86 hw => ?_)
    have r86 : ∀ j : Nat, g86 4 j = if j = 5 then z83 else if j = 10 then z73 else g 4 j := fun j => by rw [hg86, u2_4, r74 j]
    refine lv_aload_n hx hb dX0_endTurn_89 rfl (lv_at hl 1 rfl) ?_
    refine gm_callv (rest := []) cx hK hT hA hw hl (c_X0_beginTurn l g86) tg_RX0_79 ⟨rfl, rfl⟩ 0 rfl (by decide +kernel) ⟨Nat.le_of_ble_eq_true rfl, Nat.le_of_ble_eq_true rfl⟩ ⟨Nat.zero_le _, Nat.zero_le _⟩ (Nat.le_of_ble_eq_true rfl) dX0_endTurn_90 (rfl) (fun g90 H locs hq90 hw => ?_)
    have r90 : ∀ j : Nat, g90 4 j = if j = 9 then 0 else if j = 8 then 1 else if j = 7 then 1 else if j = 6 then 0 else if j = 5 then z83 else if j = 10 then z73 else g 4 j := fun j => by rw [hq90, u2_4, u2_4, u2_4, u2_4, r86 j]
    refine lv_aload_n hx hb dX0_endTurn_93 rfl (lv_at hl 1 rfl) ?_
    refine lv_dup hx hb dX0_endTurn_94 rfl ?_
    refine gm_get12 cx hK hw tl_RX0_55 dX0_endTurn_95 (fun z95 hz95 => ?_)
    have hz95b : z95 = g 4 12 := hz95.trans (r90 12)
    refine ts_iconst hx hb dX0_endTurn_98 ?_
    refine ts_iadd hx hb dX0_endTurn_99 (fun z99 hz99 => ?_)
    refine gm_put12 cx hK hw tl_RX0_55 dX0_endTurn_100 (fun g100 H locs hg100 hw => ?_)
    have r100 : ∀ j : Nat, g100 4 j = if j = 12 then z99 else if j = 9 then 0 else if j = 8 then 1 else if j = 7 then 1 else if j = 6 then 0 else if j = 5 then z83 else if j = 10 then z73 else g 4 j := fun j => by rw [hg100, u2_4, r90 j]
    have e100 : ∀ j : Nat, g100 2 j = g 2 j := fun j => by rw [hg100, u2_row _ (by decide), hq90, u2_row _ (by decide), u2_row _ (by decide), u2_row _ (by decide), u2_row _ (by decide), hg86, u2_row _ (by decide), hg74, u2_row _ (by decide), hq58.2.1, hg51, u2_row _ (by decide), hg37, u2_row _ (by decide)]
    have f100 : ∀ j : Nat, g100 3 j = g 3 j := fun j => by rw [hg100, u2_row _ (by decide), hq90, u2_row _ (by decide), u2_row _ (by decide), u2_row _ (by decide), u2_row _ (by decide), hg86, u2_row _ (by decide), hg74, u2_row _ (by decide), hq58.2.2.1, hg51, u2_row _ (by decide), hg37, u2_row _ (by decide)]
    have x100 : PX g100 (lx (endA S).2) := PX_row hq58.1 (by rw [hg100, u2_row _ (by decide), hq90, u2_row _ (by decide), u2_row _ (by decide), u2_row _ (by decide), u2_row _ (by decide), hg86, u2_row _ (by decide), hg74, u2_row _ (by decide)]) (by rw [hg100, u2_row _ (by decide), hq90, u2_row _ (by decide), u2_row _ (by decide), u2_row _ (by decide), u2_row _ (by decide), hg86, u2_row _ (by decide), hg74, u2_row _ (by decide)])
    have hO : endO S = ((endA S).1 1, endA S) := by
      unfold endO
      rw [if_neg (by omega)]
    have hpb4 := hpb 4 (by omega)
    have hp4 : g 2 4 = S.1 14 := hp 4 (by omega)
    have e1004 := e100 4
    have hend1 : z83 = (S.1 1 + 1) % S.1 0 := by omega
    have hend6 : z73 = (S.1 6 + S.1 9) % 10 := by rw [hz73, hz70, hz63, hz67, h6, h9]
    have hend7 : z99 = S.1 7 + 1 := by rw [hz99, hz95b, h7]
    refine lv_aload_n hx hb dX0_endTurn_103 rfl (lv_at hl 1 rfl) ?_
    have cut126 : ∀ (ov : Int) (hov : ov = if S.1 14 = 0 ∨ 3 ≤ emp S.1 then 1 else 0) (H : Heap) (locs : List Loc) (hw : gmB D A s cI ad g100 H locs) (ls : Array Slot) (hl : lv_has ls 2 [(0, .ref (ad 0))]), W p l e ({ frames := 3, cells := 0, slots := 0, locals := 111 } : Room) s m args below meth c H locs 0 0 (gmQi D cI ad A below args s (fun z g1 => z = (endO S).1 ∧ RX g1 (endO S).2)) (F0 m 126 ls [.int (iN ov), .ref (ad 0)]) := by
      intro ov hov H locs hw ls hl
      refine gm_put13 cx hK hw (by first | omega | (rw [hov]; split <;> omega)) tl_RX0_58 dX0_endTurn_126 (fun g126 H locs hg126 hw => ?_)
      have r126 : ∀ j : Nat, g126 4 j = if j = 13 then ov else if j = 12 then z99 else if j = 9 then 0 else if j = 8 then 1 else if j = 7 then 1 else if j = 6 then 0 else if j = 5 then z83 else if j = 10 then z73 else g 4 j := fun j => by rw [hg126, u2_4, r100 j]
      have hR : RS g126 (enS S.1) := ⟨(r126 4).trans (h0), (r126 5).trans (hend1), (r126 6).trans (rfl), (r126 7).trans (rfl), (r126 8).trans (rfl), (r126 9).trans (rfl), (r126 10).trans (hend6), (r126 11).trans (h9), (r126 12).trans (hend7), (r126 13).trans (hov), fun j hj => by rw [enS_hi _ (by omega), ← hp j hj, ← e100 j, hg126, u2_row _ (by decide)], fun j hj => by rw [enS_hi _ (by omega), ← hs j hj, ← f100 j, hg126, u2_row _ (by decide)]⟩
      have x126 : PX g126 (lx (endA S).2) := PX_row x100 (by rw [hg126, u2_row _ (by decide)]) (by rw [hg126, u2_row _ (by decide)])
      have q130 : g126 4 5 = z83 := r126 5
      refine lv_aload_n hx hb dX0_endTurn_129 rfl (lv_at hl 0 rfl) ?_
      refine gm_get5 cx hK hw tl_RX0_34 dX0_endTurn_130 (fun z130 hz130 => ?_)
      exact gm_ret cx hr hlocks hw (by rw [hO]; exact ⟨by show z130 = (endA S).1 1; rw [hz130, q130]; exact hend1, hR, x126⟩) dX0_endTurn_133
    refine lv_aload_n hx hb dX0_endTurn_104 rfl (lv_at hl 1 rfl) ?_
    refine gm_get2 cx hK hw tl_RX0_18 dX0_endTurn_105 ?_
    refine ts_iconst hx hb dX0_endTurn_108 ?_
    refine gm_ld2 cx hK hw (4) (by omega) dX0_endTurn_109 (fun z109 hz109 => ?_)
    refine ts_if_le (tgt := 121) hx hb (by omega) dX0_endTurn_110 (by decide) (fun c110 => ?_) (fun c110 => ?_)
    · skip
      refine ts_iconst hx hb dX0_endTurn_121 ?_
      refine lv_goto (tgt := 126) hx hb dX0_endTurn_122 (by decide) ?_
      exact cut126 (1) (by split <;> omega) _ _ hw _ (lv_sub hl [1] rfl)
    · skip
      refine lv_aload_n hx hb dX0_endTurn_113 rfl (lv_at hl 1 rfl) ?_
      refine gm_callr (rest := [.ref (ad 0)]) cx hK hT hA hw hl (c_X0_emptyPiles l g100 (fun j hj => by rw [e100 j]; exact hpb j hj)) tg_RX0_128 ⟨rfl, rfl⟩ 0 rfl (by decide +kernel) ⟨Nat.le_of_ble_eq_true rfl, Nat.le_of_ble_eq_true rfl⟩ ⟨Nat.zero_le _, Nat.zero_le _⟩ (Nat.le_of_ble_eq_true rfl) dX0_endTurn_114 (rfl) (fun z114 hz114 => ?_)
      have hz114b : z114 = emp S.1 := by
        rw [hz114]
        unfold emp
        apply sumN_congr
        intro j hj
        rw [e100 j, hp j hj]
      have hempb := emp_b S.1
      refine ts_iconst hx hb dX0_endTurn_117 ?_
      refine ts_icmp_lt (tgt := 125) hx hb (by omega) dX0_endTurn_118 (by decide) (fun c118 => ?_) (fun c118 => ?_)
      · skip
        refine ts_iconst hx hb dX0_endTurn_125 ?_
        exact cut126 (0) (by split <;> omega) _ _ hw _ (lv_sub hl [1] rfl)
      · skip
        refine ts_iconst hx hb dX0_endTurn_121 ?_
        refine lv_goto (tgt := 126) hx hb dX0_endTurn_122 (by decide) ?_
        exact cut126 (1) (by split <;> omega) _ _ hw _ (lv_sub hl [1] rfl)
  · skip
    refine ts_ldc (z := -1000002) hx hb cx.2.2.2.1 cx.2.2.2.2 tk_RX0_89 dX0_endTurn_7 ?_
    exact gm_ret cx hr hlocks hw (by unfold endO; rw [if_pos (by omega)]; exact ⟨rfl, hx0⟩) dX0_endTurn_9
end
section
theorem plS_hi (sc : SCT) (k : Nat) (c : Int) {j : Nat} (h : 6 ≤ j) : plS sc k c j = if j = 15 then c else sc j := by
  unfold plS
  rw [if_neg (by omega), if_neg (by omega), if_neg (by omega), if_neg (by omega)]
theorem tv5_k (k : Nat) (hk : k < 10) : tv 5 k = if k = 6 then 1 else 0 := by
  have : ∀ k : Fin 10, tv 5 k.1 = if k.1 = 6 then 1 else 0 := by decide +kernel
  exact this ⟨k, hk⟩
theorem tv2_k (k : Nat) : 0 ≤ tv 2 k ∧ tv 2 k ≤ 60 := by
  have h := tv_b 2 k
  by_cases hk : k < 10
  · have : ∀ k : Fin 10, 0 ≤ tv 2 k.1 := by decide +kernel
    have := this ⟨k, hk⟩
    simp only at this
    omega
  · have : tv 2 k = 0 := by
      unfold tv tvl
      rw [List.getD_eq_getElem?_getD, List.getElem?_eq_none (by show 10 ≤ k; omega)]
      rfl
    omega
/-- cards are moved: how many there are stays -/
theorem lenS_ul (L : LLT) {p w : Nat} (x : List Int) (hp : p < 4) (hw : w < 4) : lenS (ul L p w x) = lenS L + ((x.length : Int) - ((L p w).length : Int)) := by
  have e : (fun q => (((ul L p w x) (q / 4) (q % 4)).length : Int)) = uf (fun q => ((L (q / 4) (q % 4)).length : Int)) (4 * p + w) (x.length : Int) := by
    funext q
    by_cases h : q = 4 * p + w
    · subst h
      rw [uf_s, show (4 * p + w) / 4 = p by omega, show (4 * p + w) % 4 = w by omega, ul_s]
    · rw [uf_n _ _ h]
      unfold ul
      rw [if_neg (by omega)]
  unfold lenS
  rw [e, sumN_uf, if_pos (by omega), show (4 * p + w) / 4 = p by omega, show (4 * p + w) % 4 = w by omega]
theorem lenS_mvL (L : LLT) {p w k w' : Nat} (hp : p < 4) (hw : w < 4) (hw' : w' < 4) (hne : w ≠ w') (hk : k < (L p w).length) : lenS (mvL L p w k w') = lenS L := by
  unfold mvL
  rw [lenS_ul _ _ hp hw', lenS_ul _ _ hp hw, ul_w _ _ (Ne.symm hne), len_erase hk, List.length_append, List.length_singleton]
  omega
theorem lenS_flip (L : LLT) {p : Nat} (hp : p < 4) : lenS (flipL L p) = lenS L := by
  by_cases h : L p 0 = []
  · have e : flipL L p = ul (ul L p 0 (L p 3)) p 3 [] := if_pos h
    rw [e, lenS_ul _ _ hp (by omega), lenS_ul _ _ hp (by omega), ul_w _ _ (by decide), h]
    simp only [List.length_nil]
    omega
  · rw [flip_ne h]
theorem lenS_dr1 (L : LLT) {p : Nat} (hp : p < 4) : lenS (dr1 L p) = lenS L := by
  unfold dr1
  split
  · exact lenS_flip L hp
  · rename_i h
    rw [lenS_mvL _ hp (by omega) (by omega) (by decide) (List.length_pos_iff.mpr h)]
    exact lenS_flip L hp
theorem lenS_dr {p : Nat} (hp : p < 4) : ∀ (n : Nat) (L : LLT), lenS (dr n L p) = lenS L
  | 0, _ => rfl
  | n + 1, L => by
    show lenS (dr n (dr1 L p) p) = lenS L
    rw [lenS_dr hp n, lenS_dr1 L hp]
set_option maxHeartbeats 4000000 in
set_option maxRecDepth 100000 in
theorem c_X0_playCard (l : Launch) (place : Int) (g : GS) (S : StT) (hx0 : RX g S) (hv0 : VS S) (hkb : -2147483648 ≤ place ∧ place ≤ 2147483647) : gmMi l yX0_playCard (wU yX0_playCard cX0_playCard 5 (some .int)) ({ frames := 3, cells := 0, slots := 0, locals := 111 } : Room) [.int (iN place)] g (fun z g1 => z = (playO S place).1 ∧ RX g1 (playO S place).2) := by
  refine gmMi_of (by decide) (Nat.le_of_ble_eq_true rfl) ?_
  intro p e s m args below meth c D cI tb ad A ls cx hr hlocks hK hA hT hw hl
  have hx := cx.1
  have hb := cx.2.1
  have hl : lv_has ls 5 [(0, .ref (ad 0)), (1, .int (iN place))] := hl
  obtain ⟨h0, h1, h2, h3, h4, h5, h6, h9, h7, h8, hp, hs⟩ := id hx0.1
  have hpl := VS_pl hv0
  have hnx := VS_NX hx0 hv0
  have hnn := NX_13 hx0.1 hnx
  have hm := PX_M hx0.2
  have hm2 := PX_K hx0.2 (VS_kinds hv0)
  obtain ⟨hh, hp5, hlen, hcd⟩ := VS_hidx hx0 hv0
  have hn4 := hnx.2.2.2.2.1
  have hn8 := hnx.2.2.2.2.2.2.2.2.1
  refine lv_aload_n hx hb dX0_playCard_0 rfl (lv_at hl 0 rfl) ?_
  refine lv_aload_n hx hb dX0_playCard_1 rfl (lv_at hl 0 rfl) ?_
  refine gm_get5 cx hK hw tl_RX0_34 dX0_playCard_2 (fun z2 hz2 => ?_)
  refine ts_iconst hx hb dX0_playCard_5 ?_
  refine lv_iload_n hx hb dX0_playCard_6 rfl (lv_at hl 1 rfl) ?_
  refine gm_callr (rest := []) cx hK hT hA hw hl (c_X0_cardOf l (pl S) 2 place g (by omega) (by omega) hkb hm hm2) tg_RX0_85 ⟨rfl, rfl⟩ 3 rfl (by decide +kernel) ⟨Nat.le_of_ble_eq_true rfl, Nat.le_of_ble_eq_true rfl⟩ ⟨Nat.zero_le _, Nat.zero_le _⟩ (Nat.le_of_ble_eq_true rfl) dX0_playCard_7 (by rw [show z2 = ((pl S : Nat) : Int) by omega]; rfl) (fun z7 hz7 => ?_)
  have hcz : (0 ≤ place ∧ place < (hand S).length ∧ z7 = (hand S).getD place.toNat 0 ∧ 0 ≤ z7 ∧ z7 ≤ 9) ∨ (¬ (0 ≤ place ∧ place < (hand S).length) ∧ z7 = -1) := by
    rcases hz7 with q | q
    · have e1 := hcd place.toNat (by omega)
      have e2 := VS_hand hv0 (k := place.toNat) (by omega)
      exact Or.inl ⟨by omega, by omega, by omega, by omega, by omega⟩
    · exact Or.inr ⟨by omega, by omega⟩
  refine lv_istore_n (lv' := [(2, .int (iN z7)), (0, .ref (ad 0)), (1, .int (iN place))]) hx hb dX0_playCard_10 rfl hl (by decide) rfl (fun ls hl => ?_)
  refine lv_iload_n hx hb dX0_playCard_11 rfl (lv_at hl 0 rfl) ?_
  refine ts_if_ge (tgt := 18) hx hb (by omega) dX0_playCard_12 (by decide) (fun c12 => ?_) (fun c12 => ?_)
  · skip
    have cut74 : ∀ (ga : GS) (hok : ¬ (S.1 8 = 1 ∨ (3 ≤ z7 ∧ z7 ≤ 5) ∨ (6 ≤ z7 ∧ S.1 4 ≤ 0))) (ha8 : ∀ j : Nat, ga 4 j = if j = 8 then g 4 8 - (if 6 ≤ z7.toNat then 1 else 0) else g 4 j) (har : ga 0 = g 0 ∧ ga 1 = g 1 ∧ ga 2 = g 2 ∧ ga 3 = g 3) (H : Heap) (locs : List Loc) (hw : gmB D A s cI ad ga H locs) (ls : Array Slot) (hl : lv_has ls 5 [(0, .ref (ad 0)), (1, .int (iN place)), (2, .int (iN z7))]), W p l e ({ frames := 3, cells := 0, slots := 0, locals := 111 } : Room) s m args below meth c H locs 0 0 (gmQi D cI ad A below args s (fun z g1 => z = (playO S place).1 ∧ RX g1 (playO S place).2)) (F0 m 74 ls []) := by
      intro ga hok ha8 har H locs hw ls hl
      have hcr : 0 ≤ place ∧ place < (hand S).length ∧ z7 = (hand S).getD place.toNat 0 ∧ 0 ≤ z7 ∧ z7 ≤ 9 := by omega
      have hO : playO S place = ((hand S).getD place.toNat 0, playA S place.toNat) := by
        unfold playO
        rw [if_neg (fun h => h ⟨hcr.1, hcr.2.1⟩), if_neg (by rw [← hcr.2.2.1]; exact hok)]
      have ha1 := har.2.1
      have qa5 : ga 4 5 = g 4 5 := ha8 5
      refine lv_aload_n hx hb dX0_playCard_74 rfl (lv_at hl 0 rfl) ?_
      refine lv_aload_n hx hb dX0_playCard_75 rfl (lv_at hl 0 rfl) ?_
      refine gm_get5 cx hK hw tl_RX0_34 dX0_playCard_76 (fun z76 hz76 => ?_)
      rw [qa5] at hz76
      refine ts_iconst hx hb dX0_playCard_79 ?_
      refine ts_imul hx hb dX0_playCard_80 (fun z80 hz80 => ?_)
      refine ts_iconst hx hb dX0_playCard_81 ?_
      refine ts_iadd hx hb dX0_playCard_82 (fun z82 hz82 => ?_)
      refine lv_iload_n hx hb dX0_playCard_83 rfl (lv_at hl 1 rfl) ?_
      refine lv_aload_n hx hb dX0_playCard_84 rfl (lv_at hl 0 rfl) ?_
      refine gm_get5 cx hK hw tl_RX0_34 dX0_playCard_85 (fun z85 hz85 => ?_)
      rw [qa5] at hz85
      refine ts_iconst hx hb dX0_playCard_88 ?_
      refine ts_imul hx hb dX0_playCard_89 (fun z89 hz89 => ?_)
      refine ts_iconst hx hb dX0_playCard_90 ?_
      refine ts_iadd hx hb dX0_playCard_91 (fun z91 hz91 => ?_)
      refine gm_callv (rest := []) cx hK hT hA hw hl (c_X0_moveToEnd l (4 * pl S + 2) place.toNat (4 * pl S + 3) ga (by omega) (by rw [MX, ha1]; exact hm) (by rw [ha1]; omega)) tg_RX0_90 ⟨rfl, rfl⟩ 3 rfl (by decide +kernel) ⟨Nat.le_of_ble_eq_true rfl, Nat.le_of_ble_eq_true rfl⟩ ⟨Nat.zero_le _, Nat.zero_le _⟩ (Nat.le_of_ble_eq_true rfl) dX0_playCard_92 (by rw [show z82 = ((4 * pl S + 2 : Nat) : Int) by omega, show z91 = ((4 * pl S + 3 : Nat) : Int) by omega, show place = ((place.toNat : Nat) : Int) by omega]; rfl) (fun g92 H locs hq92 hw => ?_)
      have hxa : PX ga (lx S.2) := PX_row hx0.2 har.1 har.2.1
      have hx92 : PX g92 (lx (mvL S.2 (pl S) 1 place.toNat 2)) := by
        rw [show mvL S.2 (pl S) 1 place.toNat 2 = mvL S.2 (pl S) (wx 2) place.toNat (wx 3) from rfl, lx_mvL _ (pl S) 2 place.toNat 3 (by omega) (by omega) (by omega)]
        exact PX_move hxa (by omega) (by rw [← hh]; omega) hq92.1 hq92.2.1
      have r92 : ∀ j : Nat, g92 4 j = if j = 8 then g 4 8 - (if 6 ≤ z7.toNat then 1 else 0) else g 4 j := fun j => by rw [hq92.2.2.2.2]; exact ha8 j
      refine lv_aload_n hx hb dX0_playCard_95 rfl (lv_at hl 0 rfl) ?_
      refine lv_dup hx hb dX0_playCard_96 rfl ?_
      refine gm_get6 cx hK hw tl_RX0_37 dX0_playCard_97 (fun z97 hz97 => ?_)
      refine tt_gst cx hT hw.2.2 1 (by decide) rfl dX0_playCard_100 ?_
      refine lv_iload_n hx hb dX0_playCard_103 rfl (lv_at hl 2 rfl) ?_
      refine tt_ld hx hb hT hw.2.2 1 (by decide) (z7.toNat) (by omega) dX0_playCard_104 (fun z104 hz104 => ?_)
      have hb104 := tv_b 1 (z7.toNat)
      refine ts_iadd hx hb dX0_playCard_105 (fun z105 hz105 => ?_)
      refine gm_put6 cx hK hw tl_RX0_37 dX0_playCard_106 (fun g106 H locs hg106 hw => ?_)
      have hx106 : PX g106 (lx (mvL S.2 (pl S) 1 place.toNat 2)) := PX_row hx92 (by rw [hg106, u2_row _ (by decide)]) (by rw [hg106, u2_row _ (by decide)])
      have r106 : ∀ j : Nat, g106 4 j = if j = 6 then z105 else if j = 8 then g 4 8 - (if 6 ≤ z7.toNat then 1 else 0) else g 4 j := fun j => by rw [hg106, u2_4, r92 j]
      have q1065 : g106 4 5 = g 4 5 := r106 5
      have ht2 := tv2_k z7.toNat
      refine lv_aload_n hx hb dX0_playCard_109 rfl (lv_at hl 0 rfl) ?_
      refine lv_aload_n hx hb dX0_playCard_110 rfl (lv_at hl 0 rfl) ?_
      refine gm_get5 cx hK hw tl_RX0_34 dX0_playCard_111 (fun z111 hz111 => ?_)
      rw [q1065] at hz111
      refine tt_gst cx hT hw.2.2 2 (by decide) rfl dX0_playCard_114 ?_
      refine lv_iload_n hx hb dX0_playCard_117 rfl (lv_at hl 2 rfl) ?_
      refine tt_ld hx hb hT hw.2.2 2 (by decide) (z7.toNat) (by omega) dX0_playCard_118 (fun z118 hz118 => ?_)
      have hb118 := tv_b 2 (z7.toNat)
      refine gm_callv (rest := []) cx hK hT hA hw hl (c_X0_drawCards l (pl S) z118.toNat g106 (mvL S.2 (pl S) 1 place.toNat 2) (by omega) (by omega) hx106) tg_RX0_75 ⟨rfl, rfl⟩ 2 rfl (by decide +kernel) ⟨Nat.le_of_ble_eq_true rfl, Nat.le_of_ble_eq_true rfl⟩ ⟨Nat.zero_le _, Nat.zero_le _⟩ (Nat.le_of_ble_eq_true rfl) dX0_playCard_119 (by rw [show z111 = ((pl S : Nat) : Int) by omega, show z118 = ((z118.toNat : Nat) : Int) by omega]; rfl) (fun g119 H locs hq119 hw => ?_)
      have r119 : ∀ j : Nat, g119 4 j = if j = 6 then z105 else if j = 8 then g 4 8 - (if 6 ≤ z7.toNat then 1 else 0) else g 4 j := fun j => by rw [hq119.2.2.2]; exact r106 j
      refine lv_aload_n hx hb dX0_playCard_122 rfl (lv_at hl 0 rfl) ?_
      refine lv_dup hx hb dX0_playCard_123 rfl ?_
      refine gm_get7 cx hK hw tl_RX0_40 dX0_playCard_124 (fun z124 hz124 => ?_)
      refine tt_gst cx hT hw.2.2 3 (by decide) rfl dX0_playCard_127 ?_
      refine lv_iload_n hx hb dX0_playCard_130 rfl (lv_at hl 2 rfl) ?_
      refine tt_ld hx hb hT hw.2.2 3 (by decide) (z7.toNat) (by omega) dX0_playCard_131 (fun z131 hz131 => ?_)
      have hb131 := tv_b 3 (z7.toNat)
      refine ts_iadd hx hb dX0_playCard_132 (fun z132 hz132 => ?_)
      refine gm_put7 cx hK hw tl_RX0_40 dX0_playCard_133 (fun g133 H locs hg133 hw => ?_)
      have r133 : ∀ j : Nat, g133 4 j = if j = 7 then z132 else if j = 6 then z105 else if j = 8 then g 4 8 - (if 6 ≤ z7.toNat then 1 else 0) else g 4 j := fun j => by rw [hg133, u2_4, r119 j]
      refine lv_aload_n hx hb dX0_playCard_136 rfl (lv_at hl 0 rfl) ?_
      refine lv_dup hx hb dX0_playCard_137 rfl ?_
      refine gm_get8 cx hK hw tl_RX0_43 dX0_playCard_138 (fun z138 hz138 => ?_)
      refine tt_gst cx hT hw.2.2 4 (by decide) rfl dX0_playCard_141 ?_
      refine lv_iload_n hx hb dX0_playCard_144 rfl (lv_at hl 2 rfl) ?_
      refine tt_ld hx hb hT hw.2.2 4 (by decide) (z7.toNat) (by omega) dX0_playCard_145 (fun z145 hz145 => ?_)
      have hb145 := tv_b 4 (z7.toNat)
      refine ts_iadd hx hb dX0_playCard_146 (fun z146 hz146 => ?_)
      refine gm_put8 cx hK hw tl_RX0_43 dX0_playCard_147 (fun g147 H locs hg147 hw => ?_)
      have r147 : ∀ j : Nat, g147 4 j = if j = 8 then z146 else if j = 7 then z132 else if j = 6 then z105 else if j = 8 then g 4 8 - (if 6 ≤ z7.toNat then 1 else 0) else g 4 j := fun j => by rw [hg147, u2_4, r133 j]
      have q1474 : g147 4 4 = g 4 4 := r147 4
      have q1475 : g147 4 5 = g 4 5 := r147 5
      obtain ⟨Ld, hLd⟩ : ∃ Ld, Ld = dr (tv 2 z7.toNat).toNat (mvL S.2 (pl S) 1 place.toNat 2) (pl S) := ⟨_, rfl⟩
      rw [hz118, ← hLd] at hq119
      have hx147 : PX g147 (lx Ld) := PX_row hq119.1 (by rw [hg147, u2_row _ (by decide), hg133, u2_row _ (by decide)]) (by rw [hg147, u2_row _ (by decide), hg133, u2_row _ (by decide)])
      have e147 : ∀ j : Nat, g147 2 j = g 2 j := fun j => by rw [hg147, u2_row _ (by decide), hg133, u2_row _ (by decide), hq119.2.1, hg106, u2_row _ (by decide), hq92.2.2.1, har.2.2.1]
      have f147 : ∀ j : Nat, g147 3 j = g 3 j := fun j => by rw [hg147, u2_row _ (by decide), hg133, u2_row _ (by decide), hq119.2.2.1, hg106, u2_row _ (by decide), hq92.2.2.2.1, har.2.2.2]
      have hld : lenS Ld = lenS S.2 := by rw [hLd, lenS_dr hpl.1, lenS_mvL _ hpl.1 (by omega) (by omega) (by decide) (by show place.toNat < (hand S).length; omega)]
      have hvp5 := VS_pile hv0 5 (by omega)
      have hpp5 : g 2 5 = S.1 15 := hp 5 (by omega)
      have ht5 := tv5_k z7.toNat (by omega)
      have hc5 : S.1 (10 + 5) = S.1 15 := rfl
      have q97 : g92 4 6 = g 4 6 := r92 6
      have q124 : g119 4 7 = g 4 7 := r119 7
      have q138 : g133 4 8 = g 4 8 - (if 6 ≤ z7.toNat then 1 else 0) := r133 8
      have q175 : g147 4 9 = g 4 9 := r147 9
      refine ts_iconst hx hb dX0_playCard_150 ?_
      refine lv_istore (lv' := [(4, .int (iN 0)), (0, .ref (ad 0)), (1, .int (iN place)), (2, .int (iN z7))]) hx hb dX0_playCard_151 hl (by decide) rfl (fun ls hl => ?_)
      refine lv_iload hx hb dX0_playCard_153 (lv_at hl 0 rfl) ?_
      refine tt_gst cx hT hw.2.2 5 (by decide) rfl dX0_playCard_155 ?_
      refine lv_iload_n hx hb dX0_playCard_158 rfl (lv_at hl 3 rfl) ?_
      refine tt_ld hx hb hT hw.2.2 5 (by decide) (z7.toNat) (by omega) dX0_playCard_159 (fun z159 hz159 => ?_)
      have hb159 := tv_b 5 (z7.toNat)
      refine ts_icmp_ge (tgt := 173) hx hb (by omega) dX0_playCard_160 (by decide) (fun c160 => ?_) (fun c160 => ?_)
      · skip
        obtain ⟨C, hC⟩ : ∃ C, C = ((S.1 15, Ld) : Int × LLT) := ⟨_, rfl⟩
        have hPC : plC S place.toNat z7.toNat = C := by
          rw [hC]
          unfold plC
          rw [if_neg (by split at ht5 <;> omega), hLd]
        have r173 := r147
        have x173 : PX g147 (lx C.2) := by rw [hC]; exact hx147
        have e173 : ∀ j : Nat, g147 2 j = if j = 5 then C.1 else g 2 j := fun j => by
          rw [e147 j, hC]
          by_cases hj : j = 5
          · rw [if_pos hj, hj]; exact hpp5
          · rw [if_neg hj]
        have f173 := f147
        have q173 : g147 4 9 = g 4 9 := r173 9
        refine lv_aload_n hx hb dX0_playCard_173 rfl (lv_at hl 1 rfl) ?_
        refine lv_dup hx hb dX0_playCard_174 rfl ?_
        refine gm_get9 cx hK hw tl_RX0_46 dX0_playCard_175 (fun z175 hz175 => ?_)
        refine tt_gst cx hT hw.2.2 6 (by decide) rfl dX0_playCard_178 ?_
        refine lv_iload_n hx hb dX0_playCard_181 rfl (lv_at hl 3 rfl) ?_
        refine tt_ld hx hb hT hw.2.2 6 (by decide) (z7.toNat) (by omega) dX0_playCard_182 (fun z182 hz182 => ?_)
        have hb182 := tv_b 6 (z7.toNat)
        refine ts_iadd hx hb dX0_playCard_183 (fun z183 hz183 => ?_)
        refine gm_put9 cx hK hw tl_RX0_46 dX0_playCard_184 (fun g184 H locs hg184 hw => ?_)
        have r184 : ∀ j : Nat, g184 4 j = if j = 9 then z183 else if j = 8 then z146 else if j = 7 then z132 else if j = 6 then z105 else if j = 8 then g 4 8 - (if 6 ≤ z7.toNat then 1 else 0) else g 4 j := fun j => by rw [hg184, u2_4, r173 j]
        have hkz : (hand S).getD place.toNat 0 = z7 := hcr.2.2.1.symm
        have k6 : z105 = S.1 2 + tv 1 z7.toNat := by omega
        have k7 : z132 = S.1 3 + tv 3 z7.toNat := by omega
        have k8 : z146 = S.1 4 - (if 6 ≤ z7.toNat then 1 else 0) + tv 4 z7.toNat := by omega
        have k9 : z183 = S.1 5 + tv 6 z7.toNat := by omega
        have hR : RS g184 (plS S.1 z7.toNat C.1) := ⟨(r184 4).trans (h0), (r184 5).trans (h1), (r184 6).trans (k6), (r184 7).trans (k7), (r184 8).trans (k8), (r184 9).trans (k9), (r184 10).trans (h6), (r184 11).trans (h9), (r184 12).trans (h7), (r184 13).trans (h8), fun j hj => by
          rw [plS_hi _ _ _ (by omega), hg184, u2_row _ (by decide), e173 j]
          by_cases hj5 : j = 5
          · rw [if_pos hj5, if_pos (by omega)]
          · rw [if_neg hj5, if_neg (by omega)]; exact hp j hj, fun j hj => by rw [plS_hi _ _ _ (by omega), if_neg (by omega), hg184, u2_row _ (by decide), f173 j]; exact hs j hj⟩
        have hA : playA S place.toNat = (plS S.1 z7.toNat C.1, C.2) := by
          unfold playA
          rw [hkz, hPC]
        have x184 : PX g184 (lx C.2) := PX_row x173 (by rw [hg184, u2_row _ (by decide)]) (by rw [hg184, u2_row _ (by decide)])
        refine lv_iload_n hx hb dX0_playCard_187 rfl (lv_at hl 3 rfl) ?_
        exact gm_ret cx hr hlocks hw (by rw [hO]; exact ⟨by show z7 = (hand S).getD place.toNat 0; exact hkz.symm, by show RX g184 (playA S place.toNat); rw [hA]; exact ⟨hR, x184⟩⟩) dX0_playCard_188
      · skip
        refine lv_aload_n hx hb dX0_playCard_163 rfl (lv_at hl 1 rfl) ?_
        refine gm_callv (rest := []) cx hK hT hA hw hl (c_X0_giveCurses l g147 Ld hx147 (by rw [q1474]; omega) (by rw [q1474, q1475]; omega) (by rw [e147 5]; omega) (by rw [PX_tot hx147, e147 5, hld]; omega)) tg_RX0_109 ⟨rfl, rfl⟩ 0 rfl (by decide +kernel) ⟨Nat.le_of_ble_eq_true rfl, Nat.le_of_ble_eq_true rfl⟩ ⟨Nat.zero_le _, Nat.zero_le _⟩ (Nat.le_of_ble_eq_true rfl) dX0_playCard_164 (rfl) (fun g164 H locs hq164 hw => ?_)
        obtain ⟨z167, hz167⟩ : ∃ z : Int, z = 0 + 1 := ⟨_, rfl⟩
        refine lv_iinc (v := iN z167) (lv' := [(4, .int (iN z167)), (0, .ref (ad 0)), (1, .int (iN place)), (2, .int (iN z7))]) hx hb dX0_playCard_167 hl (k := 0) rfl (by rw [hz167]; exact iN_add _ _) (by decide) rfl (fun ls hl => ?_)
        refine lv_goto (tgt := 153) hx hb dX0_playCard_170 (by decide) ?_
        refine lv_iload hx hb dX0_playCard_153 (lv_at hl 0 rfl) ?_
        refine tt_gst cx hT hw.2.2 5 (by decide) rfl dX0_playCard_155 ?_
        refine lv_iload_n hx hb dX0_playCard_158 rfl (lv_at hl 3 rfl) ?_
        refine tt_ld hx hb hT hw.2.2 5 (by decide) (z7.toNat) (by omega) dX0_playCard_159 (fun z159 hz159 => ?_)
        have hb159 := tv_b 5 (z7.toNat)
        refine ts_icmp_ge (tgt := 173) hx hb (by omega) dX0_playCard_160 (by decide) (fun c160 => ?_) (fun c160 => ?_)
        · skip
          obtain ⟨C, hC⟩ : ∃ C, C = cuN (S.1 1) (S.1 0) (S.1 0 - 1).toNat (S.1 15, Ld) := ⟨_, rfl⟩
          rw [q1474, q1475, e147 5, hpp5, h0, h1, ← hC] at hq164
          have hPC : plC S place.toNat z7.toNat = C := by
            rw [hC]
            unfold plC
            rw [if_pos (by split at ht5 <;> omega), hLd]
          have r173 : ∀ j : Nat, g164 4 j = if j = 8 then z146 else if j = 7 then z132 else if j = 6 then z105 else if j = 8 then g 4 8 - (if 6 ≤ z7.toNat then 1 else 0) else g 4 j := fun j => by rw [hq164.2.2.2]; exact r147 j
          have x173 : PX g164 (lx C.2) := hq164.1
          have e173 : ∀ j : Nat, g164 2 j = if j = 5 then C.1 else g 2 j := fun j => by rw [hq164.2.1 j, e147 j]
          have f173 : ∀ j : Nat, g164 3 j = g 3 j := fun j => by rw [hq164.2.2.1]; exact f147 j
          have q173 : g164 4 9 = g 4 9 := r173 9
          refine lv_aload_n hx hb dX0_playCard_173 rfl (lv_at hl 1 rfl) ?_
          refine lv_dup hx hb dX0_playCard_174 rfl ?_
          refine gm_get9 cx hK hw tl_RX0_46 dX0_playCard_175 (fun z175 hz175 => ?_)
          refine tt_gst cx hT hw.2.2 6 (by decide) rfl dX0_playCard_178 ?_
          refine lv_iload_n hx hb dX0_playCard_181 rfl (lv_at hl 3 rfl) ?_
          refine tt_ld hx hb hT hw.2.2 6 (by decide) (z7.toNat) (by omega) dX0_playCard_182 (fun z182 hz182 => ?_)
          have hb182 := tv_b 6 (z7.toNat)
          refine ts_iadd hx hb dX0_playCard_183 (fun z183 hz183 => ?_)
          refine gm_put9 cx hK hw tl_RX0_46 dX0_playCard_184 (fun g184 H locs hg184 hw => ?_)
          have r184 : ∀ j : Nat, g184 4 j = if j = 9 then z183 else if j = 8 then z146 else if j = 7 then z132 else if j = 6 then z105 else if j = 8 then g 4 8 - (if 6 ≤ z7.toNat then 1 else 0) else g 4 j := fun j => by rw [hg184, u2_4, r173 j]
          have hkz : (hand S).getD place.toNat 0 = z7 := hcr.2.2.1.symm
          have k6 : z105 = S.1 2 + tv 1 z7.toNat := by omega
          have k7 : z132 = S.1 3 + tv 3 z7.toNat := by omega
          have k8 : z146 = S.1 4 - (if 6 ≤ z7.toNat then 1 else 0) + tv 4 z7.toNat := by omega
          have k9 : z183 = S.1 5 + tv 6 z7.toNat := by omega
          have hR : RS g184 (plS S.1 z7.toNat C.1) := ⟨(r184 4).trans (h0), (r184 5).trans (h1), (r184 6).trans (k6), (r184 7).trans (k7), (r184 8).trans (k8), (r184 9).trans (k9), (r184 10).trans (h6), (r184 11).trans (h9), (r184 12).trans (h7), (r184 13).trans (h8), fun j hj => by
            rw [plS_hi _ _ _ (by omega), hg184, u2_row _ (by decide), e173 j]
            by_cases hj5 : j = 5
            · rw [if_pos hj5, if_pos (by omega)]
            · rw [if_neg hj5, if_neg (by omega)]; exact hp j hj, fun j hj => by rw [plS_hi _ _ _ (by omega), if_neg (by omega), hg184, u2_row _ (by decide), f173 j]; exact hs j hj⟩
          have hA : playA S place.toNat = (plS S.1 z7.toNat C.1, C.2) := by
            unfold playA
            rw [hkz, hPC]
          have x184 : PX g184 (lx C.2) := PX_row x173 (by rw [hg184, u2_row _ (by decide)]) (by rw [hg184, u2_row _ (by decide)])
          refine lv_iload_n hx hb dX0_playCard_187 rfl (lv_at hl 3 rfl) ?_
          exact gm_ret cx hr hlocks hw (by rw [hO]; exact ⟨by show z7 = (hand S).getD place.toNat 0; exact hkz.symm, by show RX g184 (playA S place.toNat); rw [hA]; exact ⟨hR, x184⟩⟩) dX0_playCard_188
        · exfalso
          have hk6 : z7.toNat = 6 := by omega
          rw [hz167] at *
          omega
    refine lv_iload_n hx hb dX0_playCard_18 rfl (lv_at hl 0 rfl) ?_
    refine ts_bipush hx hb dX0_playCard_19 (by decide) ?_
    refine ts_icmp_lt (tgt := 28) hx hb (by omega) dX0_playCard_21 (by decide) (fun c21 => ?_) (fun c21 => ?_)
    · skip
      refine ts_iconst hx hb dX0_playCard_28 ?_
      refine lv_istore_n (lv' := [(3, .int (iN 0)), (2, .int (iN z7)), (0, .ref (ad 0)), (1, .int (iN place))]) hx hb dX0_playCard_29 rfl hl (by decide) rfl (fun ls hl => ?_)
      refine lv_aload_n hx hb dX0_playCard_30 rfl (lv_at hl 2 rfl) ?_
      refine gm_get13 cx hK hw tl_RX0_58 dX0_playCard_31 (fun z31 hz31 => ?_)
      refine ts_if_ne (tgt := 57) hx hb (by omega) dX0_playCard_34 (by decide) (fun c34 => ?_) (fun c34 => ?_)
      · skip
        refine ts_ldc (z := -1000002) hx hb cx.2.2.2.1 cx.2.2.2.2 tk_RX0_89 dX0_playCard_57 ?_
        exact gm_ret cx hr hlocks hw (by unfold playO; rw [if_neg (fun h => h (by omega)), if_pos (by omega)]; exact ⟨rfl, hx0⟩) dX0_playCard_59
      · skip
        refine lv_iload_n hx hb dX0_playCard_37 rfl (lv_at hl 0 rfl) ?_
        refine ts_if_ne (tgt := 46) hx hb (by omega) dX0_playCard_38 (by decide) (fun c38 => ?_) (fun c38 => ?_)
        · exfalso
          omega
        · skip
          refine lv_iload_n hx hb dX0_playCard_41 rfl (lv_at hl 1 rfl) ?_
          refine ts_iconst hx hb dX0_playCard_42 ?_
          refine ts_icmp_gt (tgt := 57) hx hb (by omega) dX0_playCard_43 (by decide) (fun c43 => ?_) (fun c43 => ?_)
          · skip
            refine ts_ldc (z := -1000002) hx hb cx.2.2.2.1 cx.2.2.2.2 tk_RX0_89 dX0_playCard_57 ?_
            exact gm_ret cx hr hlocks hw (by unfold playO; rw [if_neg (fun h => h (by omega)), if_pos (by omega)]; exact ⟨rfl, hx0⟩) dX0_playCard_59
          · skip
            refine lv_iload_n hx hb dX0_playCard_46 rfl (lv_at hl 0 rfl) ?_
            refine ts_if_eq (tgt := 60) hx hb (by omega) dX0_playCard_47 (by decide) (fun c47 => ?_) (fun c47 => ?_)
            · skip
              refine lv_iload_n hx hb dX0_playCard_60 rfl (lv_at hl 0 rfl) ?_
              refine ts_if_eq (tgt := 74) hx hb (by omega) dX0_playCard_61 (by decide) (fun c61 => ?_) (fun c61 => ?_)
              · skip
                have hga8 : ∀ j : Nat, g 4 j = if j = 8 then g 4 8 - (if 6 ≤ z7.toNat then 1 else 0) else g 4 j := fun j => by
                  rw [if_neg (show ¬ 6 ≤ z7.toNat by omega)]
                  by_cases hj : j = 8
                  · rw [if_pos hj, hj]; omega
                  · rw [if_neg hj]
                have hgar : g 0 = g 0 ∧ g 1 = g 1 ∧ g 2 = g 2 ∧ g 3 = g 3 := ⟨rfl, rfl, rfl, rfl⟩
                exact cut74 (g) (by omega) (hga8) (hgar) _ _ hw _ (lv_sub hl [2, 3, 1] rfl)
              · exfalso
                omega
            · exfalso
              omega
    · skip
      refine ts_iconst hx hb dX0_playCard_24 ?_
      refine lv_goto (tgt := 29) hx hb dX0_playCard_25 (by decide) ?_
      refine lv_istore_n (lv' := [(3, .int (iN 1)), (2, .int (iN z7)), (0, .ref (ad 0)), (1, .int (iN place))]) hx hb dX0_playCard_29 rfl hl (by decide) rfl (fun ls hl => ?_)
      refine lv_aload_n hx hb dX0_playCard_30 rfl (lv_at hl 2 rfl) ?_
      refine gm_get13 cx hK hw tl_RX0_58 dX0_playCard_31 (fun z31 hz31 => ?_)
      refine ts_if_ne (tgt := 57) hx hb (by omega) dX0_playCard_34 (by decide) (fun c34 => ?_) (fun c34 => ?_)
      · skip
        refine ts_ldc (z := -1000002) hx hb cx.2.2.2.1 cx.2.2.2.2 tk_RX0_89 dX0_playCard_57 ?_
        exact gm_ret cx hr hlocks hw (by unfold playO; rw [if_neg (fun h => h (by omega)), if_pos (by omega)]; exact ⟨rfl, hx0⟩) dX0_playCard_59
      · skip
        refine lv_iload_n hx hb dX0_playCard_37 rfl (lv_at hl 0 rfl) ?_
        refine ts_if_ne (tgt := 46) hx hb (by omega) dX0_playCard_38 (by decide) (fun c38 => ?_) (fun c38 => ?_)
        · skip
          refine lv_iload_n hx hb dX0_playCard_46 rfl (lv_at hl 0 rfl) ?_
          refine ts_if_eq (tgt := 60) hx hb (by omega) dX0_playCard_47 (by decide) (fun c47 => ?_) (fun c47 => ?_)
          · exfalso
            omega
          · skip
            refine lv_aload_n hx hb dX0_playCard_50 rfl (lv_at hl 2 rfl) ?_
            refine gm_get8 cx hK hw tl_RX0_43 dX0_playCard_51 (fun z51 hz51 => ?_)
            refine ts_if_gt (tgt := 60) hx hb (by omega) dX0_playCard_54 (by decide) (fun c54 => ?_) (fun c54 => ?_)
            · skip
              refine lv_iload_n hx hb dX0_playCard_60 rfl (lv_at hl 0 rfl) ?_
              refine ts_if_eq (tgt := 74) hx hb (by omega) dX0_playCard_61 (by decide) (fun c61 => ?_) (fun c61 => ?_)
              · exfalso
                omega
              · skip
                refine lv_aload_n hx hb dX0_playCard_64 rfl (lv_at hl 2 rfl) ?_
                refine lv_dup hx hb dX0_playCard_65 rfl ?_
                refine gm_get8 cx hK hw tl_RX0_43 dX0_playCard_66 (fun z66 hz66 => ?_)
                refine ts_iconst hx hb dX0_playCard_69 ?_
                refine ts_isub hx hb dX0_playCard_70 (fun z70 hz70 => ?_)
                have hga8q : z70 = g 4 8 - (if 6 ≤ z7.toNat then 1 else 0) := by rw [if_pos (by omega)]; omega
                refine gm_put8 cx hK hw tl_RX0_43 dX0_playCard_71 (fun g71 H locs hg71 hw => ?_)
                have hga8 : ∀ j : Nat, g71 4 j = if j = 8 then g 4 8 - (if 6 ≤ z7.toNat then 1 else 0) else g 4 j := fun j => by rw [hg71, u2_4, hga8q]
                have hgar : g71 0 = g 0 ∧ g71 1 = g 1 ∧ g71 2 = g 2 ∧ g71 3 = g 3 := ⟨by rw [hg71, u2_row _ (by decide)], by rw [hg71, u2_row _ (by decide)], by rw [hg71, u2_row _ (by decide)], by rw [hg71, u2_row _ (by decide)]⟩
                exact cut74 (g71) (by omega) (hga8) (hgar) _ _ hw _ (lv_sub hl [2, 3, 1] rfl)
            · skip
              refine ts_ldc (z := -1000002) hx hb cx.2.2.2.1 cx.2.2.2.2 tk_RX0_89 dX0_playCard_57 ?_
              exact gm_ret cx hr hlocks hw (by unfold playO; rw [if_neg (fun h => h (by omega)), if_pos (by omega)]; exact ⟨rfl, hx0⟩) dX0_playCard_59
        · exfalso
          omega
  · skip
    
    refine ts_ldc (z := -1000001) hx hb cx.2.2.2.1 cx.2.2.2.2 tk_RX0_62 dX0_playCard_15 ?_
    exact gm_ret cx hr hlocks hw (by unfold playO; rw [if_pos (fun h => by omega)]; exact ⟨rfl, hx0⟩) dX0_playCard_17
end
section
/-! every move keeps what holds of every state -/
def allK (L : LLT) : Prop := ∀ p w : Nat, ∀ x ∈ L p w, 0 ≤ x ∧ x ≤ 9
def outE (np : Int) (L : LLT) : Prop := ∀ p w : Nat, ¬ ((p : Int) < np ∧ w < 4) → L p w = []
theorem allK_ul {L : LLT} {p w : Nat} {x : List Int} (h : allK L) (hx : ∀ y ∈ x, 0 ≤ y ∧ y ≤ 9) : allK (ul L p w x) := by
  intro p' w' y hy
  unfold ul at hy
  split at hy
  · exact hx y hy
  · exact h p' w' y hy
theorem outE_ul {np : Int} {L : LLT} {p w : Nat} {x : List Int} (h : outE np L) (hp : (p : Int) < np) (hw : w < 4) : outE np (ul L p w x) := by
  intro p' w' hn
  unfold ul
  rw [if_neg]
  · exact h p' w' hn
  · rintro ⟨rfl, rfl⟩
    exact hn ⟨hp, hw⟩
theorem mem_getD {l : List Int} {k : Nat} (h : k < l.length) : l.getD k 0 ∈ l := by
  rw [List.getD_eq_getElem?_getD, List.getElem?_eq_getElem h]
  exact List.getElem_mem h
theorem allK_mv {L : LLT} {p w k w' : Nat} (h : allK L) (hk : k < (L p w).length) : allK (mvL L p w k w') := by
  unfold mvL
  refine allK_ul (allK_ul h (fun y hy => h p w y (List.mem_of_mem_eraseIdx hy))) (fun y hy => ?_)
  rcases List.mem_append.mp hy with q | q
  · exact h p w' y q
  · rw [List.mem_singleton.mp q]
    exact h p w _ (mem_getD hk)
theorem outE_mv {np : Int} {L : LLT} {p w k w' : Nat} (h : outE np L) (hp : (p : Int) < np) (hw : w < 4) (hw' : w' < 4) : outE np (mvL L p w k w') := outE_ul (outE_ul h hp hw) hp hw'
theorem allK_flip {L : LLT} {p : Nat} (h : allK L) : allK (flipL L p) := by
  unfold flipL
  split
  · exact allK_ul (allK_ul h (h p 3)) (fun y hy => by cases hy)
  · exact h
theorem outE_flip {np : Int} {L : LLT} {p : Nat} (h : outE np L) (hp : (p : Int) < np) : outE np (flipL L p) := by
  unfold flipL
  split
  · exact outE_ul (outE_ul h hp (by omega)) hp (by omega)
  · exact h
theorem allK_dr {p : Nat} : ∀ (n : Nat) (L : LLT), allK L → allK (dr n L p)
  | 0, _, h => h
  | n + 1, L, h => by
    refine allK_dr n (dr1 L p) ?_
    unfold dr1
    split
    · exact allK_flip h
    · rename_i hq
      exact allK_mv (allK_flip h) (List.length_pos_iff.mpr hq)
theorem outE_dr {np : Int} {p : Nat} (hp : (p : Int) < np) : ∀ (n : Nat) (L : LLT), outE np L → outE np (dr n L p)
  | 0, _, h => h
  | n + 1, L, h => by
    refine outE_dr hp n (dr1 L p) ?_
    unfold dr1
    split
    · exact outE_flip h hp
    · exact outE_mv (outE_flip h hp) hp (by omega) (by omega)
theorem dr_2 {p : Nat} (p' : Nat) : ∀ (n : Nat) (L : LLT), dr n L p p' 2 = L p' 2
  | 0, _ => rfl
  | n + 1, L => by
    show dr n (dr1 L p) p p' 2 = L p' 2
    rw [dr_2 p' n]
    have e : flipL L p p' 2 = L p' 2 := by
      unfold flipL
      split
      · rw [ul_w _ _ (by decide), ul_w _ _ (by decide)]
      · rfl
    unfold dr1
    split
    · exact e
    · unfold mvL
      rw [ul_w _ _ (by decide), ul_w _ _ (by decide)]
      exact e
theorem cuN_keep {a np : Int} (hnp : 2 ≤ np ∧ np ≤ 4) (c0 : Int × LLT) (hc0 : 0 ≤ c0.1) (hk : allK c0.2) (ho : outE np c0.2) : ∀ n : Nat, 0 ≤ (cuN a np n c0).1 ∧ lenS (cuN a np n c0).2 + (cuN a np n c0).1 = lenS c0.2 + c0.1 ∧ allK (cuN a np n c0).2 ∧ outE np (cuN a np n c0).2 ∧ (∀ p' : Nat, (cuN a np n c0).2 p' 2 = c0.2 p' 2)
  | 0 => ⟨hc0, rfl, hk, ho, fun _ => rfl⟩
  | n + 1 => by
    obtain ⟨h1, h2, h3, h4, h5⟩ := cuN_keep hnp c0 hc0 hk ho n
    have hm := (mod_next (x := a + ((n : Int) + 1)) hnp).1
    have e : cuN a np (n + 1) c0 = cu1 (cuN a np n c0) ((a + ((n : Int) + 1)) % np).toNat := rfl
    rw [e]
    obtain ⟨c, hc⟩ : ∃ c, c = cuN a np n c0 := ⟨_, rfl⟩
    rw [← hc] at h1 h2 h3 h4 h5 ⊢
    obtain ⟨q, hq⟩ : ∃ q, q = ((a + ((n : Int) + 1)) % np).toNat := ⟨_, rfl⟩
    rw [← hq]
    have hq4 : q < 4 ∧ (q : Int) < np := by omega
    by_cases hp : 0 < c.1
    · have e2 : cu1 c q = (c.1 - 1, ul c.2 q 3 (c.2 q 3 ++ [5])) := if_pos hp
      rw [e2]
      refine ⟨by show 0 ≤ c.1 - 1; omega, ?_, allK_ul h3 (fun y hy => ?_), outE_ul h4 hq4.2 (by omega), fun p' => by show ul c.2 q 3 (c.2 q 3 ++ [5]) p' 2 = _; rw [ul_w _ _ (by decide)]; exact h5 p'⟩
      · show lenS (ul c.2 q 3 (c.2 q 3 ++ [5])) + (c.1 - 1) = _
        rw [lenS_ul _ _ hq4.1 (by omega), List.length_append, List.length_singleton]
        omega
      · rcases List.mem_append.mp hy with z | z
        · exact h3 q 3 y z
        · rw [List.mem_singleton.mp z]; decide
    · have e2 : cu1 c q = c := if_neg hp
      rw [e2]
      exact ⟨h1, h2, h3, h4, h5⟩
theorem tv_tab (k : Nat) (hk : k < 10) : (0 ≤ tv 0 k) ∧ (0 ≤ tv 1 k ∧ tv 1 k ≤ 3) ∧ (0 ≤ tv 2 k ∧ tv 2 k ≤ 2) ∧ (0 ≤ tv 3 k ∧ tv 3 k ≤ 1) ∧ (0 ≤ tv 4 k ∧ tv 4 k ≤ 1) ∧ (0 ≤ tv 6 k ∧ tv 6 k ≤ 1) ∧ (k < 6 → tv 4 k = 0) := by
  have : ∀ k : Fin 10, (0 ≤ tv 0 k.1) ∧ (0 ≤ tv 1 k.1 ∧ tv 1 k.1 ≤ 3) ∧ (0 ≤ tv 2 k.1 ∧ tv 2 k.1 ≤ 2) ∧ (0 ≤ tv 3 k.1 ∧ tv 3 k.1 ≤ 1) ∧ (0 ≤ tv 4 k.1 ∧ tv 4 k.1 ≤ 1) ∧ (0 ≤ tv 6 k.1 ∧ tv 6 k.1 ≤ 1) ∧ (k.1 < 6 → tv 4 k.1 = 0) := by decide +kernel
  exact this ⟨k, hk⟩
theorem VS_buy {S : StT} (h : VS S) {k : Nat} (hk : k < 10) (hw : why S.1 k = 0) : VS (buyA S k) := by
  have hw1 := why_0 hw
  have hvp := VS_pile h k (by omega)
  have hpl := VS_pl h
  have ht := tv_tab k hk
  obtain ⟨v0, v1, v6, v9, v8, vp, v2, v3, v4, v5, va, vo, vt⟩ := h
  have e : ∀ j : Nat, j ≠ 2 → j ≠ 3 → j ≠ 10 + k → (buyA S k).1 j = S.1 j := fun j h1 h2 h3 => by
    show buS S.1 k j = S.1 j
    unfold buS
    rw [uf_n _ _ h3, uf_n _ _ h2, uf_n _ _ h1]
  have e2 : (buyA S k).1 2 = S.1 2 - tv 0 k := by
    show buS S.1 k 2 = _
    unfold buS
    rw [uf_n _ _ (by omega), uf_n _ _ (by omega), uf_s]
  have e3 : (buyA S k).1 3 = S.1 3 - 1 := by
    show buS S.1 k 3 = _
    unfold buS
    rw [uf_n _ _ (by omega), uf_s]
  have ek : (buyA S k).1 (10 + k) = S.1 (10 + k) - 1 := uf_s _ _ _
  have hpe : pl (buyA S k) = pl S := by unfold pl; rw [e 1 (by omega) (by omega) (by omega)]
  have l2 : (buyA S k).2 (pl S) 2 = S.2 (pl S) 2 := ul_w _ _ (by decide)
  have hfun : (fun j => (buyA S k).1 (10 + j)) = uf (fun j => S.1 (10 + j)) k (S.1 (10 + k) - 1) := by
    funext j
    by_cases hj : j = k
    · subst hj; rw [uf_s]; exact ek
    · rw [uf_n _ _ hj]; exact e _ (by omega) (by omega) (by omega)
  have hp0 := hpl.2
  refine ⟨?_, ?_, ?_, ?_, ?_, fun j hj => ?_, ?_, ?_, ?_, ?_, allK_ul va (fun y hy => ?_), ?_, ?_⟩
  · rw [e 0 (by omega) (by omega) (by omega)]; exact v0
  · rw [e 1 (by omega) (by omega) (by omega), e 0 (by omega) (by omega) (by omega)]; exact v1
  · rw [e 6 (by omega) (by omega) (by omega)]; exact v6
  · rw [e 9 (by omega) (by omega) (by omega)]; exact v9
  · rw [e 8 (by omega) (by omega) (by omega)]; exact v8
  · by_cases hjk : j = k
    · subst hjk; rw [ek]; omega
    · rw [e _ (by omega) (by omega) (by omega)]; exact vp j hj
  · rw [e2, hpe, l2]; omega
  · rw [e3, hpe, l2]; omega
  · rw [e 4 (by omega) (by omega) (by omega), hpe, l2]; exact v4
  · rw [e 5 (by omega) (by omega) (by omega), hpe, l2]; exact v5
  · rcases List.mem_append.mp hy with z | z
    · exact va _ _ y z
    · rw [List.mem_singleton.mp z]; omega
  · rw [e 0 (by omega) (by omega) (by omega)]
    exact outE_ul vo (by omega) (by omega)
  · rw [hfun, sumN_uf, if_pos (by omega)]
    show _ + lenS (ul S.2 (pl S) 3 (S.2 (pl S) 3 ++ [(k : Int)])) = 164
    rw [lenS_ul _ _ (by omega) (by omega), List.length_append, List.length_singleton]
    omega
theorem VS_scr {S : StT} (h : VS S) {i : Nat} (hi : i < (hand S).length) (h5 : 0 < S.1 5) : VS (scrA S i) := by
  have hpl := VS_pl h
  have hhd := VS_hand h hi
  obtain ⟨v0, v1, v6, v9, v8, vp, v2, v3, v4, v5, va, vo, vt⟩ := h
  generalize hkk : ((hand S).getD i 0).toNat = k at *
  have hk : k < 10 := by omega
  have eA : (scrA S i).1 = uf (uf S.1 5 (S.1 5 - 1)) (20 + k) (S.1 (20 + k) + 1) := by
    show uf (uf S.1 5 (S.1 5 - 1)) (20 + ((hand S).getD i 0).toNat) (S.1 (20 + ((hand S).getD i 0).toNat) + 1) = _
    rw [hkk]
  have e : ∀ j : Nat, j ≠ 5 → j ≠ 20 + k → (scrA S i).1 j = S.1 j := fun j h1 h3 => by rw [eA, uf_n _ _ h3, uf_n _ _ h1]
  have e5 : (scrA S i).1 5 = S.1 5 - 1 := by rw [eA, uf_n _ _ (by omega), uf_s]
  have ek : (scrA S i).1 (20 + k) = S.1 (20 + k) + 1 := by rw [eA, uf_s]
  have hpe : pl (scrA S i) = pl S := by unfold pl; rw [e 1 (by omega) (by omega)]
  have l2 : (scrA S i).2 (pl S) 2 = S.2 (pl S) 2 := ul_w _ _ (by decide)
  have hfun : (fun j => (scrA S i).1 (10 + j)) = uf (fun j => S.1 (10 + j)) (10 + k) (S.1 (20 + k) + 1) := by
    funext j
    by_cases hj : j = 10 + k
    · subst hj; rw [uf_s, show 10 + (10 + k) = 20 + k by omega]; exact ek
    · rw [uf_n _ _ hj]; exact e _ (by omega) (by omega)
  have hp0 := hpl.2
  have vk := vp (10 + k) (by omega)
  rw [show 10 + (10 + k) = 20 + k by omega] at vk
  refine ⟨?_, ?_, ?_, ?_, ?_, fun j hj => ?_, ?_, ?_, ?_, ?_, allK_ul va (fun y hy => va _ _ y (List.mem_of_mem_eraseIdx hy)), ?_, ?_⟩
  · rw [e 0 (by omega) (by omega)]; exact v0
  · rw [e 1 (by omega) (by omega), e 0 (by omega) (by omega)]; exact v1
  · rw [e 6 (by omega) (by omega)]; exact v6
  · rw [e 9 (by omega) (by omega)]; exact v9
  · rw [e 8 (by omega) (by omega)]; exact v8
  · by_cases hjk : j = 10 + k
    · subst hjk; rw [show 10 + (10 + k) = 20 + k by omega, ek]; omega
    · rw [e _ (by omega) (by omega)]; exact vp j hj
  · rw [e 2 (by omega) (by omega), hpe, l2]; exact v2
  · rw [e 3 (by omega) (by omega), hpe, l2]; exact v3
  · rw [e 4 (by omega) (by omega), hpe, l2]; exact v4
  · rw [e5, hpe, l2]; omega
  · rw [e 0 (by omega) (by omega)]
    exact outE_ul vo (by omega) (by omega)
  · rw [hfun, sumN_uf, if_pos (by omega)]
    show _ + lenS (ul S.2 (pl S) 1 ((hand S).eraseIdx i)) = 164
    rw [lenS_ul _ _ (by omega) (by omega), len_erase hi]
    show _ + (_ + ((((hand S).length - 1 : Nat) : Int) - ((hand S).length : Int))) = 164
    rw [show 10 + (10 + k) = 20 + k by omega]
    omega
theorem VS_play {S : StT} (h : VS S) {i : Nat} (hi : i < (hand S).length) (hok : (hand S).getD i 0 ≤ 2 ∨ (6 ≤ (hand S).getD i 0 ∧ 0 < S.1 4)) : VS (playA S i) ∧ ((playA S i).2 (pl S) 2).length = (S.2 (pl S) 2).length + 1 ∧ pl (playA S i) = pl S := by
  have hpl := VS_pl h
  have hhd := VS_hand h hi
  have hvp5 := VS_pile h 5 (by omega)
  obtain ⟨v0, v1, v6, v9, v8, vp, v2, v3, v4, v5, va, vo, vt⟩ := h
  generalize hkk : ((hand S).getD i 0).toNat = k at *
  have hk : k < 10 := by omega
  have ht := tv_tab k hk
  obtain ⟨C, hC⟩ : ∃ C, C = plC S i k := ⟨_, rfl⟩
  have eA : playA S i = (plS S.1 k C.1, C.2) := by
    unfold playA
    rw [hkk, hC]
  obtain ⟨Ld, hLd⟩ : ∃ Ld, Ld = dr (tv 2 k).toNat (mvL S.2 (pl S) 1 i 2) (pl S) := ⟨_, rfl⟩
  have hp0 := hpl.2
  have k1 : allK Ld := by rw [hLd]; exact allK_dr _ _ (allK_mv va hi)
  have k2 : outE (S.1 0) Ld := by rw [hLd]; exact outE_dr (by omega) _ _ (outE_mv vo (by omega) (by omega) (by omega))
  have k3 : lenS Ld = lenS S.2 := by rw [hLd, lenS_dr hpl.1, lenS_mvL _ hpl.1 (by omega) (by omega) (by decide) hi]
  have k4 : (Ld (pl S) 2).length = (S.2 (pl S) 2).length + 1 := by
    rw [hLd, dr_2]
    unfold mvL
    rw [ul_s, List.length_append, List.length_singleton]
  have hCk : 0 ≤ C.1 ∧ lenS C.2 + C.1 = lenS Ld + S.1 15 ∧ allK C.2 ∧ outE (S.1 0) C.2 ∧ (∀ p' : Nat, C.2 p' 2 = Ld p' 2) := by
    have := cuN_keep (a := S.1 1) v0 (S.1 15, Ld) hvp5.1 k1 k2 (S.1 0 - 1).toNat
    rw [hC]
    unfold plC
    rw [← hLd]
    split
    · exact this
    · exact ⟨hvp5.1, rfl, k1, k2, fun _ => rfl⟩
  have hhi : ∀ j : Nat, 6 ≤ j → (playA S i).1 j = if j = 15 then C.1 else S.1 j := fun j hj => by rw [eA]; exact plS_hi _ _ _ hj
  have f0 : (playA S i).1 0 = S.1 0 := by rw [eA]; rfl
  have f1 : (playA S i).1 1 = S.1 1 := by rw [eA]; rfl
  have f2 : (playA S i).1 2 = S.1 2 + tv 1 k := by rw [eA]; rfl
  have f3 : (playA S i).1 3 = S.1 3 + tv 3 k := by rw [eA]; rfl
  have f4 : (playA S i).1 4 = S.1 4 - (if 6 ≤ k then 1 else 0) + tv 4 k := by rw [eA]; rfl
  have f5 : (playA S i).1 5 = S.1 5 + tv 6 k := by rw [eA]; rfl
  have hpe : pl (playA S i) = pl S := by unfold pl; rw [f1]
  have l2 : ((playA S i).2 (pl S) 2).length = (S.2 (pl S) 2).length + 1 := by rw [eA]; show (C.2 (pl S) 2).length = _; rw [hCk.2.2.2.2]; exact k4
  have hfun : (fun j => (playA S i).1 (10 + j)) = uf (fun j => S.1 (10 + j)) 5 C.1 := by
    funext j
    rw [hhi _ (by omega)]
    by_cases hj : j = 5
    · subst hj; rw [uf_s, if_pos rfl]
    · rw [uf_n _ _ hj, if_neg (by omega)]
  refine ⟨⟨by rw [f0]; exact v0, by rw [f0, f1]; exact v1, by rw [hhi 6 (by omega)]; exact v6, by rw [hhi 9 (by omega)]; exact v9, by rw [hhi 8 (by omega)]; exact v8, fun j hj => ?_, ?_, ?_, ?_, ?_, ?_, ?_, ?_⟩, l2, hpe⟩
  · rw [hhi _ (by omega)]
    split
    · exact hCk.1
    · exact vp j hj
  · rw [f2, hpe, l2]; omega
  · rw [f3, hpe, l2]; omega
  · rw [f4, hpe, l2]; split <;> omega
  · rw [f5, hpe, l2]; omega
  · rw [eA]; exact hCk.2.2.1
  · rw [f0, eA]; exact hCk.2.2.2.1
  · rw [hfun, sumN_uf, if_pos (by omega), eA]
    show _ + lenS C.2 = 164
    have : S.1 (10 + 5) = S.1 15 := rfl
    omega
theorem VS_end {S : StT} (h : VS S) : VS (endA S) := by
  have hpl := VS_pl h
  obtain ⟨v0, v1, v6, v9, v8, vp, v2, v3, v4, v5, va, vo, vt⟩ := h
  have hp0 := hpl.2
  have hm := mod_next (x := S.1 1 + 1) v0
  have k1 : allK (enL S.2 (pl S)) := by
    unfold enL
    refine allK_ul (allK_ul (allK_ul va (fun y hy => ?_)) (fun y hy => by cases hy)) (fun y hy => by cases hy)
    rcases List.mem_append.mp hy with q | q
    · rcases List.mem_append.mp q with q | q
      · exact va _ _ y q
      · exact va _ _ y q
    · exact va _ _ y q
  have k2 : outE (S.1 0) (enL S.2 (pl S)) := outE_ul (outE_ul (outE_ul vo (by omega) (by omega)) (by omega) (by omega)) (by omega) (by omega)
  have k3 : lenS (enL S.2 (pl S)) = lenS S.2 := by
    unfold enL
    rw [lenS_ul _ _ hpl.1 (by omega), lenS_ul _ _ hpl.1 (by omega), lenS_ul _ _ hpl.1 (by omega), ul_w _ _ (by decide), ul_w _ _ (by decide), ul_w _ _ (by decide), List.length_append, List.length_append]
    simp only [List.length_nil]
    omega
  have hhi : ∀ j : Nat, 9 ≤ j → (endA S).1 j = S.1 j := fun j hj => enS_hi _ hj
  have f0 : (endA S).1 0 = S.1 0 := rfl
  have f1 : (endA S).1 1 = (S.1 1 + 1) % S.1 0 := rfl
  have f6 : (endA S).1 6 = (S.1 6 + S.1 9) % 10 := rfl
  have f8 : (endA S).1 8 = if S.1 14 = 0 ∨ 3 ≤ emp S.1 then 1 else 0 := rfl
  refine ⟨v0, by rw [f0, f1]; exact hm.1, by rw [f6]; omega, by rw [hhi 9 (by omega)]; exact v9, by rw [f8]; split <;> omega, fun j hj => by rw [hhi _ (by omega)]; exact vp j hj, ⟨Int.le_refl _, by show (0 : Int) ≤ _; omega⟩, ⟨by show (0 : Int) ≤ 1; omega, by show (1 : Int) ≤ _; omega⟩, ⟨by show (0 : Int) ≤ 1; omega, by show (1 : Int) ≤ _; omega⟩, ⟨Int.le_refl _, by show (0 : Int) ≤ _; omega⟩, allK_dr _ _ k1, outE_dr (by omega) _ _ k2, ?_⟩
  have hfun : (fun j => (endA S).1 (10 + j)) = fun j => S.1 (10 + j) := by
    funext j
    exact hhi _ (by omega)
  rw [hfun]
  show _ + lenS (dr 5 (enL S.2 (pl S)) (pl S)) = 164
  rw [lenS_dr hpl.1, k3]
  exact vt
theorem VS_beg {S : StT} (h : VS S) {np : Int} (hnp : 2 ≤ np ∧ np ≤ 4) : VS (begA S np) := by
  have v9 := h.2.2.2.1
  have hk : allK (beL np) := by
    intro p w y hy
    unfold beL at hy
    split at hy
    · split at hy
      · simp only [List.mem_cons, List.not_mem_nil, or_false] at hy; omega
      · split at hy
        · simp only [List.mem_cons, List.not_mem_nil, or_false] at hy; omega
        · cases hy
    · cases hy
  have ho : outE np (beL np) := by
    intro p w hn
    unfold beL
    by_cases h1 : (p : Int) < np
    · rw [if_pos h1, if_neg (by omega), if_neg (by omega)]
    · rw [if_neg h1]
  have hc : np = 2 ∨ np = 3 ∨ np = 4 := by omega
  have hp : ∀ j : Nat, j < 20 → 0 ≤ (begA S np).1 (10 + j) := by
    intro j hj
    show 0 ≤ beS S.1 np (10 + j)
    unfold beS
    rw [if_neg (by omega), if_neg (by omega), if_neg (by omega), if_neg (by omega)]
    split
    · omega
    · split
      · omega
      · split
        · rename_i h3 h4 h5
          have : ∀ k : Fin 10, 0 ≤ tv 8 k.1 := by decide +kernel
          have := this ⟨10 + j - 10, by omega⟩
          exact this
        · omega
  refine ⟨hnp, ⟨Int.le_refl _, by show (0 : Int) < np; omega⟩, ⟨Int.le_refl _, by show (0 : Int) ≤ 9; omega⟩, v9, Or.inl rfl, hp, ⟨Int.le_refl _, by show (0 : Int) ≤ _; omega⟩, ⟨by show (0 : Int) ≤ 1; omega, by show (1 : Int) ≤ _; omega⟩, ⟨by show (0 : Int) ≤ 1; omega, by show (1 : Int) ≤ _; omega⟩, ⟨Int.le_refl _, by show (0 : Int) ≤ _; omega⟩, hk, ho, ?_⟩
  rcases hc with rfl | rfl | rfl <;> rfl
end
section
theorem zz_last : True := trivial
end
