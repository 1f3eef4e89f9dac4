section
-- ===== PART A: goes FIRST, ahead of the names: the tables' words, and 'selects' of the private methods out of them =====
/-- a private method of a class that the tables say can be made, by its rows of tables_1 -/
def lw_okq (q : MethodName × Nat) : Prop := (q.1.cls ≠ "java/lang/invoke/MethodHandle" ∧ q.1.cls ≠ "java/lang/invoke/VarHandle") ∧ Cond.instantiable q.1.cls q.2 ∈ tables_1 ∧ Cond.privateMethod q.1 ∈ tables_1 ∧ Cond.instanceMethod q.1 ∈ tables_1
theorem lw_p0 : lw_okq (⟨"DeckBalance", "isNoCard", "(I)Z"⟩, 12) := ⟨⟨by decide +kernel, by decide +kernel⟩, List.mem_of_getElem? (i := 14) (by decide +kernel), List.mem_of_getElem? (i := 254) (by decide +kernel), List.mem_of_getElem? (i := 255) (by decide +kernel)⟩
theorem lw_p1 : lw_okq (⟨"DeckBalance", "forgetTables", "()V"⟩, 12) := ⟨⟨by decide +kernel, by decide +kernel⟩, List.mem_of_getElem? (i := 14) (by decide +kernel), List.mem_of_getElem? (i := 258) (by decide +kernel), List.mem_of_getElem? (i := 259) (by decide +kernel)⟩
theorem lw_p2 : lw_okq (⟨"DeckBalance", "isNoDeck", "(I)Z"⟩, 12) := ⟨⟨by decide +kernel, by decide +kernel⟩, List.mem_of_getElem? (i := 14) (by decide +kernel), List.mem_of_getElem? (i := 270) (by decide +kernel), List.mem_of_getElem? (i := 271) (by decide +kernel)⟩
theorem lw_p3 : lw_okq (⟨"DeckBalance", "isNoPlace", "(II)Z"⟩, 12) := ⟨⟨by decide +kernel, by decide +kernel⟩, List.mem_of_getElem? (i := 14) (by decide +kernel), List.mem_of_getElem? (i := 282) (by decide +kernel), List.mem_of_getElem? (i := 283) (by decide +kernel)⟩
theorem lw_p4 : lw_okq (⟨"DeckBalance", "learnTables", "()V"⟩, 12) := ⟨⟨by decide +kernel, by decide +kernel⟩, List.mem_of_getElem? (i := 14) (by decide +kernel), List.mem_of_getElem? (i := 310) (by decide +kernel), List.mem_of_getElem? (i := 311) (by decide +kernel)⟩
theorem lw_p5 : lw_okq (⟨"DeckBalance$Plan", "draw", "(LDeckBalance$Deck;I)V"⟩, 6) := ⟨⟨by decide +kernel, by decide +kernel⟩, List.mem_of_getElem? (i := 145) (by decide +kernel), List.mem_of_getElem? (i := 318) (by decide +kernel), List.mem_of_getElem? (i := 319) (by decide +kernel)⟩
theorem lw_p6 : lw_okq (⟨"DeckBalance$Plan", "playHand", "(LDeckBalance$CardBook;I)V"⟩, 6) := ⟨⟨by decide +kernel, by decide +kernel⟩, List.mem_of_getElem? (i := 145) (by decide +kernel), List.mem_of_getElem? (i := 325) (by decide +kernel), List.mem_of_getElem? (i := 326) (by decide +kernel)⟩
theorem lw_p7 : lw_okq (⟨"DeckBalance$Plan", "nextPlace", "(LDeckBalance$CardBook;I)I"⟩, 6) := ⟨⟨by decide +kernel, by decide +kernel⟩, List.mem_of_getElem? (i := 145) (by decide +kernel), List.mem_of_getElem? (i := 329) (by decide +kernel), List.mem_of_getElem? (i := 330) (by decide +kernel)⟩
theorem lw_p8 : lw_okq (⟨"DeckBalance$Plan", "putDown", "(I)V"⟩, 6) := ⟨⟨by decide +kernel, by decide +kernel⟩, List.mem_of_getElem? (i := 145) (by decide +kernel), List.mem_of_getElem? (i := 337) (by decide +kernel), List.mem_of_getElem? (i := 338) (by decide +kernel)⟩
theorem lw_p9 : lw_okq (⟨"DeckBalance", "tableOf", "(LDeckBalance$Plan;LDeckBalance$Plan;)I"⟩, 12) := ⟨⟨by decide +kernel, by decide +kernel⟩, List.mem_of_getElem? (i := 14) (by decide +kernel), List.mem_of_getElem? (i := 341) (by decide +kernel), List.mem_of_getElem? (i := 342) (by decide +kernel)⟩
theorem lw_p10 : lw_okq (⟨"DeckBalance$Side", "put", "(LDeckBalance$Side;ILDeckBalance$CardBook;)V"⟩, 4) := ⟨⟨by decide +kernel, by decide +kernel⟩, List.mem_of_getElem? (i := 71) (by decide +kernel), List.mem_of_getElem? (i := 360) (by decide +kernel), List.mem_of_getElem? (i := 361) (by decide +kernel)⟩
theorem lw_p11 : lw_okq (⟨"DeckBalance$Rings", "findThird", "([[IIII)V"⟩, 2) := ⟨⟨by decide +kernel, by decide +kernel⟩, List.mem_of_getElem? (i := 185) (by decide +kernel), List.mem_of_getElem? (i := 375) (by decide +kernel), List.mem_of_getElem? (i := 376) (by decide +kernel)⟩
theorem lw_p12 : lw_okq (⟨"DeckBalance", "learnMix", "()V"⟩, 12) := ⟨⟨by decide +kernel, by decide +kernel⟩, List.mem_of_getElem? (i := 14) (by decide +kernel), List.mem_of_getElem? (i := 401) (by decide +kernel), List.mem_of_getElem? (i := 402) (by decide +kernel)⟩
theorem lw_p13 : lw_okq (⟨"DeckBalance$Mix", "findMinors", "([[I)V"⟩, 6) := ⟨⟨by decide +kernel, by decide +kernel⟩, List.mem_of_getElem? (i := 119) (by decide +kernel), List.mem_of_getElem? (i := 409) (by decide +kernel), List.mem_of_getElem? (i := 410) (by decide +kernel)⟩
theorem lw_p14 : lw_okq (⟨"DeckBalance$Mix", "minorOf", "([[III)I"⟩, 6) := ⟨⟨by decide +kernel, by decide +kernel⟩, List.mem_of_getElem? (i := 119) (by decide +kernel), List.mem_of_getElem? (i := 419) (by decide +kernel), List.mem_of_getElem? (i := 420) (by decide +kernel)⟩
theorem lw_p15 : lw_okq (⟨"DeckBalance$Mix", "leastOf", "(I)I"⟩, 6) := ⟨⟨by decide +kernel, by decide +kernel⟩, List.mem_of_getElem? (i := 119) (by decide +kernel), List.mem_of_getElem? (i := 423) (by decide +kernel), List.mem_of_getElem? (i := 424) (by decide +kernel)⟩
def lw_privs_1 : List (MethodName × Nat) := [(⟨"DeckBalance", "isNoCard", "(I)Z"⟩, 12), (⟨"DeckBalance", "forgetTables", "()V"⟩, 12), (⟨"DeckBalance", "isNoDeck", "(I)Z"⟩, 12), (⟨"DeckBalance", "isNoPlace", "(II)Z"⟩, 12), (⟨"DeckBalance", "learnTables", "()V"⟩, 12), (⟨"DeckBalance$Plan", "draw", "(LDeckBalance$Deck;I)V"⟩, 6), (⟨"DeckBalance$Plan", "playHand", "(LDeckBalance$CardBook;I)V"⟩, 6), (⟨"DeckBalance$Plan", "nextPlace", "(LDeckBalance$CardBook;I)I"⟩, 6), (⟨"DeckBalance$Plan", "putDown", "(I)V"⟩, 6), (⟨"DeckBalance", "tableOf", "(LDeckBalance$Plan;LDeckBalance$Plan;)I"⟩, 12), (⟨"DeckBalance$Side", "put", "(LDeckBalance$Side;ILDeckBalance$CardBook;)V"⟩, 4), (⟨"DeckBalance$Rings", "findThird", "([[IIII)V"⟩, 2), (⟨"DeckBalance", "learnMix", "()V"⟩, 12), (⟨"DeckBalance$Mix", "findMinors", "([[I)V"⟩, 6), (⟨"DeckBalance$Mix", "minorOf", "([[III)I"⟩, 6), (⟨"DeckBalance$Mix", "leastOf", "(I)I"⟩, 6)]
theorem lw_r1 : ∀ q ∈ lw_privs_1, lw_okq q := List.forall_mem_cons.mpr ⟨lw_p0, List.forall_mem_cons.mpr ⟨lw_p1, List.forall_mem_cons.mpr ⟨lw_p2, List.forall_mem_cons.mpr ⟨lw_p3, List.forall_mem_cons.mpr ⟨lw_p4, List.forall_mem_cons.mpr ⟨lw_p5, List.forall_mem_cons.mpr ⟨lw_p6, List.forall_mem_cons.mpr ⟨lw_p7, List.forall_mem_cons.mpr ⟨lw_p8, List.forall_mem_cons.mpr ⟨lw_p9, List.forall_mem_cons.mpr ⟨lw_p10, List.forall_mem_cons.mpr ⟨lw_p11, List.forall_mem_cons.mpr ⟨lw_p12, List.forall_mem_cons.mpr ⟨lw_p13, List.forall_mem_cons.mpr ⟨lw_p14, List.forall_mem_cons.mpr ⟨lw_p15, fun _ h => absurd h List.not_mem_nil⟩⟩⟩⟩⟩⟩⟩⟩⟩⟩⟩⟩⟩⟩⟩⟩
theorem lw_p16 : lw_okq (⟨"DeckBalance$Mix", "tryCorner", "(II)Z"⟩, 6) := ⟨⟨by decide +kernel, by decide +kernel⟩, List.mem_of_getElem? (i := 119) (by decide +kernel), List.mem_of_getElem? (i := 430) (by decide +kernel), List.mem_of_getElem? (i := 431) (by decide +kernel)⟩
theorem lw_p17 : lw_okq (⟨"DeckBalance$Mix", "turnSigns", "()V"⟩, 6) := ⟨⟨by decide +kernel, by decide +kernel⟩, List.mem_of_getElem? (i := 119) (by decide +kernel), List.mem_of_getElem? (i := 434) (by decide +kernel), List.mem_of_getElem? (i := 435) (by decide +kernel)⟩
theorem lw_p18 : lw_okq (⟨"DeckBalance$Mix", "isHolding", "([[I)Z"⟩, 6) := ⟨⟨by decide +kernel, by decide +kernel⟩, List.mem_of_getElem? (i := 119) (by decide +kernel), List.mem_of_getElem? (i := 438) (by decide +kernel), List.mem_of_getElem? (i := 439) (by decide +kernel)⟩
theorem lw_p19 : lw_okq (⟨"DeckBalance$Mix", "isGreater", "()Z"⟩, 6) := ⟨⟨by decide +kernel, by decide +kernel⟩, List.mem_of_getElem? (i := 119) (by decide +kernel), List.mem_of_getElem? (i := 442) (by decide +kernel), List.mem_of_getElem? (i := 443) (by decide +kernel)⟩
theorem lw_p20 : lw_okq (⟨"DeckBalance$Mix", "takeTried", "()V"⟩, 6) := ⟨⟨by decide +kernel, by decide +kernel⟩, List.mem_of_getElem? (i := 119) (by decide +kernel), List.mem_of_getElem? (i := 446) (by decide +kernel), List.mem_of_getElem? (i := 447) (by decide +kernel)⟩
theorem lw_p21 : lw_okq (⟨"DeckBalance", "sumOf", "([I)I"⟩, 12) := ⟨⟨by decide +kernel, by decide +kernel⟩, List.mem_of_getElem? (i := 14) (by decide +kernel), List.mem_of_getElem? (i := 461) (by decide +kernel), List.mem_of_getElem? (i := 462) (by decide +kernel)⟩
theorem lw_p22 : lw_okq (⟨"DeckBalance", "learnTablesWithout", "(II)V"⟩, 12) := ⟨⟨by decide +kernel, by decide +kernel⟩, List.mem_of_getElem? (i := 14) (by decide +kernel), List.mem_of_getElem? (i := 473) (by decide +kernel), List.mem_of_getElem? (i := 474) (by decide +kernel)⟩
theorem lw_p23 : lw_okq (⟨"DeckBalance", "isMixWithin", "(IIII)Z"⟩, 12) := ⟨⟨by decide +kernel, by decide +kernel⟩, List.mem_of_getElem? (i := 14) (by decide +kernel), List.mem_of_getElem? (i := 485) (by decide +kernel), List.mem_of_getElem? (i := 486) (by decide +kernel)⟩
theorem lw_p24 : lw_okq (⟨"DeckBalance", "learnTrialTables", "(I)V"⟩, 12) := ⟨⟨by decide +kernel, by decide +kernel⟩, List.mem_of_getElem? (i := 14) (by decide +kernel), List.mem_of_getElem? (i := 489) (by decide +kernel), List.mem_of_getElem? (i := 490) (by decide +kernel)⟩
theorem lw_p25 : lw_okq (⟨"DeckBalance", "hasCard", "(II)Z"⟩, 12) := ⟨⟨by decide +kernel, by decide +kernel⟩, List.mem_of_getElem? (i := 14) (by decide +kernel), List.mem_of_getElem? (i := 493) (by decide +kernel), List.mem_of_getElem? (i := 494) (by decide +kernel)⟩
theorem lw_p26 : lw_okq (⟨"DeckBalance", "trialPlan", "(II)LDeckBalance$Plan;"⟩, 12) := ⟨⟨by decide +kernel, by decide +kernel⟩, List.mem_of_getElem? (i := 14) (by decide +kernel), List.mem_of_getElem? (i := 497) (by decide +kernel), List.mem_of_getElem? (i := 498) (by decide +kernel)⟩
theorem lw_p27 : lw_okq (⟨"DeckBalance", "cardsInDecks", "()I"⟩, 12) := ⟨⟨by decide +kernel, by decide +kernel⟩, List.mem_of_getElem? (i := 14) (by decide +kernel), List.mem_of_getElem? (i := 513) (by decide +kernel), List.mem_of_getElem? (i := 514) (by decide +kernel)⟩
theorem lw_p28 : lw_okq (⟨"DeckBalanceModel", "isCard", "(I)Z"⟩, 26) := ⟨⟨by decide +kernel, by decide +kernel⟩, List.mem_of_getElem? (i := 517) (by decide +kernel), List.mem_of_getElem? (i := 614) (by decide +kernel), List.mem_of_getElem? (i := 615) (by decide +kernel)⟩
theorem lw_p29 : lw_okq (⟨"DeckBalanceModel", "isDeck", "(I)Z"⟩, 26) := ⟨⟨by decide +kernel, by decide +kernel⟩, List.mem_of_getElem? (i := 517) (by decide +kernel), List.mem_of_getElem? (i := 626) (by decide +kernel), List.mem_of_getElem? (i := 627) (by decide +kernel)⟩
theorem lw_p30 : lw_okq (⟨"DeckBalanceModel", "isPlace", "(II)Z"⟩, 26) := ⟨⟨by decide +kernel, by decide +kernel⟩, List.mem_of_getElem? (i := 517) (by decide +kernel), List.mem_of_getElem? (i := 634) (by decide +kernel), List.mem_of_getElem? (i := 635) (by decide +kernel)⟩
theorem lw_p31 : lw_okq (⟨"DeckBalanceModel", "dropAt", "(II)V"⟩, 26) := ⟨⟨by decide +kernel, by decide +kernel⟩, List.mem_of_getElem? (i := 517) (by decide +kernel), List.mem_of_getElem? (i := 638) (by decide +kernel), List.mem_of_getElem? (i := 639) (by decide +kernel)⟩
def lw_privs_2 : List (MethodName × Nat) := [(⟨"DeckBalance$Mix", "tryCorner", "(II)Z"⟩, 6), (⟨"DeckBalance$Mix", "turnSigns", "()V"⟩, 6), (⟨"DeckBalance$Mix", "isHolding", "([[I)Z"⟩, 6), (⟨"DeckBalance$Mix", "isGreater", "()Z"⟩, 6), (⟨"DeckBalance$Mix", "takeTried", "()V"⟩, 6), (⟨"DeckBalance", "sumOf", "([I)I"⟩, 12), (⟨"DeckBalance", "learnTablesWithout", "(II)V"⟩, 12), (⟨"DeckBalance", "isMixWithin", "(IIII)Z"⟩, 12), (⟨"DeckBalance", "learnTrialTables", "(I)V"⟩, 12), (⟨"DeckBalance", "hasCard", "(II)Z"⟩, 12), (⟨"DeckBalance", "trialPlan", "(II)LDeckBalance$Plan;"⟩, 12), (⟨"DeckBalance", "cardsInDecks", "()I"⟩, 12), (⟨"DeckBalanceModel", "isCard", "(I)Z"⟩, 26), (⟨"DeckBalanceModel", "isDeck", "(I)Z"⟩, 26), (⟨"DeckBalanceModel", "isPlace", "(II)Z"⟩, 26), (⟨"DeckBalanceModel", "dropAt", "(II)V"⟩, 26)]
theorem lw_r2 : ∀ q ∈ lw_privs_2, lw_okq q := List.forall_mem_cons.mpr ⟨lw_p16, List.forall_mem_cons.mpr ⟨lw_p17, List.forall_mem_cons.mpr ⟨lw_p18, List.forall_mem_cons.mpr ⟨lw_p19, List.forall_mem_cons.mpr ⟨lw_p20, List.forall_mem_cons.mpr ⟨lw_p21, List.forall_mem_cons.mpr ⟨lw_p22, List.forall_mem_cons.mpr ⟨lw_p23, List.forall_mem_cons.mpr ⟨lw_p24, List.forall_mem_cons.mpr ⟨lw_p25, List.forall_mem_cons.mpr ⟨lw_p26, List.forall_mem_cons.mpr ⟨lw_p27, List.forall_mem_cons.mpr ⟨lw_p28, List.forall_mem_cons.mpr ⟨lw_p29, List.forall_mem_cons.mpr ⟨lw_p30, List.forall_mem_cons.mpr ⟨lw_p31, fun _ h => absurd h List.not_mem_nil⟩⟩⟩⟩⟩⟩⟩⟩⟩⟩⟩⟩⟩⟩⟩⟩
theorem lw_p32 : lw_okq (⟨"DeckBalanceModel", "result", "(II)I"⟩, 26) := ⟨⟨by decide +kernel, by decide +kernel⟩, List.mem_of_getElem? (i := 517) (by decide +kernel), List.mem_of_getElem? (i := 658) (by decide +kernel), List.mem_of_getElem? (i := 659) (by decide +kernel)⟩
theorem lw_p33 : lw_okq (⟨"DeckBalanceModel", "game", "(II)V"⟩, 26) := ⟨⟨by decide +kernel, by decide +kernel⟩, List.mem_of_getElem? (i := 517) (by decide +kernel), List.mem_of_getElem? (i := 662) (by decide +kernel), List.mem_of_getElem? (i := 663) (by decide +kernel)⟩
theorem lw_p34 : lw_okq (⟨"DeckBalanceModel", "isOver", "()Z"⟩, 26) := ⟨⟨by decide +kernel, by decide +kernel⟩, List.mem_of_getElem? (i := 517) (by decide +kernel), List.mem_of_getElem? (i := 666) (by decide +kernel), List.mem_of_getElem? (i := 667) (by decide +kernel)⟩
theorem lw_p35 : lw_okq (⟨"DeckBalanceModel", "move", "(I)V"⟩, 26) := ⟨⟨by decide +kernel, by decide +kernel⟩, List.mem_of_getElem? (i := 517) (by decide +kernel), List.mem_of_getElem? (i := 670) (by decide +kernel), List.mem_of_getElem? (i := 671) (by decide +kernel)⟩
theorem lw_p36 : lw_okq (⟨"DeckBalanceModel", "nextCard", "(II)I"⟩, 26) := ⟨⟨by decide +kernel, by decide +kernel⟩, List.mem_of_getElem? (i := 517) (by decide +kernel), List.mem_of_getElem? (i := 674) (by decide +kernel), List.mem_of_getElem? (i := 675) (by decide +kernel)⟩
theorem lw_p37 : lw_okq (⟨"DeckBalanceModel", "playCard", "(II)V"⟩, 26) := ⟨⟨by decide +kernel, by decide +kernel⟩, List.mem_of_getElem? (i := 517) (by decide +kernel), List.mem_of_getElem? (i := 678) (by decide +kernel), List.mem_of_getElem? (i := 679) (by decide +kernel)⟩
theorem lw_p38 : lw_okq (⟨"DeckBalanceModel", "tableOf", "(II)I"⟩, 26) := ⟨⟨by decide +kernel, by decide +kernel⟩, List.mem_of_getElem? (i := 517) (by decide +kernel), List.mem_of_getElem? (i := 691) (by decide +kernel), List.mem_of_getElem? (i := 692) (by decide +kernel)⟩
theorem lw_p39 : lw_okq (⟨"DeckBalanceModel", "findRings", "(I)I"⟩, 26) := ⟨⟨by decide +kernel, by decide +kernel⟩, List.mem_of_getElem? (i := 517) (by decide +kernel), List.mem_of_getElem? (i := 699) (by decide +kernel), List.mem_of_getElem? (i := 700) (by decide +kernel)⟩
theorem lw_p40 : lw_okq (⟨"DeckBalanceModel", "layTables", "()V"⟩, 26) := ⟨⟨by decide +kernel, by decide +kernel⟩, List.mem_of_getElem? (i := 517) (by decide +kernel), List.mem_of_getElem? (i := 703) (by decide +kernel), List.mem_of_getElem? (i := 704) (by decide +kernel)⟩
theorem lw_p41 : lw_okq (⟨"DeckBalanceModel", "beats", "(II)Z"⟩, 26) := ⟨⟨by decide +kernel, by decide +kernel⟩, List.mem_of_getElem? (i := 517) (by decide +kernel), List.mem_of_getElem? (i := 707) (by decide +kernel), List.mem_of_getElem? (i := 708) (by decide +kernel)⟩
theorem lw_p42 : lw_okq (⟨"DeckBalanceModel", "findMix", "()V"⟩, 26) := ⟨⟨by decide +kernel, by decide +kernel⟩, List.mem_of_getElem? (i := 517) (by decide +kernel), List.mem_of_getElem? (i := 720) (by decide +kernel), List.mem_of_getElem? (i := 721) (by decide +kernel)⟩
theorem lw_p43 : lw_okq (⟨"DeckBalanceModel", "layBounds", "(I)V"⟩, 26) := ⟨⟨by decide +kernel, by decide +kernel⟩, List.mem_of_getElem? (i := 517) (by decide +kernel), List.mem_of_getElem? (i := 728) (by decide +kernel), List.mem_of_getElem? (i := 729) (by decide +kernel)⟩
theorem lw_p44 : lw_okq (⟨"DeckBalanceModel", "solve", "()Z"⟩, 26) := ⟨⟨by decide +kernel, by decide +kernel⟩, List.mem_of_getElem? (i := 517) (by decide +kernel), List.mem_of_getElem? (i := 732) (by decide +kernel), List.mem_of_getElem? (i := 733) (by decide +kernel)⟩
theorem lw_p45 : lw_okq (⟨"DeckBalanceModel", "changeRows", "(II)V"⟩, 26) := ⟨⟨by decide +kernel, by decide +kernel⟩, List.mem_of_getElem? (i := 517) (by decide +kernel), List.mem_of_getElem? (i := 736) (by decide +kernel), List.mem_of_getElem? (i := 737) (by decide +kernel)⟩
theorem lw_p46 : lw_okq (⟨"DeckBalanceModel", "clearRow", "(III)V"⟩, 26) := ⟨⟨by decide +kernel, by decide +kernel⟩, List.mem_of_getElem? (i := 517) (by decide +kernel), List.mem_of_getElem? (i := 740) (by decide +kernel), List.mem_of_getElem? (i := 741) (by decide +kernel)⟩
theorem lw_p47 : lw_okq (⟨"DeckBalanceModel", "holds", "()Z"⟩, 26) := ⟨⟨by decide +kernel, by decide +kernel⟩, List.mem_of_getElem? (i := 517) (by decide +kernel), List.mem_of_getElem? (i := 747) (by decide +kernel), List.mem_of_getElem? (i := 748) (by decide +kernel)⟩
def lw_privs_3 : List (MethodName × Nat) := [(⟨"DeckBalanceModel", "result", "(II)I"⟩, 26), (⟨"DeckBalanceModel", "game", "(II)V"⟩, 26), (⟨"DeckBalanceModel", "isOver", "()Z"⟩, 26), (⟨"DeckBalanceModel", "move", "(I)V"⟩, 26), (⟨"DeckBalanceModel", "nextCard", "(II)I"⟩, 26), (⟨"DeckBalanceModel", "playCard", "(II)V"⟩, 26), (⟨"DeckBalanceModel", "tableOf", "(II)I"⟩, 26), (⟨"DeckBalanceModel", "findRings", "(I)I"⟩, 26), (⟨"DeckBalanceModel", "layTables", "()V"⟩, 26), (⟨"DeckBalanceModel", "beats", "(II)Z"⟩, 26), (⟨"DeckBalanceModel", "findMix", "()V"⟩, 26), (⟨"DeckBalanceModel", "layBounds", "(I)V"⟩, 26), (⟨"DeckBalanceModel", "solve", "()Z"⟩, 26), (⟨"DeckBalanceModel", "changeRows", "(II)V"⟩, 26), (⟨"DeckBalanceModel", "clearRow", "(III)V"⟩, 26), (⟨"DeckBalanceModel", "holds", "()Z"⟩, 26)]
theorem lw_r3 : ∀ q ∈ lw_privs_3, lw_okq q := List.forall_mem_cons.mpr ⟨lw_p32, List.forall_mem_cons.mpr ⟨lw_p33, List.forall_mem_cons.mpr ⟨lw_p34, List.forall_mem_cons.mpr ⟨lw_p35, List.forall_mem_cons.mpr ⟨lw_p36, List.forall_mem_cons.mpr ⟨lw_p37, List.forall_mem_cons.mpr ⟨lw_p38, List.forall_mem_cons.mpr ⟨lw_p39, List.forall_mem_cons.mpr ⟨lw_p40, List.forall_mem_cons.mpr ⟨lw_p41, List.forall_mem_cons.mpr ⟨lw_p42, List.forall_mem_cons.mpr ⟨lw_p43, List.forall_mem_cons.mpr ⟨lw_p44, List.forall_mem_cons.mpr ⟨lw_p45, List.forall_mem_cons.mpr ⟨lw_p46, List.forall_mem_cons.mpr ⟨lw_p47, fun _ h => absurd h List.not_mem_nil⟩⟩⟩⟩⟩⟩⟩⟩⟩⟩⟩⟩⟩⟩⟩⟩
theorem lw_p48 : lw_okq (⟨"DeckBalanceModel", "isGreater", "()Z"⟩, 26) := ⟨⟨by decide +kernel, by decide +kernel⟩, List.mem_of_getElem? (i := 517) (by decide +kernel), List.mem_of_getElem? (i := 751) (by decide +kernel), List.mem_of_getElem? (i := 752) (by decide +kernel)⟩
theorem lw_p49 : lw_okq (⟨"DeckBalanceModel", "standingOf", "(I)I"⟩, 26) := ⟨⟨by decide +kernel, by decide +kernel⟩, List.mem_of_getElem? (i := 517) (by decide +kernel), List.mem_of_getElem? (i := 763) (by decide +kernel), List.mem_of_getElem? (i := 764) (by decide +kernel)⟩
theorem lw_p50 : lw_okq (⟨"DeckBalanceModel", "placeOf", "(II)I"⟩, 26) := ⟨⟨by decide +kernel, by decide +kernel⟩, List.mem_of_getElem? (i := 517) (by decide +kernel), List.mem_of_getElem? (i := 771) (by decide +kernel), List.mem_of_getElem? (i := 772) (by decide +kernel)⟩
theorem lw_p51 : lw_okq (⟨"DeckBalanceModel", "putBack", "(III)V"⟩, 26) := ⟨⟨by decide +kernel, by decide +kernel⟩, List.mem_of_getElem? (i := 517) (by decide +kernel), List.mem_of_getElem? (i := 775) (by decide +kernel), List.mem_of_getElem? (i := 776) (by decide +kernel)⟩
theorem lw_p52 : lw_okq (⟨"DeckBalanceModel", "isRemedied", "(II)Z"⟩, 26) := ⟨⟨by decide +kernel, by decide +kernel⟩, List.mem_of_getElem? (i := 517) (by decide +kernel), List.mem_of_getElem? (i := 787) (by decide +kernel), List.mem_of_getElem? (i := 788) (by decide +kernel)⟩
def lw_privs_4 : List (MethodName × Nat) := [(⟨"DeckBalanceModel", "isGreater", "()Z"⟩, 26), (⟨"DeckBalanceModel", "standingOf", "(I)I"⟩, 26), (⟨"DeckBalanceModel", "placeOf", "(II)I"⟩, 26), (⟨"DeckBalanceModel", "putBack", "(III)V"⟩, 26), (⟨"DeckBalanceModel", "isRemedied", "(II)Z"⟩, 26)]
theorem lw_r4 : ∀ q ∈ lw_privs_4, lw_okq q := List.forall_mem_cons.mpr ⟨lw_p48, List.forall_mem_cons.mpr ⟨lw_p49, List.forall_mem_cons.mpr ⟨lw_p50, List.forall_mem_cons.mpr ⟨lw_p51, List.forall_mem_cons.mpr ⟨lw_p52, fun _ h => absurd h List.not_mem_nil⟩⟩⟩⟩⟩
def lw_privs : List (MethodName × Nat) := lw_privs_1 ++ (lw_privs_2 ++ (lw_privs_3 ++ (lw_privs_4)))
def lw_tbl : List Cond := k2_sels lw_privs ++ tables_1
theorem lw_privs_ok : ∀ q ∈ lw_privs, lw_okq q := by
  show ∀ q ∈ lw_privs_1 ++ (lw_privs_2 ++ (lw_privs_3 ++ (lw_privs_4))), lw_okq q
  exact List.forall_mem_append.mpr ⟨lw_r1, List.forall_mem_append.mpr ⟨lw_r2, List.forall_mem_append.mpr ⟨lw_r3, lw_r4⟩⟩⟩
-- ===== end of PART A; then your names; then what follows =====
end
section
/-! ===== BEGIN printed: names, fields, word lists, decode rows ===== -/
def RX0 : String := "DeckBalance$CardBook"
def TX0 : u_T := fun k => match k with
  | 0 => ("DeckBalance$CardBook", "sorts", "[I", true)
  | 1 => ("DeckBalance$CardBook", "costs", "[I", true)
  | 2 => ("DeckBalance$CardBook", "powers", "[I", true)
  | _ => ("DeckBalance$CardBook", "size", "I", false)
def tyX0 : Nat → FieldType := fun k => match k with
  | 0 => .array .int
  | 1 => .array .int
  | 2 => .array .int
  | _ => .int
abbrev wsX00 : List Cond := u_ws RX0 TX0 4
theorem nmX0 : ∀ a, a < 4 → ∀ b, b < 4 → a ≠ b → (TX0 a).2.1 ≠ (TX0 b).2.1 := by decide +kernel
theorem tyX0_ok : ∀ k, k < 4 → parseFieldDescriptor (TX0 k).2.2.1 = some (tyX0 k) := by decide +kernel
abbrev cX0_init : ByteArray := prog_2_method_1_code
def yX0_init : MethodName := ⟨RX0, "<init>", "()V"⟩
abbrev cX0_enter : ByteArray := prog_2_method_2_code
def yX0_enter : MethodName := ⟨RX0, "enter", "(III)I"⟩
abbrev cX0_isPlayedAhead : ByteArray := prog_2_method_3_code
def yX0_isPlayedAhead : MethodName := ⟨RX0, "isPlayedAhead", "(II)Z"⟩
def RX1 : String := "DeckBalance$Contest"
def TX1 : u_T := fun k => match k with
  | 0 => ("DeckBalance$Contest", "plans", "[LDeckBalance$Plan;", true)
  | 1 => ("DeckBalance$Contest", "tables", "[[I", true)
  | _ => ("DeckBalance$Contest", "mix", "LDeckBalance$Mix;", true)
def tyX1 : Nat → FieldType := fun k => match k with
  | 0 => .array (.object "DeckBalance$Plan")
  | 1 => .array (.array .int)
  | _ => .object "DeckBalance$Mix"
abbrev wsX10 : List Cond := u_ws RX1 TX1 3
theorem nmX1 : ∀ a, a < 3 → ∀ b, b < 3 → a ≠ b → (TX1 a).2.1 ≠ (TX1 b).2.1 := by decide +kernel
theorem tyX1_ok : ∀ k, k < 3 → parseFieldDescriptor (TX1 k).2.2.1 = some (tyX1 k) := by decide +kernel
abbrev cX1_init : ByteArray := prog_3_method_1_code
def yX1_init : MethodName := ⟨RX1, "<init>", "()V"⟩
abbrev cX1_enter : ByteArray := prog_3_method_2_code
def yX1_enter : MethodName := ⟨RX1, "enter", "(III)V"⟩
abbrev cX1_hasTablesOf : ByteArray := prog_3_method_3_code
def yX1_hasTablesOf : MethodName := ⟨RX1, "hasTablesOf", "(LDeckBalance$Contest;I)Z"⟩
def RX2 : String := "DeckBalance$Deck"
def TX2 : u_T := fun k => match k with
  | 0 => ("DeckBalance$Deck", "cards", "[I", true)
  | _ => ("DeckBalance$Deck", "size", "I", false)
def tyX2 : Nat → FieldType := fun k => match k with
  | 0 => .array .int
  | _ => .int
abbrev wsX20 : List Cond := u_ws RX2 TX2 2
theorem nmX2 : ∀ a, a < 2 → ∀ b, b < 2 → a ≠ b → (TX2 a).2.1 ≠ (TX2 b).2.1 := by decide +kernel
theorem tyX2_ok : ∀ k, k < 2 → parseFieldDescriptor (TX2 k).2.2.1 = some (tyX2 k) := by decide +kernel
abbrev cX2_init : ByteArray := prog_4_method_1_code
def yX2_init : MethodName := ⟨RX2, "<init>", "()V"⟩
abbrev cX2_append : ByteArray := prog_4_method_2_code
def yX2_append : MethodName := ⟨RX2, "append", "(I)I"⟩
abbrev cX2_takeOut : ByteArray := prog_4_method_3_code
def yX2_takeOut : MethodName := ⟨RX2, "takeOut", "(I)I"⟩
abbrev cX2_exchange : ByteArray := prog_4_method_4_code
def yX2_exchange : MethodName := ⟨RX2, "exchange", "(II)V"⟩
abbrev cX2_firstPlaceOf : ByteArray := prog_4_method_5_code
def yX2_firstPlaceOf : MethodName := ⟨RX2, "firstPlaceOf", "(I)I"⟩
def RX3 : String := "DeckBalance$Game"
def TX3 : u_T := fun k => match k with
  | 0 => ("DeckBalance$Game", "first", "LDeckBalance$Side;", true)
  | 1 => ("DeckBalance$Game", "second", "LDeckBalance$Side;", true)
  | 2 => ("DeckBalance$Game", "turn", "I", false)
  | _ => ("DeckBalance$Game", "book", "LDeckBalance$CardBook;", true)
def tyX3 : Nat → FieldType := fun k => match k with
  | 0 => .object "DeckBalance$Side"
  | 1 => .object "DeckBalance$Side"
  | 2 => .int
  | _ => .object "DeckBalance$CardBook"
abbrev wsX30 : List Cond := u_ws RX3 TX3 4
theorem nmX3 : ∀ a, a < 4 → ∀ b, b < 4 → a ≠ b → (TX3 a).2.1 ≠ (TX3 b).2.1 := by decide +kernel
theorem tyX3_ok : ∀ k, k < 4 → parseFieldDescriptor (TX3 k).2.2.1 = some (tyX3 k) := by decide +kernel
abbrev cX3_init : ByteArray := prog_5_method_1_code
def yX3_init : MethodName := ⟨RX3, "<init>", "(LDeckBalance$CardBook;)V"⟩
abbrev cX3_resultOf : ByteArray := prog_5_method_2_code
def yX3_resultOf : MethodName := ⟨RX3, "resultOf", "(LDeckBalance$Plan;LDeckBalance$Plan;I)I"⟩
def RX4 : String := "DeckBalance$Mix"
def TX4 : u_T := fun k => match k with
  | 0 => ("DeckBalance$Mix", "parts", "[I", true)
  | 1 => ("DeckBalance$Mix", "whole", "I", false)
  | 2 => ("DeckBalance$Mix", "tried", "[I", true)
  | 3 => ("DeckBalance$Mix", "triedWhole", "I", false)
  | 4 => ("DeckBalance$Mix", "minors", "[I", true)
  | _ => ("DeckBalance$Mix", "size", "I", false)
def tyX4 : Nat → FieldType := fun k => match k with
  | 0 => .array .int
  | 1 => .int
  | 2 => .array .int
  | 3 => .int
  | 4 => .array .int
  | _ => .int
abbrev wsX40 : List Cond := u_ws RX4 TX4 6
theorem nmX4 : ∀ a, a < 6 → ∀ b, b < 6 → a ≠ b → (TX4 a).2.1 ≠ (TX4 b).2.1 := by decide +kernel
theorem tyX4_ok : ∀ k, k < 6 → parseFieldDescriptor (TX4 k).2.2.1 = some (tyX4 k) := by decide +kernel
abbrev cX4_init : ByteArray := prog_6_method_1_code
def yX4_init : MethodName := ⟨RX4, "<init>", "()V"⟩
abbrev cX4_find : ByteArray := prog_6_method_2_code
def yX4_find : MethodName := ⟨RX4, "find", "([[II)V"⟩
abbrev cX4_isWithin : ByteArray := prog_6_method_3_code
def yX4_isWithin : MethodName := ⟨RX4, "isWithin", "(II)Z"⟩
abbrev cX4_findMinors : ByteArray := prog_6_method_4_code
def yX4_findMinors : MethodName := ⟨RX4, "findMinors", "([[I)V"⟩
abbrev cX4_minorOf : ByteArray := prog_6_method_5_code
def yX4_minorOf : MethodName := ⟨RX4, "minorOf", "([[III)I"⟩
abbrev cX4_leastOf : ByteArray := prog_6_method_6_code
def yX4_leastOf : MethodName := ⟨RX4, "leastOf", "(I)I"⟩
abbrev cX4_isIn : ByteArray := prog_6_method_7_code
def yX4_isIn : MethodName := ⟨RX4, "isIn", "(II)Z"⟩
abbrev cX4_tryCorner : ByteArray := prog_6_method_8_code
def yX4_tryCorner : MethodName := ⟨RX4, "tryCorner", "(II)Z"⟩
abbrev cX4_turnSigns : ByteArray := prog_6_method_9_code
def yX4_turnSigns : MethodName := ⟨RX4, "turnSigns", "()V"⟩
abbrev cX4_isHolding : ByteArray := prog_6_method_10_code
def yX4_isHolding : MethodName := ⟨RX4, "isHolding", "([[I)Z"⟩
abbrev cX4_isGreater : ByteArray := prog_6_method_11_code
def yX4_isGreater : MethodName := ⟨RX4, "isGreater", "()Z"⟩
abbrev cX4_takeTried : ByteArray := prog_6_method_12_code
def yX4_takeTried : MethodName := ⟨RX4, "takeTried", "()V"⟩
def RX5 : String := "DeckBalance$Plan"
def TX5 : u_T := fun k => match k with
  | 0 => ("DeckBalance$Plan", "order", "[I", true)
  | 1 => ("DeckBalance$Plan", "ends", "[I", true)
  | 2 => ("DeckBalance$Plan", "hand", "[I", true)
  | 3 => ("DeckBalance$Plan", "handSize", "I", false)
  | 4 => ("DeckBalance$Plan", "drawn", "I", false)
  | _ => ("DeckBalance$Plan", "played", "I", false)
def tyX5 : Nat → FieldType := fun k => match k with
  | 0 => .array .int
  | 1 => .array .int
  | 2 => .array .int
  | 3 => .int
  | 4 => .int
  | _ => .int
abbrev wsX50 : List Cond := u_ws RX5 TX5 6
theorem nmX5 : ∀ a, a < 6 → ∀ b, b < 6 → a ≠ b → (TX5 a).2.1 ≠ (TX5 b).2.1 := by decide +kernel
theorem tyX5_ok : ∀ k, k < 6 → parseFieldDescriptor (TX5 k).2.2.1 = some (tyX5 k) := by decide +kernel
abbrev cX5_init : ByteArray := prog_7_method_1_code
def yX5_init : MethodName := ⟨RX5, "<init>", "()V"⟩
abbrev cX5_lay : ByteArray := prog_7_method_2_code
def yX5_lay : MethodName := ⟨RX5, "lay", "(LDeckBalance$CardBook;LDeckBalance$Deck;I)V"⟩
abbrev cX5_draw : ByteArray := prog_7_method_3_code
def yX5_draw : MethodName := ⟨RX5, "draw", "(LDeckBalance$Deck;I)V"⟩
abbrev cX5_playHand : ByteArray := prog_7_method_4_code
def yX5_playHand : MethodName := ⟨RX5, "playHand", "(LDeckBalance$CardBook;I)V"⟩
abbrev cX5_nextPlace : ByteArray := prog_7_method_5_code
def yX5_nextPlace : MethodName := ⟨RX5, "nextPlace", "(LDeckBalance$CardBook;I)I"⟩
abbrev cX5_putDown : ByteArray := prog_7_method_6_code
def yX5_putDown : MethodName := ⟨RX5, "putDown", "(I)V"⟩
def RX6 : String := "DeckBalance$Rings"
def TX6 : u_T := fun k => match k with
  | 0 => ("DeckBalance$Rings", "decks", "[I", true)
  | _ => ("DeckBalance$Rings", "size", "I", false)
def tyX6 : Nat → FieldType := fun k => match k with
  | 0 => .array .int
  | _ => .int
abbrev wsX60 : List Cond := u_ws RX6 TX6 2
theorem nmX6 : ∀ a, a < 2 → ∀ b, b < 2 → a ≠ b → (TX6 a).2.1 ≠ (TX6 b).2.1 := by decide +kernel
theorem tyX6_ok : ∀ k, k < 2 → parseFieldDescriptor (TX6 k).2.2.1 = some (tyX6 k) := by decide +kernel
abbrev cX6_init : ByteArray := prog_8_method_1_code
def yX6_init : MethodName := ⟨RX6, "<init>", "()V"⟩
abbrev cX6_find : ByteArray := prog_8_method_2_code
def yX6_find : MethodName := ⟨RX6, "find", "([[II)V"⟩
abbrev cX6_findThird : ByteArray := prog_8_method_3_code
def yX6_findThird : MethodName := ⟨RX6, "findThird", "([[IIII)V"⟩
def RX7 : String := "DeckBalance$Side"
def TX7 : u_T := fun k => match k with
  | 0 => ("DeckBalance$Side", "life", "I", false)
  | 1 => ("DeckBalance$Side", "played", "I", false)
  | 2 => ("DeckBalance$Side", "attack", "I", false)
  | _ => ("DeckBalance$Side", "wall", "I", false)
def tyX7 : Nat → FieldType := fun k => match k with
  | 0 => .int
  | 1 => .int
  | 2 => .int
  | _ => .int
abbrev wsX70 : List Cond := u_ws RX7 TX7 4
theorem nmX7 : ∀ a, a < 4 → ∀ b, b < 4 → a ≠ b → (TX7 a).2.1 ≠ (TX7 b).2.1 := by decide +kernel
theorem tyX7_ok : ∀ k, k < 4 → parseFieldDescriptor (TX7 k).2.2.1 = some (tyX7 k) := by decide +kernel
abbrev cX7_init : ByteArray := prog_9_method_1_code
def yX7_init : MethodName := ⟨RX7, "<init>", "()V"⟩
abbrev cX7_begin : ByteArray := prog_9_method_2_code
def yX7_begin : MethodName := ⟨RX7, "begin", "(I)V"⟩
abbrev cX7_defeats : ByteArray := prog_9_method_3_code
def yX7_defeats : MethodName := ⟨RX7, "defeats", "(LDeckBalance$Side;LDeckBalance$Plan;LDeckBalance$CardBook;I)Z"⟩
abbrev cX7_put : ByteArray := prog_9_method_4_code
def yX7_put : MethodName := ⟨RX7, "put", "(LDeckBalance$Side;ILDeckBalance$CardBook;)V"⟩
def RX8 : String := "DeckBalance"
def TX8 : u_T := fun k => match k with
  | 0 => ("DeckBalance", "book", "LDeckBalance$CardBook;", true)
  | 1 => ("DeckBalance", "decks", "[LDeckBalance$Deck;", true)
  | 2 => ("DeckBalance", "game", "LDeckBalance$Game;", true)
  | 3 => ("DeckBalance", "now", "LDeckBalance$Contest;", true)
  | 4 => ("DeckBalance", "trial", "LDeckBalance$Contest;", true)
  | 5 => ("DeckBalance", "found", "LDeckBalance$Rings;", true)
  | 6 => ("DeckBalance", "lessened", "LDeckBalance$Plan;", true)
  | 7 => ("DeckBalance", "lessenedTables", "[I", true)
  | 8 => ("DeckBalance", "deckCount", "I", false)
  | 9 => ("DeckBalance", "startLife", "I", false)
  | 10 => ("DeckBalance", "tablesKnown", "Z", false)
  | _ => ("DeckBalance", "mixKnown", "Z", false)
def tyX8 : Nat → FieldType := fun k => match k with
  | 0 => .object "DeckBalance$CardBook"
  | 1 => .array (.object "DeckBalance$Deck")
  | 2 => .object "DeckBalance$Game"
  | 3 => .object "DeckBalance$Contest"
  | 4 => .object "DeckBalance$Contest"
  | 5 => .object "DeckBalance$Rings"
  | 6 => .object "DeckBalance$Plan"
  | 7 => .array .int
  | 8 => .int
  | 9 => .int
  | 10 => .boolean
  | _ => .boolean
abbrev wsX80 : List Cond := u_ws RX8 TX8 12
theorem nmX8 : ∀ a, a < 12 → ∀ b, b < 12 → a ≠ b → (TX8 a).2.1 ≠ (TX8 b).2.1 := by decide +kernel
theorem tyX8_ok : ∀ k, k < 12 → parseFieldDescriptor (TX8 k).2.2.1 = some (tyX8 k) := by decide +kernel
abbrev cX8_init : ByteArray := prog_1_method_1_code
def yX8_init : MethodName := ⟨RX8, "<init>", "()V"⟩
abbrev cX8_card : ByteArray := prog_1_method_2_code
def yX8_card : MethodName := ⟨RX8, "card", "(III)I"⟩
abbrev cX8_power : ByteArray := prog_1_method_3_code
def yX8_power : MethodName := ⟨RX8, "power", "(II)I"⟩
abbrev cX8_deck : ByteArray := prog_1_method_4_code
def yX8_deck : MethodName := ⟨RX8, "deck", "()I"⟩
abbrev cX8_add : ByteArray := prog_1_method_5_code
def yX8_add : MethodName := ⟨RX8, "add", "(II)I"⟩
abbrev cX8_drop : ByteArray := prog_1_method_6_code
def yX8_drop : MethodName := ⟨RX8, "drop", "(II)I"⟩
abbrev cX8_swap : ByteArray := prog_1_method_7_code
def yX8_swap : MethodName := ⟨RX8, "swap", "(III)I"⟩
abbrev cX8_at : ByteArray := prog_1_method_8_code
def yX8_at : MethodName := ⟨RX8, "at", "(II)I"⟩
abbrev cX8_life : ByteArray := prog_1_method_9_code
def yX8_life : MethodName := ⟨RX8, "life", "(I)I"⟩
abbrev cX8_play : ByteArray := prog_1_method_10_code
def yX8_play : MethodName := ⟨RX8, "play", "(II)I"⟩
abbrev cX8_told : ByteArray := prog_1_method_11_code
def yX8_told : MethodName := ⟨RX8, "told", "(III)I"⟩
abbrev cX8_table : ByteArray := prog_1_method_12_code
def yX8_table : MethodName := ⟨RX8, "table", "(II)I"⟩
abbrev cX8_rings : ByteArray := prog_1_method_13_code
def yX8_rings : MethodName := ⟨RX8, "rings", "()I"⟩
abbrev cX8_ring : ByteArray := prog_1_method_14_code
def yX8_ring : MethodName := ⟨RX8, "ring", "(II)I"⟩
abbrev cX8_share : ByteArray := prog_1_method_15_code
def yX8_share : MethodName := ⟨RX8, "share", "(II)J"⟩
abbrev cX8_live : ByteArray := prog_1_method_16_code
def yX8_live : MethodName := ⟨RX8, "live", "()I"⟩
abbrev cX8_standing : ByteArray := prog_1_method_17_code
def yX8_standing : MethodName := ⟨RX8, "standing", "(I)I"⟩
abbrev cX8_worth : ByteArray := prog_1_method_18_code
def yX8_worth : MethodName := ⟨RX8, "worth", "(II)I"⟩
abbrev cX8_idle : ByteArray := prog_1_method_19_code
def yX8_idle : MethodName := ⟨RX8, "idle", "(II)I"⟩
abbrev cX8_remedy : ByteArray := prog_1_method_20_code
def yX8_remedy : MethodName := ⟨RX8, "remedy", "(II)I"⟩
abbrev cX8_count : ByteArray := prog_1_method_21_code
def yX8_count : MethodName := ⟨RX8, "count", "(I)I"⟩
abbrev cX8_isOutside : ByteArray := prog_1_method_22_code
def yX8_isOutside : MethodName := ⟨RX8, "isOutside", "(III)Z"⟩
abbrev cX8_isNoCard : ByteArray := prog_1_method_23_code
def yX8_isNoCard : MethodName := ⟨RX8, "isNoCard", "(I)Z"⟩
abbrev cX8_isNoDeck : ByteArray := prog_1_method_24_code
def yX8_isNoDeck : MethodName := ⟨RX8, "isNoDeck", "(I)Z"⟩
abbrev cX8_isNoPlace : ByteArray := prog_1_method_25_code
def yX8_isNoPlace : MethodName := ⟨RX8, "isNoPlace", "(II)Z"⟩
abbrev cX8_cardsInDecks : ByteArray := prog_1_method_26_code
def yX8_cardsInDecks : MethodName := ⟨RX8, "cardsInDecks", "()I"⟩
abbrev cX8_sumOf : ByteArray := prog_1_method_27_code
def yX8_sumOf : MethodName := ⟨RX8, "sumOf", "([I)I"⟩
abbrev cX8_greatestDivisor : ByteArray := prog_1_method_28_code
def yX8_greatestDivisor : MethodName := ⟨RX8, "greatestDivisor", "(II)I"⟩
abbrev cX8_forgetTables : ByteArray := prog_1_method_29_code
def yX8_forgetTables : MethodName := ⟨RX8, "forgetTables", "()V"⟩
abbrev cX8_learnTables : ByteArray := prog_1_method_30_code
def yX8_learnTables : MethodName := ⟨RX8, "learnTables", "()V"⟩
abbrev cX8_learnMix : ByteArray := prog_1_method_31_code
def yX8_learnMix : MethodName := ⟨RX8, "learnMix", "()V"⟩
abbrev cX8_tableOf : ByteArray := prog_1_method_32_code
def yX8_tableOf : MethodName := ⟨RX8, "tableOf", "(LDeckBalance$Plan;LDeckBalance$Plan;)I"⟩
abbrev cX8_learnTablesWithout : ByteArray := prog_1_method_33_code
def yX8_learnTablesWithout : MethodName := ⟨RX8, "learnTablesWithout", "(II)V"⟩
abbrev cX8_isMixWithin : ByteArray := prog_1_method_34_code
def yX8_isMixWithin : MethodName := ⟨RX8, "isMixWithin", "(IIII)Z"⟩
abbrev cX8_learnTrialTables : ByteArray := prog_1_method_35_code
def yX8_learnTrialTables : MethodName := ⟨RX8, "learnTrialTables", "(I)V"⟩
abbrev cX8_trialPlan : ByteArray := prog_1_method_36_code
def yX8_trialPlan : MethodName := ⟨RX8, "trialPlan", "(II)LDeckBalance$Plan;"⟩
abbrev cX8_hasCard : ByteArray := prog_1_method_37_code
def yX8_hasCard : MethodName := ⟨RX8, "hasCard", "(II)Z"⟩
def RX9 : String := "DeckBalanceModel"
def TX9 : u_T := fun k => match k with
  | 0 => ("DeckBalanceModel", "cards", "I", false)
  | 1 => ("DeckBalanceModel", "sort", "[I", true)
  | 2 => ("DeckBalanceModel", "cost", "[I", true)
  | 3 => ("DeckBalanceModel", "power", "[I", true)
  | 4 => ("DeckBalanceModel", "decks", "I", false)
  | 5 => ("DeckBalanceModel", "many", "[I", true)
  | 6 => ("DeckBalanceModel", "deck", "[I", true)
  | 7 => ("DeckBalanceModel", "life", "I", false)
  | 8 => ("DeckBalanceModel", "plays", "[I", true)
  | 9 => ("DeckBalanceModel", "lives", "[I", true)
  | 10 => ("DeckBalanceModel", "drawn", "[I", true)
  | 11 => ("DeckBalanceModel", "fight", "[I", true)
  | 12 => ("DeckBalanceModel", "wall", "[I", true)
  | 13 => ("DeckBalanceModel", "played", "[I", true)
  | 14 => ("DeckBalanceModel", "hand", "[I", true)
  | 15 => ("DeckBalanceModel", "turn", "I", false)
  | 16 => ("DeckBalanceModel", "tables", "[I", true)
  | 17 => ("DeckBalanceModel", "ringA", "I", false)
  | 18 => ("DeckBalanceModel", "ringB", "I", false)
  | 19 => ("DeckBalanceModel", "ringC", "I", false)
  | 20 => ("DeckBalanceModel", "rows", "[J", true)
  | 21 => ("DeckBalanceModel", "up", "[J", true)
  | 22 => ("DeckBalanceModel", "below", "[J", true)
  | 23 => ("DeckBalanceModel", "bestUp", "[J", true)
  | 24 => ("DeckBalanceModel", "bestBelow", "[J", true)
  | _ => ("DeckBalanceModel", "before", "[I", true)
def tyX9 : Nat → FieldType := fun k => match k with
  | 0 => .int
  | 1 => .array .int
  | 2 => .array .int
  | 3 => .array .int
  | 4 => .int
  | 5 => .array .int
  | 6 => .array .int
  | 7 => .int
  | 8 => .array .int
  | 9 => .array .int
  | 10 => .array .int
  | 11 => .array .int
  | 12 => .array .int
  | 13 => .array .int
  | 14 => .array .int
  | 15 => .int
  | 16 => .array .int
  | 17 => .int
  | 18 => .int
  | 19 => .int
  | 20 => .array .long
  | 21 => .array .long
  | 22 => .array .long
  | 23 => .array .long
  | 24 => .array .long
  | _ => .array .int
abbrev wsX90 : List Cond := u_ws RX9 TX9 26
theorem nmX9 : ∀ a, a < 26 → ∀ b, b < 26 → a ≠ b → (TX9 a).2.1 ≠ (TX9 b).2.1 := by decide +kernel
theorem tyX9_ok : ∀ k, k < 26 → parseFieldDescriptor (TX9 k).2.2.1 = some (tyX9 k) := by decide +kernel
abbrev cX9_init : ByteArray := prog_11_method_1_code
def yX9_init : MethodName := ⟨RX9, "<init>", "()V"⟩
abbrev cX9_in : ByteArray := prog_11_method_2_code
def yX9_in : MethodName := ⟨RX9, "in", "(III)Z"⟩
abbrev cX9_isCard : ByteArray := prog_11_method_4_code
def yX9_isCard : MethodName := ⟨RX9, "isCard", "(I)Z"⟩
abbrev cX9_isDeck : ByteArray := prog_11_method_5_code
def yX9_isDeck : MethodName := ⟨RX9, "isDeck", "(I)Z"⟩
abbrev cX9_card : ByteArray := prog_11_method_6_code
def yX9_card : MethodName := ⟨RX9, "card", "(III)I"⟩
abbrev cX9_power : ByteArray := prog_11_method_7_code
def yX9_power : MethodName := ⟨RX9, "power", "(II)I"⟩
abbrev cX9_deck : ByteArray := prog_11_method_8_code
def yX9_deck : MethodName := ⟨RX9, "deck", "()I"⟩
abbrev cX9_add : ByteArray := prog_11_method_9_code
def yX9_add : MethodName := ⟨RX9, "add", "(II)I"⟩
abbrev cX9_isPlace : ByteArray := prog_11_method_10_code
def yX9_isPlace : MethodName := ⟨RX9, "isPlace", "(II)Z"⟩
abbrev cX9_dropAt : ByteArray := prog_11_method_11_code
def yX9_dropAt : MethodName := ⟨RX9, "dropAt", "(II)V"⟩
abbrev cX9_drop : ByteArray := prog_11_method_12_code
def yX9_drop : MethodName := ⟨RX9, "drop", "(II)I"⟩
abbrev cX9_swap : ByteArray := prog_11_method_13_code
def yX9_swap : MethodName := ⟨RX9, "swap", "(III)I"⟩
abbrev cX9_at : ByteArray := prog_11_method_14_code
def yX9_at : MethodName := ⟨RX9, "at", "(II)I"⟩
abbrev cX9_life : ByteArray := prog_11_method_15_code
def yX9_life : MethodName := ⟨RX9, "life", "(I)I"⟩
abbrev cX9_isOver : ByteArray := prog_11_method_16_code
def yX9_isOver : MethodName := ⟨RX9, "isOver", "()Z"⟩
abbrev cX9_nextCard : ByteArray := prog_11_method_17_code
def yX9_nextCard : MethodName := ⟨RX9, "nextCard", "(II)I"⟩
abbrev cX9_playCard : ByteArray := prog_11_method_18_code
def yX9_playCard : MethodName := ⟨RX9, "playCard", "(II)V"⟩
abbrev cX9_move : ByteArray := prog_11_method_19_code
def yX9_move : MethodName := ⟨RX9, "move", "(I)V"⟩
abbrev cX9_game : ByteArray := prog_11_method_20_code
def yX9_game : MethodName := ⟨RX9, "game", "(II)V"⟩
abbrev cX9_result : ByteArray := prog_11_method_21_code
def yX9_result : MethodName := ⟨RX9, "result", "(II)I"⟩
abbrev cX9_play : ByteArray := prog_11_method_22_code
def yX9_play : MethodName := ⟨RX9, "play", "(II)I"⟩
abbrev cX9_told : ByteArray := prog_11_method_23_code
def yX9_told : MethodName := ⟨RX9, "told", "(III)I"⟩
abbrev cX9_tableOf : ByteArray := prog_11_method_24_code
def yX9_tableOf : MethodName := ⟨RX9, "tableOf", "(II)I"⟩
abbrev cX9_table : ByteArray := prog_11_method_25_code
def yX9_table : MethodName := ⟨RX9, "table", "(II)I"⟩
abbrev cX9_layTables : ByteArray := prog_11_method_26_code
def yX9_layTables : MethodName := ⟨RX9, "layTables", "()V"⟩
abbrev cX9_beats : ByteArray := prog_11_method_27_code
def yX9_beats : MethodName := ⟨RX9, "beats", "(II)Z"⟩
abbrev cX9_findRings : ByteArray := prog_11_method_28_code
def yX9_findRings : MethodName := ⟨RX9, "findRings", "(I)I"⟩
abbrev cX9_rings : ByteArray := prog_11_method_29_code
def yX9_rings : MethodName := ⟨RX9, "rings", "()I"⟩
abbrev cX9_ring : ByteArray := prog_11_method_30_code
def yX9_ring : MethodName := ⟨RX9, "ring", "(II)I"⟩
abbrev cX9_divisor : ByteArray := prog_11_method_31_code
def yX9_divisor : MethodName := ⟨RX9, "divisor", "(JJ)J"⟩
abbrev cX9_layBounds : ByteArray := prog_11_method_32_code
def yX9_layBounds : MethodName := ⟨RX9, "layBounds", "(I)V"⟩
abbrev cX9_changeRows : ByteArray := prog_11_method_33_code
def yX9_changeRows : MethodName := ⟨RX9, "changeRows", "(II)V"⟩
abbrev cX9_clearRow : ByteArray := prog_11_method_34_code
def yX9_clearRow : MethodName := ⟨RX9, "clearRow", "(III)V"⟩
abbrev cX9_solve : ByteArray := prog_11_method_35_code
def yX9_solve : MethodName := ⟨RX9, "solve", "()Z"⟩
abbrev cX9_holds : ByteArray := prog_11_method_36_code
def yX9_holds : MethodName := ⟨RX9, "holds", "()Z"⟩
abbrev cX9_isGreater : ByteArray := prog_11_method_37_code
def yX9_isGreater : MethodName := ⟨RX9, "isGreater", "()Z"⟩
abbrev cX9_ones : ByteArray := prog_11_method_38_code
def yX9_ones : MethodName := ⟨RX9, "ones", "(I)I"⟩
abbrev cX9_findMix : ByteArray := prog_11_method_39_code
def yX9_findMix : MethodName := ⟨RX9, "findMix", "()V"⟩
abbrev cX9_share : ByteArray := prog_11_method_40_code
def yX9_share : MethodName := ⟨RX9, "share", "(II)J"⟩
abbrev cX9_live : ByteArray := prog_11_method_41_code
def yX9_live : MethodName := ⟨RX9, "live", "()I"⟩
abbrev cX9_standingOf : ByteArray := prog_11_method_42_code
def yX9_standingOf : MethodName := ⟨RX9, "standingOf", "(I)I"⟩
abbrev cX9_standing : ByteArray := prog_11_method_43_code
def yX9_standing : MethodName := ⟨RX9, "standing", "(I)I"⟩
abbrev cX9_placeOf : ByteArray := prog_11_method_44_code
def yX9_placeOf : MethodName := ⟨RX9, "placeOf", "(II)I"⟩
abbrev cX9_putBack : ByteArray := prog_11_method_45_code
def yX9_putBack : MethodName := ⟨RX9, "putBack", "(III)V"⟩
abbrev cX9_worth : ByteArray := prog_11_method_46_code
def yX9_worth : MethodName := ⟨RX9, "worth", "(II)I"⟩
abbrev cX9_idle : ByteArray := prog_11_method_47_code
def yX9_idle : MethodName := ⟨RX9, "idle", "(II)I"⟩
abbrev cX9_isRemedied : ByteArray := prog_11_method_48_code
def yX9_isRemedied : MethodName := ⟨RX9, "isRemedied", "(II)Z"⟩
abbrev cX9_remedy : ByteArray := prog_11_method_49_code
def yX9_remedy : MethodName := ⟨RX9, "remedy", "(II)I"⟩
abbrev cX9_count : ByteArray := prog_11_method_50_code
def yX9_count : MethodName := ⟨RX9, "count", "(I)I"⟩
def RJ6 : String := "java/lang/Integer"
def TJ6 : u_T := fun k => match k with
  | _ => ("", "", "", false)
def tyJ6 : Nat → FieldType := fun k => match k with
  | _ => .int
abbrev wsJ60 : List Cond := u_ws RJ6 TJ6 0
theorem nmJ6 : ∀ a, a < 0 → ∀ b, b < 0 → a ≠ b → (TJ6 a).2.1 ≠ (TJ6 b).2.1 := by decide +kernel
theorem tyJ6_ok : ∀ k, k < 0 → parseFieldDescriptor (TJ6 k).2.2.1 = some (tyJ6 k) := by decide +kernel
abbrev cJ6_compare_7cf53 : ByteArray := prog_12_method_40_code
def yJ6_compare_7cf53 : MethodName := ⟨RJ6, "compare", "(II)I"⟩
abbrev cJ6_bitCount_0f7a4 : ByteArray := prog_12_method_49_code
def yJ6_bitCount_0f7a4 : MethodName := ⟨RJ6, "bitCount", "(I)I"⟩
def RJ9 : String := "java/lang/Math"
def TJ9 : u_T := fun k => match k with
  | _ => ("", "", "", false)
def tyJ9 : Nat → FieldType := fun k => match k with
  | _ => .int
abbrev wsJ90 : List Cond := u_ws RJ9 TJ9 0
theorem nmJ9 : ∀ a, a < 0 → ∀ b, b < 0 → a ≠ b → (TJ9 a).2.1 ≠ (TJ9 b).2.1 := by decide +kernel
theorem tyJ9_ok : ∀ k, k < 0 → parseFieldDescriptor (TJ9 k).2.2.1 = some (tyJ9 k) := by decide +kernel
abbrev cJ9_max_7cf53 : ByteArray := prog_13_method_65_code
def yJ9_max_7cf53 : MethodName := ⟨RJ9, "max", "(II)I"⟩
abbrev cJ9_min_7cf53 : ByteArray := prog_13_method_69_code
def yJ9_min_7cf53 : MethodName := ⟨RJ9, "min", "(II)I"⟩
def RL : String := "DeckBalanceLaw"
abbrev cL_law : ByteArray := code
def yL_law : MethodName := ⟨RL, "law", "([I)Z"⟩
abbrev vwCl : List vw_C := [(RX0, TX0, 4), (RX1, TX1, 3), (RX2, TX2, 2), (RX3, TX3, 4), (RX4, TX4, 6), (RX5, TX5, 6), (RX6, TX6, 2), (RX7, TX7, 4), (RX8, TX8, 12), (RX9, TX9, 26)]
end
section
/-! the tables' good words, and where each that is used stands -/
def wsL : List Cond := lw_tbl.filter goodWord
theorem wsL_tbl : ∀ w ∈ wsL, w ∈ lw_tbl := fun _ h => (List.mem_filter.mp h).1
theorem wsL_good : ∀ w ∈ wsL, goodWord w = true := fun _ h => (List.mem_filter.mp h).2
theorem in_T {w : Cond} (i : Nat) (h : tables_1[i]? = some w) (g : goodWord w = true) : w ∈ wsL := List.mem_filter.mpr ⟨List.mem_append_right _ (List.mem_of_getElem? h), g⟩
theorem in_S {w : Cond} (i : Nat) (h : (k2_sels lw_privs)[i]? = some w) (g : goodWord w = true) : w ∈ wsL := List.mem_filter.mpr ⟨List.mem_append_left _ (List.mem_of_getElem? h), g⟩
theorem us0 : ∀ w ∈ u_ws RX0 TX0 4, w ∈ wsL := by
  intro w hw
  obtain ⟨k, hk, rfl⟩ := List.mem_map.mp hw
  have hk := List.mem_range.mp hk
  match k, hk with
  | 0, _ => exact in_T 36 (by decide +kernel) (by decide +kernel)
  | 1, _ => exact in_T 38 (by decide +kernel) (by decide +kernel)
  | 2, _ => exact in_T 40 (by decide +kernel) (by decide +kernel)
  | 3, _ => exact in_T 42 (by decide +kernel) (by decide +kernel)
  | k + 4, hk => exact absurd hk (by omega)
theorem us1 : ∀ w ∈ u_ws RX1 TX1 3, w ∈ wsL := by
  intro w hw
  obtain ⟨k, hk, rfl⟩ := List.mem_map.mp hw
  have hk := List.mem_range.mp hk
  match k, hk with
  | 0, _ => exact in_T 177 (by decide +kernel) (by decide +kernel)
  | 1, _ => exact in_T 179 (by decide +kernel) (by decide +kernel)
  | 2, _ => exact in_T 181 (by decide +kernel) (by decide +kernel)
  | k + 3, hk => exact absurd hk (by omega)
theorem us2 : ∀ w ∈ u_ws RX2 TX2 2, w ∈ wsL := by
  intro w hw
  obtain ⟨k, hk, rfl⟩ := List.mem_map.mp hw
  have hk := List.mem_range.mp hk
  match k, hk with
  | 0, _ => exact in_T 59 (by decide +kernel) (by decide +kernel)
  | 1, _ => exact in_T 61 (by decide +kernel) (by decide +kernel)
  | k + 2, hk => exact absurd hk (by omega)
theorem us3 : ∀ w ∈ u_ws RX3 TX3 4, w ∈ wsL := by
  intro w hw
  obtain ⟨k, hk, rfl⟩ := List.mem_map.mp hw
  have hk := List.mem_range.mp hk
  match k, hk with
  | 0, _ => exact in_T 99 (by decide +kernel) (by decide +kernel)
  | 1, _ => exact in_T 101 (by decide +kernel) (by decide +kernel)
  | 2, _ => exact in_T 103 (by decide +kernel) (by decide +kernel)
  | 3, _ => exact in_T 105 (by decide +kernel) (by decide +kernel)
  | k + 4, hk => exact absurd hk (by omega)
theorem us4 : ∀ w ∈ u_ws RX4 TX4 6, w ∈ wsL := by
  intro w hw
  obtain ⟨k, hk, rfl⟩ := List.mem_map.mp hw
  have hk := List.mem_range.mp hk
  match k, hk with
  | 0, _ => exact in_T 132 (by decide +kernel) (by decide +kernel)
  | 1, _ => exact in_T 134 (by decide +kernel) (by decide +kernel)
  | 2, _ => exact in_T 136 (by decide +kernel) (by decide +kernel)
  | 3, _ => exact in_T 138 (by decide +kernel) (by decide +kernel)
  | 4, _ => exact in_T 140 (by decide +kernel) (by decide +kernel)
  | 5, _ => exact in_T 142 (by decide +kernel) (by decide +kernel)
  | k + 6, hk => exact absurd hk (by omega)
theorem us5 : ∀ w ∈ u_ws RX5 TX5 6, w ∈ wsL := by
  intro w hw
  obtain ⟨k, hk, rfl⟩ := List.mem_map.mp hw
  have hk := List.mem_range.mp hk
  match k, hk with
  | 0, _ => exact in_T 158 (by decide +kernel) (by decide +kernel)
  | 1, _ => exact in_T 160 (by decide +kernel) (by decide +kernel)
  | 2, _ => exact in_T 162 (by decide +kernel) (by decide +kernel)
  | 3, _ => exact in_T 164 (by decide +kernel) (by decide +kernel)
  | 4, _ => exact in_T 166 (by decide +kernel) (by decide +kernel)
  | 5, _ => exact in_T 168 (by decide +kernel) (by decide +kernel)
  | k + 6, hk => exact absurd hk (by omega)
theorem us6 : ∀ w ∈ u_ws RX6 TX6 2, w ∈ wsL := by
  intro w hw
  obtain ⟨k, hk, rfl⟩ := List.mem_map.mp hw
  have hk := List.mem_range.mp hk
  match k, hk with
  | 0, _ => exact in_T 194 (by decide +kernel) (by decide +kernel)
  | 1, _ => exact in_T 196 (by decide +kernel) (by decide +kernel)
  | k + 2, hk => exact absurd hk (by omega)
theorem us7 : ∀ w ∈ u_ws RX7 TX7 4, w ∈ wsL := by
  intro w hw
  obtain ⟨k, hk, rfl⟩ := List.mem_map.mp hw
  have hk := List.mem_range.mp hk
  match k, hk with
  | 0, _ => exact in_T 83 (by decide +kernel) (by decide +kernel)
  | 1, _ => exact in_T 85 (by decide +kernel) (by decide +kernel)
  | 2, _ => exact in_T 87 (by decide +kernel) (by decide +kernel)
  | 3, _ => exact in_T 89 (by decide +kernel) (by decide +kernel)
  | k + 4, hk => exact absurd hk (by omega)
theorem us8 : ∀ w ∈ u_ws RX8 TX8 12, w ∈ wsL := by
  intro w hw
  obtain ⟨k, hk, rfl⟩ := List.mem_map.mp hw
  have hk := List.mem_range.mp hk
  match k, hk with
  | 0, _ => exact in_T 213 (by decide +kernel) (by decide +kernel)
  | 1, _ => exact in_T 215 (by decide +kernel) (by decide +kernel)
  | 2, _ => exact in_T 217 (by decide +kernel) (by decide +kernel)
  | 3, _ => exact in_T 219 (by decide +kernel) (by decide +kernel)
  | 4, _ => exact in_T 221 (by decide +kernel) (by decide +kernel)
  | 5, _ => exact in_T 223 (by decide +kernel) (by decide +kernel)
  | 6, _ => exact in_T 225 (by decide +kernel) (by decide +kernel)
  | 7, _ => exact in_T 227 (by decide +kernel) (by decide +kernel)
  | 8, _ => exact in_T 229 (by decide +kernel) (by decide +kernel)
  | 9, _ => exact in_T 231 (by decide +kernel) (by decide +kernel)
  | 10, _ => exact in_T 233 (by decide +kernel) (by decide +kernel)
  | 11, _ => exact in_T 235 (by decide +kernel) (by decide +kernel)
  | k + 12, hk => exact absurd hk (by omega)
theorem us9 : ∀ w ∈ u_ws RX9 TX9 26, w ∈ wsL := by
  intro w hw
  obtain ⟨k, hk, rfl⟩ := List.mem_map.mp hw
  have hk := List.mem_range.mp hk
  match k, hk with
  | 0, _ => exact in_T 548 (by decide +kernel) (by decide +kernel)
  | 1, _ => exact in_T 550 (by decide +kernel) (by decide +kernel)
  | 2, _ => exact in_T 552 (by decide +kernel) (by decide +kernel)
  | 3, _ => exact in_T 554 (by decide +kernel) (by decide +kernel)
  | 4, _ => exact in_T 556 (by decide +kernel) (by decide +kernel)
  | 5, _ => exact in_T 558 (by decide +kernel) (by decide +kernel)
  | 6, _ => exact in_T 560 (by decide +kernel) (by decide +kernel)
  | 7, _ => exact in_T 562 (by decide +kernel) (by decide +kernel)
  | 8, _ => exact in_T 564 (by decide +kernel) (by decide +kernel)
  | 9, _ => exact in_T 566 (by decide +kernel) (by decide +kernel)
  | 10, _ => exact in_T 568 (by decide +kernel) (by decide +kernel)
  | 11, _ => exact in_T 570 (by decide +kernel) (by decide +kernel)
  | 12, _ => exact in_T 572 (by decide +kernel) (by decide +kernel)
  | 13, _ => exact in_T 574 (by decide +kernel) (by decide +kernel)
  | 14, _ => exact in_T 576 (by decide +kernel) (by decide +kernel)
  | 15, _ => exact in_T 578 (by decide +kernel) (by decide +kernel)
  | 16, _ => exact in_T 580 (by decide +kernel) (by decide +kernel)
  | 17, _ => exact in_T 582 (by decide +kernel) (by decide +kernel)
  | 18, _ => exact in_T 584 (by decide +kernel) (by decide +kernel)
  | 19, _ => exact in_T 586 (by decide +kernel) (by decide +kernel)
  | 20, _ => exact in_T 588 (by decide +kernel) (by decide +kernel)
  | 21, _ => exact in_T 590 (by decide +kernel) (by decide +kernel)
  | 22, _ => exact in_T 592 (by decide +kernel) (by decide +kernel)
  | 23, _ => exact in_T 594 (by decide +kernel) (by decide +kernel)
  | 24, _ => exact in_T 596 (by decide +kernel) (by decide +kernel)
  | 25, _ => exact in_T 598 (by decide +kernel) (by decide +kernel)
  | k + 26, hk => exact absurd hk (by omega)
theorem fl_X0_9 : Cond.fieldLink RX0 9 (TX0 0).1 (TX0 0).2.1 (TX0 0).2.2.1 ∈ wsL := in_T 27 (by decide +kernel) (by decide +kernel)
theorem fl_X7_43 : Cond.fieldLink RX7 43 (TX0 0).1 (TX0 0).2.1 (TX0 0).2.2.1 ∈ wsL := in_T 28 (by decide +kernel) (by decide +kernel)
theorem fl_X0_15 : Cond.fieldLink RX0 15 (TX0 1).1 (TX0 1).2.1 (TX0 1).2.2.1 ∈ wsL := in_T 29 (by decide +kernel) (by decide +kernel)
theorem fl_X5_57 : Cond.fieldLink RX5 57 (TX0 1).1 (TX0 1).2.1 (TX0 1).2.2.1 ∈ wsL := in_T 30 (by decide +kernel) (by decide +kernel)
theorem fl_X0_18 : Cond.fieldLink RX0 18 (TX0 2).1 (TX0 2).2.1 (TX0 2).2.2.1 ∈ wsL := in_T 31 (by decide +kernel) (by decide +kernel)
theorem fl_X8_76 : Cond.fieldLink RX8 76 (TX0 2).1 (TX0 2).2.1 (TX0 2).2.2.1 ∈ wsL := in_T 32 (by decide +kernel) (by decide +kernel)
theorem fl_X7_48 : Cond.fieldLink RX7 48 (TX0 2).1 (TX0 2).2.1 (TX0 2).2.2.1 ∈ wsL := in_T 33 (by decide +kernel) (by decide +kernel)
theorem fl_X0_21 : Cond.fieldLink RX0 21 (TX0 3).1 (TX0 3).2.1 (TX0 3).2.2.1 ∈ wsL := in_T 34 (by decide +kernel) (by decide +kernel)
theorem fl_X8_176 : Cond.fieldLink RX8 176 (TX0 3).1 (TX0 3).2.1 (TX0 3).2.2.1 ∈ wsL := in_T 35 (by decide +kernel) (by decide +kernel)
theorem fl_X2_9 : Cond.fieldLink RX2 9 (TX2 0).1 (TX2 0).2.1 (TX2 0).2.2.1 ∈ wsL := in_T 53 (by decide +kernel) (by decide +kernel)
theorem fl_X5_50 : Cond.fieldLink RX5 50 (TX2 0).1 (TX2 0).2.1 (TX2 0).2.2.1 ∈ wsL := in_T 54 (by decide +kernel) (by decide +kernel)
theorem fl_X8_103 : Cond.fieldLink RX8 103 (TX2 0).1 (TX2 0).2.1 (TX2 0).2.2.1 ∈ wsL := in_T 55 (by decide +kernel) (by decide +kernel)
theorem fl_X2_15 : Cond.fieldLink RX2 15 (TX2 1).1 (TX2 1).2.1 (TX2 1).2.2.1 ∈ wsL := in_T 56 (by decide +kernel) (by decide +kernel)
theorem fl_X5_45 : Cond.fieldLink RX5 45 (TX2 1).1 (TX2 1).2.1 (TX2 1).2.2.1 ∈ wsL := in_T 57 (by decide +kernel) (by decide +kernel)
theorem fl_X8_185 : Cond.fieldLink RX8 185 (TX2 1).1 (TX2 1).2.1 (TX2 1).2.2.1 ∈ wsL := in_T 58 (by decide +kernel) (by decide +kernel)
theorem fl_X7_9 : Cond.fieldLink RX7 9 (TX7 0).1 (TX7 0).2.1 (TX7 0).2.2.1 ∈ wsL := in_T 76 (by decide +kernel) (by decide +kernel)
theorem fl_X3_37 : Cond.fieldLink RX3 37 (TX7 0).1 (TX7 0).2.1 (TX7 0).2.2.1 ∈ wsL := in_T 77 (by decide +kernel) (by decide +kernel)
theorem fl_X8_125 : Cond.fieldLink RX8 125 (TX7 0).1 (TX7 0).2.1 (TX7 0).2.2.1 ∈ wsL := in_T 78 (by decide +kernel) (by decide +kernel)
theorem fl_X7_15 : Cond.fieldLink RX7 15 (TX7 1).1 (TX7 1).2.1 (TX7 1).2.2.1 ∈ wsL := in_T 79 (by decide +kernel) (by decide +kernel)
theorem fl_X8_133 : Cond.fieldLink RX8 133 (TX7 1).1 (TX7 1).2.1 (TX7 1).2.2.1 ∈ wsL := in_T 80 (by decide +kernel) (by decide +kernel)
theorem fl_X7_18 : Cond.fieldLink RX7 18 (TX7 2).1 (TX7 2).2.1 (TX7 2).2.2.1 ∈ wsL := in_T 81 (by decide +kernel) (by decide +kernel)
theorem fl_X7_21 : Cond.fieldLink RX7 21 (TX7 3).1 (TX7 3).2.1 (TX7 3).2.2.1 ∈ wsL := in_T 82 (by decide +kernel) (by decide +kernel)
theorem fl_X3_12 : Cond.fieldLink RX3 12 (TX3 0).1 (TX3 0).2.1 (TX3 0).2.2.1 ∈ wsL := in_T 92 (by decide +kernel) (by decide +kernel)
theorem fl_X8_121 : Cond.fieldLink RX8 121 (TX3 0).1 (TX3 0).2.1 (TX3 0).2.2.1 ∈ wsL := in_T 93 (by decide +kernel) (by decide +kernel)
theorem fl_X3_18 : Cond.fieldLink RX3 18 (TX3 1).1 (TX3 1).2.1 (TX3 1).2.2.1 ∈ wsL := in_T 94 (by decide +kernel) (by decide +kernel)
theorem fl_X8_130 : Cond.fieldLink RX8 130 (TX3 1).1 (TX3 1).2.1 (TX3 1).2.2.1 ∈ wsL := in_T 95 (by decide +kernel) (by decide +kernel)
theorem fl_X3_29 : Cond.fieldLink RX3 29 (TX3 2).1 (TX3 2).2.1 (TX3 2).2.2.1 ∈ wsL := in_T 96 (by decide +kernel) (by decide +kernel)
theorem fl_X8_118 : Cond.fieldLink RX8 118 (TX3 2).1 (TX3 2).2.1 (TX3 2).2.2.1 ∈ wsL := in_T 97 (by decide +kernel) (by decide +kernel)
theorem fl_X3_21 : Cond.fieldLink RX3 21 (TX3 3).1 (TX3 3).2.1 (TX3 3).2.2.1 ∈ wsL := in_T 98 (by decide +kernel) (by decide +kernel)
theorem fl_X4_9 : Cond.fieldLink RX4 9 (TX4 0).1 (TX4 0).2.1 (TX4 0).2.2.1 ∈ wsL := in_T 124 (by decide +kernel) (by decide +kernel)
theorem fl_X8_154 : Cond.fieldLink RX8 154 (TX4 0).1 (TX4 0).2.1 (TX4 0).2.2.1 ∈ wsL := in_T 125 (by decide +kernel) (by decide +kernel)
theorem fl_X4_25 : Cond.fieldLink RX4 25 (TX4 1).1 (TX4 1).2.1 (TX4 1).2.2.1 ∈ wsL := in_T 126 (by decide +kernel) (by decide +kernel)
theorem fl_X8_159 : Cond.fieldLink RX8 159 (TX4 1).1 (TX4 1).2.1 (TX4 1).2.2.1 ∈ wsL := in_T 127 (by decide +kernel) (by decide +kernel)
theorem fl_X4_15 : Cond.fieldLink RX4 15 (TX4 2).1 (TX4 2).2.1 (TX4 2).2.2.1 ∈ wsL := in_T 128 (by decide +kernel) (by decide +kernel)
theorem fl_X4_63 : Cond.fieldLink RX4 63 (TX4 3).1 (TX4 3).2.1 (TX4 3).2.2.1 ∈ wsL := in_T 129 (by decide +kernel) (by decide +kernel)
theorem fl_X4_18 : Cond.fieldLink RX4 18 (TX4 4).1 (TX4 4).2.1 (TX4 4).2.2.1 ∈ wsL := in_T 130 (by decide +kernel) (by decide +kernel)
theorem fl_X4_21 : Cond.fieldLink RX4 21 (TX4 5).1 (TX4 5).2.1 (TX4 5).2.2.1 ∈ wsL := in_T 131 (by decide +kernel) (by decide +kernel)
theorem fl_X5_9 : Cond.fieldLink RX5 9 (TX5 0).1 (TX5 0).2.1 (TX5 0).2.2.1 ∈ wsL := in_T 150 (by decide +kernel) (by decide +kernel)
theorem fl_X7_36 : Cond.fieldLink RX7 36 (TX5 0).1 (TX5 0).2.1 (TX5 0).2.2.1 ∈ wsL := in_T 151 (by decide +kernel) (by decide +kernel)
theorem fl_X5_15 : Cond.fieldLink RX5 15 (TX5 1).1 (TX5 1).2.1 (TX5 1).2.2.1 ∈ wsL := in_T 152 (by decide +kernel) (by decide +kernel)
theorem fl_X7_30 : Cond.fieldLink RX7 30 (TX5 1).1 (TX5 1).2.1 (TX5 1).2.2.1 ∈ wsL := in_T 153 (by decide +kernel) (by decide +kernel)
theorem fl_X5_18 : Cond.fieldLink RX5 18 (TX5 2).1 (TX5 2).2.1 (TX5 2).2.2.1 ∈ wsL := in_T 154 (by decide +kernel) (by decide +kernel)
theorem fl_X5_21 : Cond.fieldLink RX5 21 (TX5 3).1 (TX5 3).2.1 (TX5 3).2.2.1 ∈ wsL := in_T 155 (by decide +kernel) (by decide +kernel)
theorem fl_X5_25 : Cond.fieldLink RX5 25 (TX5 4).1 (TX5 4).2.1 (TX5 4).2.2.1 ∈ wsL := in_T 156 (by decide +kernel) (by decide +kernel)
theorem fl_X5_28 : Cond.fieldLink RX5 28 (TX5 5).1 (TX5 5).2.1 (TX5 5).2.2.1 ∈ wsL := in_T 157 (by decide +kernel) (by decide +kernel)
theorem fl_X1_11 : Cond.fieldLink RX1 11 (TX1 0).1 (TX1 0).2.1 (TX1 0).2.2.1 ∈ wsL := in_T 171 (by decide +kernel) (by decide +kernel)
theorem fl_X8_109 : Cond.fieldLink RX8 109 (TX1 0).1 (TX1 0).2.1 (TX1 0).2.2.1 ∈ wsL := in_T 172 (by decide +kernel) (by decide +kernel)
theorem fl_X1_19 : Cond.fieldLink RX1 19 (TX1 1).1 (TX1 1).2.1 (TX1 1).2.2.1 ∈ wsL := in_T 173 (by decide +kernel) (by decide +kernel)
theorem fl_X8_136 : Cond.fieldLink RX8 136 (TX1 1).1 (TX1 1).2.1 (TX1 1).2.2.1 ∈ wsL := in_T 174 (by decide +kernel) (by decide +kernel)
theorem fl_X1_25 : Cond.fieldLink RX1 25 (TX1 2).1 (TX1 2).2.1 (TX1 2).2.2.1 ∈ wsL := in_T 175 (by decide +kernel) (by decide +kernel)
theorem fl_X8_150 : Cond.fieldLink RX8 150 (TX1 2).1 (TX1 2).2.1 (TX1 2).2.2.1 ∈ wsL := in_T 176 (by decide +kernel) (by decide +kernel)
theorem fl_X6_9 : Cond.fieldLink RX6 9 (TX6 0).1 (TX6 0).2.1 (TX6 0).2.2.1 ∈ wsL := in_T 190 (by decide +kernel) (by decide +kernel)
theorem fl_X8_143 : Cond.fieldLink RX8 143 (TX6 0).1 (TX6 0).2.1 (TX6 0).2.2.1 ∈ wsL := in_T 191 (by decide +kernel) (by decide +kernel)
theorem fl_X6_15 : Cond.fieldLink RX6 15 (TX6 1).1 (TX6 1).2.1 (TX6 1).2.2.1 ∈ wsL := in_T 192 (by decide +kernel) (by decide +kernel)
theorem fl_X8_140 : Cond.fieldLink RX8 140 (TX6 1).1 (TX6 1).2.1 (TX6 1).2.2.1 ∈ wsL := in_T 193 (by decide +kernel) (by decide +kernel)
theorem fl_X8_10 : Cond.fieldLink RX8 10 (TX8 0).1 (TX8 0).2.1 (TX8 0).2.2.1 ∈ wsL := in_T 201 (by decide +kernel) (by decide +kernel)
theorem fl_X8_18 : Cond.fieldLink RX8 18 (TX8 1).1 (TX8 1).2.1 (TX8 1).2.2.1 ∈ wsL := in_T 202 (by decide +kernel) (by decide +kernel)
theorem fl_X8_28 : Cond.fieldLink RX8 28 (TX8 2).1 (TX8 2).2.1 (TX8 2).2.2.1 ∈ wsL := in_T 203 (by decide +kernel) (by decide +kernel)
theorem fl_X8_35 : Cond.fieldLink RX8 35 (TX8 3).1 (TX8 3).2.1 (TX8 3).2.2.1 ∈ wsL := in_T 204 (by decide +kernel) (by decide +kernel)
theorem fl_X8_39 : Cond.fieldLink RX8 39 (TX8 4).1 (TX8 4).2.1 (TX8 4).2.2.1 ∈ wsL := in_T 205 (by decide +kernel) (by decide +kernel)
theorem fl_X8_45 : Cond.fieldLink RX8 45 (TX8 5).1 (TX8 5).2.1 (TX8 5).2.2.1 ∈ wsL := in_T 206 (by decide +kernel) (by decide +kernel)
theorem fl_X8_52 : Cond.fieldLink RX8 52 (TX8 6).1 (TX8 6).2.1 (TX8 6).2.2.1 ∈ wsL := in_T 207 (by decide +kernel) (by decide +kernel)
theorem fl_X8_56 : Cond.fieldLink RX8 56 (TX8 7).1 (TX8 7).2.1 (TX8 7).2.2.1 ∈ wsL := in_T 208 (by decide +kernel) (by decide +kernel)
theorem fl_X8_82 : Cond.fieldLink RX8 82 (TX8 8).1 (TX8 8).2.1 (TX8 8).2.2.1 ∈ wsL := in_T 209 (by decide +kernel) (by decide +kernel)
theorem fl_X8_60 : Cond.fieldLink RX8 60 (TX8 9).1 (TX8 9).2.1 (TX8 9).2.2.1 ∈ wsL := in_T 210 (by decide +kernel) (by decide +kernel)
theorem fl_X8_186 : Cond.fieldLink RX8 186 (TX8 10).1 (TX8 10).2.1 (TX8 10).2.2.1 ∈ wsL := in_T 211 (by decide +kernel) (by decide +kernel)
theorem fl_X8_190 : Cond.fieldLink RX8 190 (TX8 11).1 (TX8 11).2.1 (TX8 11).2.2.1 ∈ wsL := in_T 212 (by decide +kernel) (by decide +kernel)
theorem fl_X9_72 : Cond.fieldLink RX9 72 (TX9 0).1 (TX9 0).2.1 (TX9 0).2.2.1 ∈ wsL := in_T 522 (by decide +kernel) (by decide +kernel)
theorem fl_X9_7 : Cond.fieldLink RX9 7 (TX9 1).1 (TX9 1).2.1 (TX9 1).2.2.1 ∈ wsL := in_T 523 (by decide +kernel) (by decide +kernel)
theorem fl_X9_13 : Cond.fieldLink RX9 13 (TX9 2).1 (TX9 2).2.1 (TX9 2).2.2.1 ∈ wsL := in_T 524 (by decide +kernel) (by decide +kernel)
theorem fl_X9_16 : Cond.fieldLink RX9 16 (TX9 3).1 (TX9 3).2.1 (TX9 3).2.2.1 ∈ wsL := in_T 525 (by decide +kernel) (by decide +kernel)
theorem fl_X9_79 : Cond.fieldLink RX9 79 (TX9 4).1 (TX9 4).2.1 (TX9 4).2.2.1 ∈ wsL := in_T 526 (by decide +kernel) (by decide +kernel)
theorem fl_X9_19 : Cond.fieldLink RX9 19 (TX9 5).1 (TX9 5).2.1 (TX9 5).2.2.1 ∈ wsL := in_T 527 (by decide +kernel) (by decide +kernel)
theorem fl_X9_22 : Cond.fieldLink RX9 22 (TX9 6).1 (TX9 6).2.1 (TX9 6).2.2.1 ∈ wsL := in_T 528 (by decide +kernel) (by decide +kernel)
theorem fl_X9_25 : Cond.fieldLink RX9 25 (TX9 7).1 (TX9 7).2.1 (TX9 7).2.2.1 ∈ wsL := in_T 529 (by decide +kernel) (by decide +kernel)
theorem fl_X9_29 : Cond.fieldLink RX9 29 (TX9 8).1 (TX9 8).2.1 (TX9 8).2.2.1 ∈ wsL := in_T 530 (by decide +kernel) (by decide +kernel)
theorem fl_X9_32 : Cond.fieldLink RX9 32 (TX9 9).1 (TX9 9).2.1 (TX9 9).2.2.1 ∈ wsL := in_T 531 (by decide +kernel) (by decide +kernel)
theorem fl_X9_35 : Cond.fieldLink RX9 35 (TX9 10).1 (TX9 10).2.1 (TX9 10).2.2.1 ∈ wsL := in_T 532 (by decide +kernel) (by decide +kernel)
theorem fl_X9_38 : Cond.fieldLink RX9 38 (TX9 11).1 (TX9 11).2.1 (TX9 11).2.2.1 ∈ wsL := in_T 533 (by decide +kernel) (by decide +kernel)
theorem fl_X9_41 : Cond.fieldLink RX9 41 (TX9 12).1 (TX9 12).2.1 (TX9 12).2.2.1 ∈ wsL := in_T 534 (by decide +kernel) (by decide +kernel)
theorem fl_X9_44 : Cond.fieldLink RX9 44 (TX9 13).1 (TX9 13).2.1 (TX9 13).2.2.1 ∈ wsL := in_T 535 (by decide +kernel) (by decide +kernel)
theorem fl_X9_47 : Cond.fieldLink RX9 47 (TX9 14).1 (TX9 14).2.1 (TX9 14).2.2.1 ∈ wsL := in_T 536 (by decide +kernel) (by decide +kernel)
theorem fl_X9_97 : Cond.fieldLink RX9 97 (TX9 15).1 (TX9 15).2.1 (TX9 15).2.2.1 ∈ wsL := in_T 537 (by decide +kernel) (by decide +kernel)
theorem fl_X9_50 : Cond.fieldLink RX9 50 (TX9 16).1 (TX9 16).2.1 (TX9 16).2.2.1 ∈ wsL := in_T 538 (by decide +kernel) (by decide +kernel)
theorem fl_X9_131 : Cond.fieldLink RX9 131 (TX9 17).1 (TX9 17).2.1 (TX9 17).2.2.1 ∈ wsL := in_T 539 (by decide +kernel) (by decide +kernel)
theorem fl_X9_134 : Cond.fieldLink RX9 134 (TX9 18).1 (TX9 18).2.1 (TX9 18).2.2.1 ∈ wsL := in_T 540 (by decide +kernel) (by decide +kernel)
theorem fl_X9_137 : Cond.fieldLink RX9 137 (TX9 19).1 (TX9 19).2.1 (TX9 19).2.2.1 ∈ wsL := in_T 541 (by decide +kernel) (by decide +kernel)
theorem fl_X9_53 : Cond.fieldLink RX9 53 (TX9 20).1 (TX9 20).2.1 (TX9 20).2.2.1 ∈ wsL := in_T 542 (by decide +kernel) (by decide +kernel)
theorem fl_X9_57 : Cond.fieldLink RX9 57 (TX9 21).1 (TX9 21).2.1 (TX9 21).2.2.1 ∈ wsL := in_T 543 (by decide +kernel) (by decide +kernel)
theorem fl_X9_60 : Cond.fieldLink RX9 60 (TX9 22).1 (TX9 22).2.1 (TX9 22).2.2.1 ∈ wsL := in_T 544 (by decide +kernel) (by decide +kernel)
theorem fl_X9_63 : Cond.fieldLink RX9 63 (TX9 23).1 (TX9 23).2.1 (TX9 23).2.2.1 ∈ wsL := in_T 545 (by decide +kernel) (by decide +kernel)
theorem fl_X9_66 : Cond.fieldLink RX9 66 (TX9 24).1 (TX9 24).2.1 (TX9 24).2.2.1 ∈ wsL := in_T 546 (by decide +kernel) (by decide +kernel)
theorem fl_X9_69 : Cond.fieldLink RX9 69 (TX9 25).1 (TX9 25).2.1 (TX9 25).2.2.1 ∈ wsL := in_T 547 (by decide +kernel) (by decide +kernel)
theorem wi_L : Cond.initialized RL ∈ wsL := in_T 0 (by decide +kernel) (by decide +kernel)
theorem wi_X8 : Cond.initialized RX8 ∈ wsL := in_T 1 (by decide +kernel) (by decide +kernel)
theorem wi_X0 : Cond.initialized RX0 ∈ wsL := in_T 2 (by decide +kernel) (by decide +kernel)
theorem wi_X2 : Cond.initialized RX2 ∈ wsL := in_T 3 (by decide +kernel) (by decide +kernel)
theorem wi_X3 : Cond.initialized RX3 ∈ wsL := in_T 4 (by decide +kernel) (by decide +kernel)
theorem wi_X7 : Cond.initialized RX7 ∈ wsL := in_T 5 (by decide +kernel) (by decide +kernel)
theorem wi_X1 : Cond.initialized RX1 ∈ wsL := in_T 6 (by decide +kernel) (by decide +kernel)
theorem wi_X4 : Cond.initialized RX4 ∈ wsL := in_T 7 (by decide +kernel) (by decide +kernel)
theorem wi_X5 : Cond.initialized RX5 ∈ wsL := in_T 8 (by decide +kernel) (by decide +kernel)
theorem wi_X6 : Cond.initialized RX6 ∈ wsL := in_T 9 (by decide +kernel) (by decide +kernel)
theorem wi_X9 : Cond.initialized RX9 ∈ wsL := in_T 10 (by decide +kernel) (by decide +kernel)
theorem wi_J9 : Cond.initialized RJ9 ∈ wsL := in_T 11 (by decide +kernel) (by decide +kernel)
theorem wi_J6 : Cond.initialized RJ6 ∈ wsL := in_T 12 (by decide +kernel) (by decide +kernel)
theorem wc_X0_init : Cond.code yX0_init cX0_init 1 none ∈ wsL := in_T 25 (by decide +kernel) (by decide +kernel)
theorem wm_X0_init : Cond.instanceMethod yX0_init ∈ wsL := in_T 24 (by decide +kernel) (by decide +kernel)
theorem wc_X0_enter : Cond.code yX0_enter cX0_enter 4 (some .int) ∈ wsL := in_T 248 (by decide +kernel) (by decide +kernel)
theorem wm_X0_enter : Cond.instanceMethod yX0_enter ∈ wsL := in_T 246 (by decide +kernel) (by decide +kernel)
theorem ws_X0_enter : Cond.selects yX0_enter.cls yX0_enter yX0_enter ∈ wsL := in_T 247 (by decide +kernel) (by decide +kernel)
theorem wc_X0_isPlayedAhead : Cond.code yX0_isPlayedAhead cX0_isPlayedAhead 3 (some .boolean) ∈ wsL := in_T 335 (by decide +kernel) (by decide +kernel)
theorem wm_X0_isPlayedAhead : Cond.instanceMethod yX0_isPlayedAhead ∈ wsL := in_T 333 (by decide +kernel) (by decide +kernel)
theorem ws_X0_isPlayedAhead : Cond.selects yX0_isPlayedAhead.cls yX0_isPlayedAhead yX0_isPlayedAhead ∈ wsL := in_T 334 (by decide +kernel) (by decide +kernel)
theorem wc_X1_init : Cond.code yX1_init cX1_init 2 none ∈ wsL := in_T 112 (by decide +kernel) (by decide +kernel)
theorem wm_X1_init : Cond.instanceMethod yX1_init ∈ wsL := in_T 111 (by decide +kernel) (by decide +kernel)
theorem wc_X1_enter : Cond.code yX1_enter cX1_enter 4 none ∈ wsL := in_T 369 (by decide +kernel) (by decide +kernel)
theorem wm_X1_enter : Cond.instanceMethod yX1_enter ∈ wsL := in_T 367 (by decide +kernel) (by decide +kernel)
theorem ws_X1_enter : Cond.selects yX1_enter.cls yX1_enter yX1_enter ∈ wsL := in_T 368 (by decide +kernel) (by decide +kernel)
theorem wc_X1_hasTablesOf : Cond.code yX1_hasTablesOf cX1_hasTablesOf 5 (some .boolean) ∈ wsL := in_T 503 (by decide +kernel) (by decide +kernel)
theorem wm_X1_hasTablesOf : Cond.instanceMethod yX1_hasTablesOf ∈ wsL := in_T 501 (by decide +kernel) (by decide +kernel)
theorem ws_X1_hasTablesOf : Cond.selects yX1_hasTablesOf.cls yX1_hasTablesOf yX1_hasTablesOf ∈ wsL := in_T 502 (by decide +kernel) (by decide +kernel)
theorem wc_X2_init : Cond.code yX2_init cX2_init 1 none ∈ wsL := in_T 51 (by decide +kernel) (by decide +kernel)
theorem wm_X2_init : Cond.instanceMethod yX2_init ∈ wsL := in_T 50 (by decide +kernel) (by decide +kernel)
theorem wc_X2_append : Cond.code yX2_append cX2_append 2 (some .int) ∈ wsL := in_T 276 (by decide +kernel) (by decide +kernel)
theorem wm_X2_append : Cond.instanceMethod yX2_append ∈ wsL := in_T 274 (by decide +kernel) (by decide +kernel)
theorem ws_X2_append : Cond.selects yX2_append.cls yX2_append yX2_append ∈ wsL := in_T 275 (by decide +kernel) (by decide +kernel)
theorem wc_X2_takeOut : Cond.code yX2_takeOut cX2_takeOut 4 (some .int) ∈ wsL := in_T 288 (by decide +kernel) (by decide +kernel)
theorem wm_X2_takeOut : Cond.instanceMethod yX2_takeOut ∈ wsL := in_T 286 (by decide +kernel) (by decide +kernel)
theorem ws_X2_takeOut : Cond.selects yX2_takeOut.cls yX2_takeOut yX2_takeOut ∈ wsL := in_T 287 (by decide +kernel) (by decide +kernel)
theorem wc_X2_exchange : Cond.code yX2_exchange cX2_exchange 4 none ∈ wsL := in_T 296 (by decide +kernel) (by decide +kernel)
theorem wm_X2_exchange : Cond.instanceMethod yX2_exchange ∈ wsL := in_T 294 (by decide +kernel) (by decide +kernel)
theorem ws_X2_exchange : Cond.selects yX2_exchange.cls yX2_exchange yX2_exchange ∈ wsL := in_T 295 (by decide +kernel) (by decide +kernel)
theorem wc_X2_firstPlaceOf : Cond.code yX2_firstPlaceOf cX2_firstPlaceOf 3 (some .int) ∈ wsL := in_T 471 (by decide +kernel) (by decide +kernel)
theorem wm_X2_firstPlaceOf : Cond.instanceMethod yX2_firstPlaceOf ∈ wsL := in_T 469 (by decide +kernel) (by decide +kernel)
theorem ws_X2_firstPlaceOf : Cond.selects yX2_firstPlaceOf.cls yX2_firstPlaceOf yX2_firstPlaceOf ∈ wsL := in_T 470 (by decide +kernel) (by decide +kernel)
theorem wc_X3_init : Cond.code yX3_init cX3_init 2 none ∈ wsL := in_T 68 (by decide +kernel) (by decide +kernel)
theorem wm_X3_init : Cond.instanceMethod yX3_init ∈ wsL := in_T 67 (by decide +kernel) (by decide +kernel)
theorem wc_X3_resultOf : Cond.code yX3_resultOf cX3_resultOf 5 (some .int) ∈ wsL := in_T 347 (by decide +kernel) (by decide +kernel)
theorem wm_X3_resultOf : Cond.instanceMethod yX3_resultOf ∈ wsL := in_T 345 (by decide +kernel) (by decide +kernel)
theorem ws_X3_resultOf : Cond.selects yX3_resultOf.cls yX3_resultOf yX3_resultOf ∈ wsL := in_T 346 (by decide +kernel) (by decide +kernel)
theorem wc_X4_init : Cond.code yX4_init cX4_init 1 none ∈ wsL := in_T 122 (by decide +kernel) (by decide +kernel)
theorem wm_X4_init : Cond.instanceMethod yX4_init ∈ wsL := in_T 121 (by decide +kernel) (by decide +kernel)
theorem wc_X4_find : Cond.code yX4_find cX4_find 7 none ∈ wsL := in_T 407 (by decide +kernel) (by decide +kernel)
theorem wm_X4_find : Cond.instanceMethod yX4_find ∈ wsL := in_T 405 (by decide +kernel) (by decide +kernel)
theorem ws_X4_find : Cond.selects yX4_find.cls yX4_find yX4_find ∈ wsL := in_T 406 (by decide +kernel) (by decide +kernel)
theorem wc_X4_isWithin : Cond.code yX4_isWithin cX4_isWithin 4 (some .boolean) ∈ wsL := in_T 507 (by decide +kernel) (by decide +kernel)
theorem wm_X4_isWithin : Cond.instanceMethod yX4_isWithin ∈ wsL := in_T 505 (by decide +kernel) (by decide +kernel)
theorem ws_X4_isWithin : Cond.selects yX4_isWithin.cls yX4_isWithin yX4_isWithin ∈ wsL := in_T 506 (by decide +kernel) (by decide +kernel)
theorem wc_X4_findMinors : Cond.code yX4_findMinors cX4_findMinors 6 none ∈ wsL := in_T 411 (by decide +kernel) (by decide +kernel)
theorem wm_X4_findMinors : Cond.instanceMethod yX4_findMinors ∈ wsL := in_T 410 (by decide +kernel) (by decide +kernel)
theorem ws_X4_findMinors : Cond.selects yX4_findMinors.cls yX4_findMinors yX4_findMinors ∈ wsL := in_S 13 (by decide +kernel) (by decide +kernel)
theorem wc_X4_minorOf : Cond.code yX4_minorOf cX4_minorOf 9 (some .int) ∈ wsL := in_T 421 (by decide +kernel) (by decide +kernel)
theorem wm_X4_minorOf : Cond.instanceMethod yX4_minorOf ∈ wsL := in_T 420 (by decide +kernel) (by decide +kernel)
theorem ws_X4_minorOf : Cond.selects yX4_minorOf.cls yX4_minorOf yX4_minorOf ∈ wsL := in_S 14 (by decide +kernel) (by decide +kernel)
theorem wc_X4_leastOf : Cond.code yX4_leastOf cX4_leastOf 3 (some .int) ∈ wsL := in_T 425 (by decide +kernel) (by decide +kernel)
theorem wm_X4_leastOf : Cond.instanceMethod yX4_leastOf ∈ wsL := in_T 424 (by decide +kernel) (by decide +kernel)
theorem ws_X4_leastOf : Cond.selects yX4_leastOf.cls yX4_leastOf yX4_leastOf ∈ wsL := in_S 15 (by decide +kernel) (by decide +kernel)
theorem wc_X4_isIn : Cond.code yX4_isIn cX4_isIn 2 (some .boolean) ∈ wsL := in_T 428 (by decide +kernel) (by decide +kernel)
theorem wt_X4_isIn : Cond.static yX4_isIn ∈ wsL := in_T 427 (by decide +kernel) (by decide +kernel)
theorem wc_X4_tryCorner : Cond.code yX4_tryCorner cX4_tryCorner 7 (some .boolean) ∈ wsL := in_T 432 (by decide +kernel) (by decide +kernel)
theorem wm_X4_tryCorner : Cond.instanceMethod yX4_tryCorner ∈ wsL := in_T 431 (by decide +kernel) (by decide +kernel)
theorem ws_X4_tryCorner : Cond.selects yX4_tryCorner.cls yX4_tryCorner yX4_tryCorner ∈ wsL := in_S 16 (by decide +kernel) (by decide +kernel)
theorem wc_X4_turnSigns : Cond.code yX4_turnSigns cX4_turnSigns 2 none ∈ wsL := in_T 436 (by decide +kernel) (by decide +kernel)
theorem wm_X4_turnSigns : Cond.instanceMethod yX4_turnSigns ∈ wsL := in_T 435 (by decide +kernel) (by decide +kernel)
theorem ws_X4_turnSigns : Cond.selects yX4_turnSigns.cls yX4_turnSigns yX4_turnSigns ∈ wsL := in_S 17 (by decide +kernel) (by decide +kernel)
theorem wc_X4_isHolding : Cond.code yX4_isHolding cX4_isHolding 5 (some .boolean) ∈ wsL := in_T 440 (by decide +kernel) (by decide +kernel)
theorem wm_X4_isHolding : Cond.instanceMethod yX4_isHolding ∈ wsL := in_T 439 (by decide +kernel) (by decide +kernel)
theorem ws_X4_isHolding : Cond.selects yX4_isHolding.cls yX4_isHolding yX4_isHolding ∈ wsL := in_S 18 (by decide +kernel) (by decide +kernel)
theorem wc_X4_isGreater : Cond.code yX4_isGreater cX4_isGreater 3 (some .boolean) ∈ wsL := in_T 444 (by decide +kernel) (by decide +kernel)
theorem wm_X4_isGreater : Cond.instanceMethod yX4_isGreater ∈ wsL := in_T 443 (by decide +kernel) (by decide +kernel)
theorem ws_X4_isGreater : Cond.selects yX4_isGreater.cls yX4_isGreater yX4_isGreater ∈ wsL := in_S 19 (by decide +kernel) (by decide +kernel)
theorem wc_X4_takeTried : Cond.code yX4_takeTried cX4_takeTried 2 none ∈ wsL := in_T 448 (by decide +kernel) (by decide +kernel)
theorem wm_X4_takeTried : Cond.instanceMethod yX4_takeTried ∈ wsL := in_T 447 (by decide +kernel) (by decide +kernel)
theorem ws_X4_takeTried : Cond.selects yX4_takeTried.cls yX4_takeTried yX4_takeTried ∈ wsL := in_S 20 (by decide +kernel) (by decide +kernel)
theorem wc_X5_init : Cond.code yX5_init cX5_init 1 none ∈ wsL := in_T 148 (by decide +kernel) (by decide +kernel)
theorem wm_X5_init : Cond.instanceMethod yX5_init ∈ wsL := in_T 147 (by decide +kernel) (by decide +kernel)
theorem wc_X5_lay : Cond.code yX5_lay cX5_lay 5 none ∈ wsL := in_T 316 (by decide +kernel) (by decide +kernel)
theorem wm_X5_lay : Cond.instanceMethod yX5_lay ∈ wsL := in_T 314 (by decide +kernel) (by decide +kernel)
theorem ws_X5_lay : Cond.selects yX5_lay.cls yX5_lay yX5_lay ∈ wsL := in_T 315 (by decide +kernel) (by decide +kernel)
theorem wc_X5_draw : Cond.code yX5_draw cX5_draw 3 none ∈ wsL := in_T 320 (by decide +kernel) (by decide +kernel)
theorem wm_X5_draw : Cond.instanceMethod yX5_draw ∈ wsL := in_T 319 (by decide +kernel) (by decide +kernel)
theorem ws_X5_draw : Cond.selects yX5_draw.cls yX5_draw yX5_draw ∈ wsL := in_S 5 (by decide +kernel) (by decide +kernel)
theorem wc_X5_playHand : Cond.code yX5_playHand cX5_playHand 6 none ∈ wsL := in_T 327 (by decide +kernel) (by decide +kernel)
theorem wm_X5_playHand : Cond.instanceMethod yX5_playHand ∈ wsL := in_T 326 (by decide +kernel) (by decide +kernel)
theorem ws_X5_playHand : Cond.selects yX5_playHand.cls yX5_playHand yX5_playHand ∈ wsL := in_S 6 (by decide +kernel) (by decide +kernel)
theorem wc_X5_nextPlace : Cond.code yX5_nextPlace cX5_nextPlace 5 (some .int) ∈ wsL := in_T 331 (by decide +kernel) (by decide +kernel)
theorem wm_X5_nextPlace : Cond.instanceMethod yX5_nextPlace ∈ wsL := in_T 330 (by decide +kernel) (by decide +kernel)
theorem ws_X5_nextPlace : Cond.selects yX5_nextPlace.cls yX5_nextPlace yX5_nextPlace ∈ wsL := in_S 7 (by decide +kernel) (by decide +kernel)
theorem wc_X5_putDown : Cond.code yX5_putDown cX5_putDown 2 none ∈ wsL := in_T 339 (by decide +kernel) (by decide +kernel)
theorem wm_X5_putDown : Cond.instanceMethod yX5_putDown ∈ wsL := in_T 338 (by decide +kernel) (by decide +kernel)
theorem ws_X5_putDown : Cond.selects yX5_putDown.cls yX5_putDown yX5_putDown ∈ wsL := in_S 8 (by decide +kernel) (by decide +kernel)
theorem wc_X6_init : Cond.code yX6_init cX6_init 1 none ∈ wsL := in_T 188 (by decide +kernel) (by decide +kernel)
theorem wm_X6_init : Cond.instanceMethod yX6_init ∈ wsL := in_T 187 (by decide +kernel) (by decide +kernel)
theorem wc_X6_find : Cond.code yX6_find cX6_find 5 none ∈ wsL := in_T 373 (by decide +kernel) (by decide +kernel)
theorem wm_X6_find : Cond.instanceMethod yX6_find ∈ wsL := in_T 371 (by decide +kernel) (by decide +kernel)
theorem ws_X6_find : Cond.selects yX6_find.cls yX6_find yX6_find ∈ wsL := in_T 372 (by decide +kernel) (by decide +kernel)
theorem wc_X6_findThird : Cond.code yX6_findThird cX6_findThird 6 none ∈ wsL := in_T 377 (by decide +kernel) (by decide +kernel)
theorem wm_X6_findThird : Cond.instanceMethod yX6_findThird ∈ wsL := in_T 376 (by decide +kernel) (by decide +kernel)
theorem ws_X6_findThird : Cond.selects yX6_findThird.cls yX6_findThird yX6_findThird ∈ wsL := in_S 11 (by decide +kernel) (by decide +kernel)
theorem wc_X7_init : Cond.code yX7_init cX7_init 1 none ∈ wsL := in_T 74 (by decide +kernel) (by decide +kernel)
theorem wm_X7_init : Cond.instanceMethod yX7_init ∈ wsL := in_T 73 (by decide +kernel) (by decide +kernel)
theorem wc_X7_begin : Cond.code yX7_begin cX7_begin 2 none ∈ wsL := in_T 351 (by decide +kernel) (by decide +kernel)
theorem wm_X7_begin : Cond.instanceMethod yX7_begin ∈ wsL := in_T 349 (by decide +kernel) (by decide +kernel)
theorem ws_X7_begin : Cond.selects yX7_begin.cls yX7_begin yX7_begin ∈ wsL := in_T 350 (by decide +kernel) (by decide +kernel)
theorem wc_X7_defeats : Cond.code yX7_defeats cX7_defeats 7 (some .boolean) ∈ wsL := in_T 355 (by decide +kernel) (by decide +kernel)
theorem wm_X7_defeats : Cond.instanceMethod yX7_defeats ∈ wsL := in_T 353 (by decide +kernel) (by decide +kernel)
theorem ws_X7_defeats : Cond.selects yX7_defeats.cls yX7_defeats yX7_defeats ∈ wsL := in_T 354 (by decide +kernel) (by decide +kernel)
theorem wc_X7_put : Cond.code yX7_put cX7_put 4 none ∈ wsL := in_T 362 (by decide +kernel) (by decide +kernel)
theorem wm_X7_put : Cond.instanceMethod yX7_put ∈ wsL := in_T 361 (by decide +kernel) (by decide +kernel)
theorem ws_X7_put : Cond.selects yX7_put.cls yX7_put yX7_put ∈ wsL := in_S 10 (by decide +kernel) (by decide +kernel)
theorem wc_X8_init : Cond.code yX8_init cX8_init 2 none ∈ wsL := in_T 17 (by decide +kernel) (by decide +kernel)
theorem wm_X8_init : Cond.instanceMethod yX8_init ∈ wsL := in_T 16 (by decide +kernel) (by decide +kernel)
theorem wc_X8_card : Cond.code yX8_card cX8_card 4 (some .int) ∈ wsL := in_T 241 (by decide +kernel) (by decide +kernel)
theorem wm_X8_card : Cond.instanceMethod yX8_card ∈ wsL := in_T 239 (by decide +kernel) (by decide +kernel)
theorem ws_X8_card : Cond.selects yX8_card.cls yX8_card yX8_card ∈ wsL := in_T 240 (by decide +kernel) (by decide +kernel)
theorem wc_X8_power : Cond.code yX8_power cX8_power 4 (some .int) ∈ wsL := in_T 252 (by decide +kernel) (by decide +kernel)
theorem wm_X8_power : Cond.instanceMethod yX8_power ∈ wsL := in_T 250 (by decide +kernel) (by decide +kernel)
theorem ws_X8_power : Cond.selects yX8_power.cls yX8_power yX8_power ∈ wsL := in_T 251 (by decide +kernel) (by decide +kernel)
theorem wc_X8_deck : Cond.code yX8_deck cX8_deck 1 (some .int) ∈ wsL := in_T 264 (by decide +kernel) (by decide +kernel)
theorem wm_X8_deck : Cond.instanceMethod yX8_deck ∈ wsL := in_T 262 (by decide +kernel) (by decide +kernel)
theorem ws_X8_deck : Cond.selects yX8_deck.cls yX8_deck yX8_deck ∈ wsL := in_T 263 (by decide +kernel) (by decide +kernel)
theorem wc_X8_add : Cond.code yX8_add cX8_add 3 (some .int) ∈ wsL := in_T 268 (by decide +kernel) (by decide +kernel)
theorem wm_X8_add : Cond.instanceMethod yX8_add ∈ wsL := in_T 266 (by decide +kernel) (by decide +kernel)
theorem ws_X8_add : Cond.selects yX8_add.cls yX8_add yX8_add ∈ wsL := in_T 267 (by decide +kernel) (by decide +kernel)
theorem wc_X8_drop : Cond.code yX8_drop cX8_drop 4 (some .int) ∈ wsL := in_T 280 (by decide +kernel) (by decide +kernel)
theorem wm_X8_drop : Cond.instanceMethod yX8_drop ∈ wsL := in_T 278 (by decide +kernel) (by decide +kernel)
theorem ws_X8_drop : Cond.selects yX8_drop.cls yX8_drop yX8_drop ∈ wsL := in_T 279 (by decide +kernel) (by decide +kernel)
theorem wc_X8_swap : Cond.code yX8_swap cX8_swap 4 (some .int) ∈ wsL := in_T 292 (by decide +kernel) (by decide +kernel)
theorem wm_X8_swap : Cond.instanceMethod yX8_swap ∈ wsL := in_T 290 (by decide +kernel) (by decide +kernel)
theorem ws_X8_swap : Cond.selects yX8_swap.cls yX8_swap yX8_swap ∈ wsL := in_T 291 (by decide +kernel) (by decide +kernel)
theorem wc_X8_at : Cond.code yX8_at cX8_at 3 (some .int) ∈ wsL := in_T 300 (by decide +kernel) (by decide +kernel)
theorem wm_X8_at : Cond.instanceMethod yX8_at ∈ wsL := in_T 298 (by decide +kernel) (by decide +kernel)
theorem ws_X8_at : Cond.selects yX8_at.cls yX8_at yX8_at ∈ wsL := in_T 299 (by decide +kernel) (by decide +kernel)
theorem wc_X8_life : Cond.code yX8_life cX8_life 3 (some .int) ∈ wsL := in_T 304 (by decide +kernel) (by decide +kernel)
theorem wm_X8_life : Cond.instanceMethod yX8_life ∈ wsL := in_T 302 (by decide +kernel) (by decide +kernel)
theorem ws_X8_life : Cond.selects yX8_life.cls yX8_life yX8_life ∈ wsL := in_T 303 (by decide +kernel) (by decide +kernel)
theorem wc_X8_play : Cond.code yX8_play cX8_play 3 (some .int) ∈ wsL := in_T 308 (by decide +kernel) (by decide +kernel)
theorem wm_X8_play : Cond.instanceMethod yX8_play ∈ wsL := in_T 306 (by decide +kernel) (by decide +kernel)
theorem ws_X8_play : Cond.selects yX8_play.cls yX8_play yX8_play ∈ wsL := in_T 307 (by decide +kernel) (by decide +kernel)
theorem wc_X8_told : Cond.code yX8_told cX8_told 4 (some .int) ∈ wsL := in_T 381 (by decide +kernel) (by decide +kernel)
theorem wm_X8_told : Cond.instanceMethod yX8_told ∈ wsL := in_T 379 (by decide +kernel) (by decide +kernel)
theorem ws_X8_told : Cond.selects yX8_told.cls yX8_told yX8_told ∈ wsL := in_T 380 (by decide +kernel) (by decide +kernel)
theorem wc_X8_table : Cond.code yX8_table cX8_table 3 (some .int) ∈ wsL := in_T 386 (by decide +kernel) (by decide +kernel)
theorem wm_X8_table : Cond.instanceMethod yX8_table ∈ wsL := in_T 384 (by decide +kernel) (by decide +kernel)
theorem ws_X8_table : Cond.selects yX8_table.cls yX8_table yX8_table ∈ wsL := in_T 385 (by decide +kernel) (by decide +kernel)
theorem wc_X8_rings : Cond.code yX8_rings cX8_rings 1 (some .int) ∈ wsL := in_T 390 (by decide +kernel) (by decide +kernel)
theorem wm_X8_rings : Cond.instanceMethod yX8_rings ∈ wsL := in_T 388 (by decide +kernel) (by decide +kernel)
theorem ws_X8_rings : Cond.selects yX8_rings.cls yX8_rings yX8_rings ∈ wsL := in_T 389 (by decide +kernel) (by decide +kernel)
theorem wc_X8_ring : Cond.code yX8_ring cX8_ring 3 (some .int) ∈ wsL := in_T 394 (by decide +kernel) (by decide +kernel)
theorem wm_X8_ring : Cond.instanceMethod yX8_ring ∈ wsL := in_T 392 (by decide +kernel) (by decide +kernel)
theorem ws_X8_ring : Cond.selects yX8_ring.cls yX8_ring yX8_ring ∈ wsL := in_T 393 (by decide +kernel) (by decide +kernel)
theorem wc_X8_share : Cond.code yX8_share cX8_share 6 (some .long) ∈ wsL := in_T 398 (by decide +kernel) (by decide +kernel)
theorem wm_X8_share : Cond.instanceMethod yX8_share ∈ wsL := in_T 396 (by decide +kernel) (by decide +kernel)
theorem ws_X8_share : Cond.selects yX8_share.cls yX8_share yX8_share ∈ wsL := in_T 397 (by decide +kernel) (by decide +kernel)
theorem wc_X8_live : Cond.code yX8_live cX8_live 3 (some .int) ∈ wsL := in_T 455 (by decide +kernel) (by decide +kernel)
theorem wm_X8_live : Cond.instanceMethod yX8_live ∈ wsL := in_T 453 (by decide +kernel) (by decide +kernel)
theorem ws_X8_live : Cond.selects yX8_live.cls yX8_live yX8_live ∈ wsL := in_T 454 (by decide +kernel) (by decide +kernel)
theorem wc_X8_standing : Cond.code yX8_standing cX8_standing 2 (some .int) ∈ wsL := in_T 459 (by decide +kernel) (by decide +kernel)
theorem wm_X8_standing : Cond.instanceMethod yX8_standing ∈ wsL := in_T 457 (by decide +kernel) (by decide +kernel)
theorem ws_X8_standing : Cond.selects yX8_standing.cls yX8_standing yX8_standing ∈ wsL := in_T 458 (by decide +kernel) (by decide +kernel)
theorem wc_X8_worth : Cond.code yX8_worth cX8_worth 3 (some .int) ∈ wsL := in_T 467 (by decide +kernel) (by decide +kernel)
theorem wm_X8_worth : Cond.instanceMethod yX8_worth ∈ wsL := in_T 465 (by decide +kernel) (by decide +kernel)
theorem ws_X8_worth : Cond.selects yX8_worth.cls yX8_worth yX8_worth ∈ wsL := in_T 466 (by decide +kernel) (by decide +kernel)
theorem wc_X8_idle : Cond.code yX8_idle cX8_idle 4 (some .int) ∈ wsL := in_T 479 (by decide +kernel) (by decide +kernel)
theorem wm_X8_idle : Cond.instanceMethod yX8_idle ∈ wsL := in_T 477 (by decide +kernel) (by decide +kernel)
theorem ws_X8_idle : Cond.selects yX8_idle.cls yX8_idle yX8_idle ∈ wsL := in_T 478 (by decide +kernel) (by decide +kernel)
theorem wc_X8_remedy : Cond.code yX8_remedy cX8_remedy 7 (some .int) ∈ wsL := in_T 483 (by decide +kernel) (by decide +kernel)
theorem wm_X8_remedy : Cond.instanceMethod yX8_remedy ∈ wsL := in_T 481 (by decide +kernel) (by decide +kernel)
theorem ws_X8_remedy : Cond.selects yX8_remedy.cls yX8_remedy yX8_remedy ∈ wsL := in_T 482 (by decide +kernel) (by decide +kernel)
theorem wc_X8_count : Cond.code yX8_count cX8_count 2 (some .int) ∈ wsL := in_T 511 (by decide +kernel) (by decide +kernel)
theorem wm_X8_count : Cond.instanceMethod yX8_count ∈ wsL := in_T 509 (by decide +kernel) (by decide +kernel)
theorem ws_X8_count : Cond.selects yX8_count.cls yX8_count yX8_count ∈ wsL := in_T 510 (by decide +kernel) (by decide +kernel)
theorem wc_X8_isOutside : Cond.code yX8_isOutside cX8_isOutside 3 (some .boolean) ∈ wsL := in_T 244 (by decide +kernel) (by decide +kernel)
theorem wt_X8_isOutside : Cond.static yX8_isOutside ∈ wsL := in_T 243 (by decide +kernel) (by decide +kernel)
theorem wc_X8_isNoCard : Cond.code yX8_isNoCard cX8_isNoCard 2 (some .boolean) ∈ wsL := in_T 256 (by decide +kernel) (by decide +kernel)
theorem wm_X8_isNoCard : Cond.instanceMethod yX8_isNoCard ∈ wsL := in_T 255 (by decide +kernel) (by decide +kernel)
theorem ws_X8_isNoCard : Cond.selects yX8_isNoCard.cls yX8_isNoCard yX8_isNoCard ∈ wsL := in_S 0 (by decide +kernel) (by decide +kernel)
theorem wc_X8_isNoDeck : Cond.code yX8_isNoDeck cX8_isNoDeck 2 (some .boolean) ∈ wsL := in_T 272 (by decide +kernel) (by decide +kernel)
theorem wm_X8_isNoDeck : Cond.instanceMethod yX8_isNoDeck ∈ wsL := in_T 271 (by decide +kernel) (by decide +kernel)
theorem ws_X8_isNoDeck : Cond.selects yX8_isNoDeck.cls yX8_isNoDeck yX8_isNoDeck ∈ wsL := in_S 2 (by decide +kernel) (by decide +kernel)
theorem wc_X8_isNoPlace : Cond.code yX8_isNoPlace cX8_isNoPlace 3 (some .boolean) ∈ wsL := in_T 284 (by decide +kernel) (by decide +kernel)
theorem wm_X8_isNoPlace : Cond.instanceMethod yX8_isNoPlace ∈ wsL := in_T 283 (by decide +kernel) (by decide +kernel)
theorem ws_X8_isNoPlace : Cond.selects yX8_isNoPlace.cls yX8_isNoPlace yX8_isNoPlace ∈ wsL := in_S 3 (by decide +kernel) (by decide +kernel)
theorem wc_X8_cardsInDecks : Cond.code yX8_cardsInDecks cX8_cardsInDecks 3 (some .int) ∈ wsL := in_T 515 (by decide +kernel) (by decide +kernel)
theorem wm_X8_cardsInDecks : Cond.instanceMethod yX8_cardsInDecks ∈ wsL := in_T 514 (by decide +kernel) (by decide +kernel)
theorem ws_X8_cardsInDecks : Cond.selects yX8_cardsInDecks.cls yX8_cardsInDecks yX8_cardsInDecks ∈ wsL := in_S 27 (by decide +kernel) (by decide +kernel)
theorem wc_X8_sumOf : Cond.code yX8_sumOf cX8_sumOf 4 (some .int) ∈ wsL := in_T 463 (by decide +kernel) (by decide +kernel)
theorem wm_X8_sumOf : Cond.instanceMethod yX8_sumOf ∈ wsL := in_T 462 (by decide +kernel) (by decide +kernel)
theorem ws_X8_sumOf : Cond.selects yX8_sumOf.cls yX8_sumOf yX8_sumOf ∈ wsL := in_S 21 (by decide +kernel) (by decide +kernel)
theorem wc_X8_greatestDivisor : Cond.code yX8_greatestDivisor cX8_greatestDivisor 6 (some .int) ∈ wsL := in_T 451 (by decide +kernel) (by decide +kernel)
theorem wt_X8_greatestDivisor : Cond.static yX8_greatestDivisor ∈ wsL := in_T 450 (by decide +kernel) (by decide +kernel)
theorem wc_X8_forgetTables : Cond.code yX8_forgetTables cX8_forgetTables 1 none ∈ wsL := in_T 260 (by decide +kernel) (by decide +kernel)
theorem wm_X8_forgetTables : Cond.instanceMethod yX8_forgetTables ∈ wsL := in_T 259 (by decide +kernel) (by decide +kernel)
theorem ws_X8_forgetTables : Cond.selects yX8_forgetTables.cls yX8_forgetTables yX8_forgetTables ∈ wsL := in_S 1 (by decide +kernel) (by decide +kernel)
theorem wc_X8_learnTables : Cond.code yX8_learnTables cX8_learnTables 3 none ∈ wsL := in_T 312 (by decide +kernel) (by decide +kernel)
theorem wm_X8_learnTables : Cond.instanceMethod yX8_learnTables ∈ wsL := in_T 311 (by decide +kernel) (by decide +kernel)
theorem ws_X8_learnTables : Cond.selects yX8_learnTables.cls yX8_learnTables yX8_learnTables ∈ wsL := in_S 4 (by decide +kernel) (by decide +kernel)
theorem wc_X8_learnMix : Cond.code yX8_learnMix cX8_learnMix 1 none ∈ wsL := in_T 403 (by decide +kernel) (by decide +kernel)
theorem wm_X8_learnMix : Cond.instanceMethod yX8_learnMix ∈ wsL := in_T 402 (by decide +kernel) (by decide +kernel)
theorem ws_X8_learnMix : Cond.selects yX8_learnMix.cls yX8_learnMix yX8_learnMix ∈ wsL := in_S 12 (by decide +kernel) (by decide +kernel)
theorem wc_X8_tableOf : Cond.code yX8_tableOf cX8_tableOf 3 (some .int) ∈ wsL := in_T 343 (by decide +kernel) (by decide +kernel)
theorem wm_X8_tableOf : Cond.instanceMethod yX8_tableOf ∈ wsL := in_T 342 (by decide +kernel) (by decide +kernel)
theorem ws_X8_tableOf : Cond.selects yX8_tableOf.cls yX8_tableOf yX8_tableOf ∈ wsL := in_S 9 (by decide +kernel) (by decide +kernel)
theorem wc_X8_learnTablesWithout : Cond.code yX8_learnTablesWithout cX8_learnTablesWithout 4 none ∈ wsL := in_T 475 (by decide +kernel) (by decide +kernel)
theorem wm_X8_learnTablesWithout : Cond.instanceMethod yX8_learnTablesWithout ∈ wsL := in_T 474 (by decide +kernel) (by decide +kernel)
theorem ws_X8_learnTablesWithout : Cond.selects yX8_learnTablesWithout.cls yX8_learnTablesWithout yX8_learnTablesWithout ∈ wsL := in_S 22 (by decide +kernel) (by decide +kernel)
theorem wc_X8_isMixWithin : Cond.code yX8_isMixWithin cX8_isMixWithin 6 (some .boolean) ∈ wsL := in_T 487 (by decide +kernel) (by decide +kernel)
theorem wm_X8_isMixWithin : Cond.instanceMethod yX8_isMixWithin ∈ wsL := in_T 486 (by decide +kernel) (by decide +kernel)
theorem ws_X8_isMixWithin : Cond.selects yX8_isMixWithin.cls yX8_isMixWithin yX8_isMixWithin ∈ wsL := in_S 23 (by decide +kernel) (by decide +kernel)
theorem wc_X8_learnTrialTables : Cond.code yX8_learnTrialTables cX8_learnTrialTables 5 none ∈ wsL := in_T 491 (by decide +kernel) (by decide +kernel)
theorem wm_X8_learnTrialTables : Cond.instanceMethod yX8_learnTrialTables ∈ wsL := in_T 490 (by decide +kernel) (by decide +kernel)
theorem ws_X8_learnTrialTables : Cond.selects yX8_learnTrialTables.cls yX8_learnTrialTables yX8_learnTrialTables ∈ wsL := in_S 24 (by decide +kernel) (by decide +kernel)
theorem wc_X8_trialPlan : Cond.code yX8_trialPlan cX8_trialPlan 3 (some (.object "DeckBalance$Plan")) ∈ wsL := in_T 499 (by decide +kernel) (by decide +kernel)
theorem wm_X8_trialPlan : Cond.instanceMethod yX8_trialPlan ∈ wsL := in_T 498 (by decide +kernel) (by decide +kernel)
theorem ws_X8_trialPlan : Cond.selects yX8_trialPlan.cls yX8_trialPlan yX8_trialPlan ∈ wsL := in_S 26 (by decide +kernel) (by decide +kernel)
theorem wc_X8_hasCard : Cond.code yX8_hasCard cX8_hasCard 3 (some .boolean) ∈ wsL := in_T 495 (by decide +kernel) (by decide +kernel)
theorem wm_X8_hasCard : Cond.instanceMethod yX8_hasCard ∈ wsL := in_T 494 (by decide +kernel) (by decide +kernel)
theorem ws_X8_hasCard : Cond.selects yX8_hasCard.cls yX8_hasCard yX8_hasCard ∈ wsL := in_S 25 (by decide +kernel) (by decide +kernel)
theorem wc_X9_init : Cond.code yX9_init cX9_init 1 none ∈ wsL := in_T 520 (by decide +kernel) (by decide +kernel)
theorem wm_X9_init : Cond.instanceMethod yX9_init ∈ wsL := in_T 519 (by decide +kernel) (by decide +kernel)
theorem wc_X9_in : Cond.code yX9_in cX9_in 3 (some .boolean) ∈ wsL := in_T 608 (by decide +kernel) (by decide +kernel)
theorem wt_X9_in : Cond.static yX9_in ∈ wsL := in_T 607 (by decide +kernel) (by decide +kernel)
theorem wc_X9_isCard : Cond.code yX9_isCard cX9_isCard 2 (some .boolean) ∈ wsL := in_T 616 (by decide +kernel) (by decide +kernel)
theorem wm_X9_isCard : Cond.instanceMethod yX9_isCard ∈ wsL := in_T 615 (by decide +kernel) (by decide +kernel)
theorem ws_X9_isCard : Cond.selects yX9_isCard.cls yX9_isCard yX9_isCard ∈ wsL := in_S 28 (by decide +kernel) (by decide +kernel)
theorem wc_X9_isDeck : Cond.code yX9_isDeck cX9_isDeck 2 (some .boolean) ∈ wsL := in_T 628 (by decide +kernel) (by decide +kernel)
theorem wm_X9_isDeck : Cond.instanceMethod yX9_isDeck ∈ wsL := in_T 627 (by decide +kernel) (by decide +kernel)
theorem ws_X9_isDeck : Cond.selects yX9_isDeck.cls yX9_isDeck yX9_isDeck ∈ wsL := in_S 29 (by decide +kernel) (by decide +kernel)
theorem wc_X9_card : Cond.code yX9_card cX9_card 4 (some .int) ∈ wsL := in_T 605 (by decide +kernel) (by decide +kernel)
theorem wm_X9_card : Cond.instanceMethod yX9_card ∈ wsL := in_T 603 (by decide +kernel) (by decide +kernel)
theorem ws_X9_card : Cond.selects yX9_card.cls yX9_card yX9_card ∈ wsL := in_T 604 (by decide +kernel) (by decide +kernel)
theorem wc_X9_power : Cond.code yX9_power cX9_power 4 (some .int) ∈ wsL := in_T 612 (by decide +kernel) (by decide +kernel)
theorem wm_X9_power : Cond.instanceMethod yX9_power ∈ wsL := in_T 610 (by decide +kernel) (by decide +kernel)
theorem ws_X9_power : Cond.selects yX9_power.cls yX9_power yX9_power ∈ wsL := in_T 611 (by decide +kernel) (by decide +kernel)
theorem wc_X9_deck : Cond.code yX9_deck cX9_deck 1 (some .int) ∈ wsL := in_T 620 (by decide +kernel) (by decide +kernel)
theorem wm_X9_deck : Cond.instanceMethod yX9_deck ∈ wsL := in_T 618 (by decide +kernel) (by decide +kernel)
theorem ws_X9_deck : Cond.selects yX9_deck.cls yX9_deck yX9_deck ∈ wsL := in_T 619 (by decide +kernel) (by decide +kernel)
theorem wc_X9_add : Cond.code yX9_add cX9_add 3 (some .int) ∈ wsL := in_T 624 (by decide +kernel) (by decide +kernel)
theorem wm_X9_add : Cond.instanceMethod yX9_add ∈ wsL := in_T 622 (by decide +kernel) (by decide +kernel)
theorem ws_X9_add : Cond.selects yX9_add.cls yX9_add yX9_add ∈ wsL := in_T 623 (by decide +kernel) (by decide +kernel)
theorem wc_X9_isPlace : Cond.code yX9_isPlace cX9_isPlace 3 (some .boolean) ∈ wsL := in_T 636 (by decide +kernel) (by decide +kernel)
theorem wm_X9_isPlace : Cond.instanceMethod yX9_isPlace ∈ wsL := in_T 635 (by decide +kernel) (by decide +kernel)
theorem ws_X9_isPlace : Cond.selects yX9_isPlace.cls yX9_isPlace yX9_isPlace ∈ wsL := in_S 30 (by decide +kernel) (by decide +kernel)
theorem wc_X9_dropAt : Cond.code yX9_dropAt cX9_dropAt 4 none ∈ wsL := in_T 640 (by decide +kernel) (by decide +kernel)
theorem wm_X9_dropAt : Cond.instanceMethod yX9_dropAt ∈ wsL := in_T 639 (by decide +kernel) (by decide +kernel)
theorem ws_X9_dropAt : Cond.selects yX9_dropAt.cls yX9_dropAt yX9_dropAt ∈ wsL := in_S 31 (by decide +kernel) (by decide +kernel)
theorem wc_X9_drop : Cond.code yX9_drop cX9_drop 4 (some .int) ∈ wsL := in_T 632 (by decide +kernel) (by decide +kernel)
theorem wm_X9_drop : Cond.instanceMethod yX9_drop ∈ wsL := in_T 630 (by decide +kernel) (by decide +kernel)
theorem ws_X9_drop : Cond.selects yX9_drop.cls yX9_drop yX9_drop ∈ wsL := in_T 631 (by decide +kernel) (by decide +kernel)
theorem wc_X9_swap : Cond.code yX9_swap cX9_swap 5 (some .int) ∈ wsL := in_T 644 (by decide +kernel) (by decide +kernel)
theorem wm_X9_swap : Cond.instanceMethod yX9_swap ∈ wsL := in_T 642 (by decide +kernel) (by decide +kernel)
theorem ws_X9_swap : Cond.selects yX9_swap.cls yX9_swap yX9_swap ∈ wsL := in_T 643 (by decide +kernel) (by decide +kernel)
theorem wc_X9_at : Cond.code yX9_at cX9_at 3 (some .int) ∈ wsL := in_T 648 (by decide +kernel) (by decide +kernel)
theorem wm_X9_at : Cond.instanceMethod yX9_at ∈ wsL := in_T 646 (by decide +kernel) (by decide +kernel)
theorem ws_X9_at : Cond.selects yX9_at.cls yX9_at yX9_at ∈ wsL := in_T 647 (by decide +kernel) (by decide +kernel)
theorem wc_X9_life : Cond.code yX9_life cX9_life 3 (some .int) ∈ wsL := in_T 652 (by decide +kernel) (by decide +kernel)
theorem wm_X9_life : Cond.instanceMethod yX9_life ∈ wsL := in_T 650 (by decide +kernel) (by decide +kernel)
theorem ws_X9_life : Cond.selects yX9_life.cls yX9_life yX9_life ∈ wsL := in_T 651 (by decide +kernel) (by decide +kernel)
theorem wc_X9_isOver : Cond.code yX9_isOver cX9_isOver 1 (some .boolean) ∈ wsL := in_T 668 (by decide +kernel) (by decide +kernel)
theorem wm_X9_isOver : Cond.instanceMethod yX9_isOver ∈ wsL := in_T 667 (by decide +kernel) (by decide +kernel)
theorem ws_X9_isOver : Cond.selects yX9_isOver.cls yX9_isOver yX9_isOver ∈ wsL := in_S 34 (by decide +kernel) (by decide +kernel)
theorem wc_X9_nextCard : Cond.code yX9_nextCard cX9_nextCard 6 (some .int) ∈ wsL := in_T 676 (by decide +kernel) (by decide +kernel)
theorem wm_X9_nextCard : Cond.instanceMethod yX9_nextCard ∈ wsL := in_T 675 (by decide +kernel) (by decide +kernel)
theorem ws_X9_nextCard : Cond.selects yX9_nextCard.cls yX9_nextCard yX9_nextCard ∈ wsL := in_S 36 (by decide +kernel) (by decide +kernel)
theorem wc_X9_playCard : Cond.code yX9_playCard cX9_playCard 3 none ∈ wsL := in_T 680 (by decide +kernel) (by decide +kernel)
theorem wm_X9_playCard : Cond.instanceMethod yX9_playCard ∈ wsL := in_T 679 (by decide +kernel) (by decide +kernel)
theorem ws_X9_playCard : Cond.selects yX9_playCard.cls yX9_playCard yX9_playCard ∈ wsL := in_S 37 (by decide +kernel) (by decide +kernel)
theorem wc_X9_move : Cond.code yX9_move cX9_move 6 none ∈ wsL := in_T 672 (by decide +kernel) (by decide +kernel)
theorem wm_X9_move : Cond.instanceMethod yX9_move ∈ wsL := in_T 671 (by decide +kernel) (by decide +kernel)
theorem ws_X9_move : Cond.selects yX9_move.cls yX9_move yX9_move ∈ wsL := in_S 35 (by decide +kernel) (by decide +kernel)
theorem wc_X9_game : Cond.code yX9_game cX9_game 4 none ∈ wsL := in_T 664 (by decide +kernel) (by decide +kernel)
theorem wm_X9_game : Cond.instanceMethod yX9_game ∈ wsL := in_T 663 (by decide +kernel) (by decide +kernel)
theorem ws_X9_game : Cond.selects yX9_game.cls yX9_game yX9_game ∈ wsL := in_S 33 (by decide +kernel) (by decide +kernel)
theorem wc_X9_result : Cond.code yX9_result cX9_result 3 (some .int) ∈ wsL := in_T 660 (by decide +kernel) (by decide +kernel)
theorem wm_X9_result : Cond.instanceMethod yX9_result ∈ wsL := in_T 659 (by decide +kernel) (by decide +kernel)
theorem ws_X9_result : Cond.selects yX9_result.cls yX9_result yX9_result ∈ wsL := in_S 32 (by decide +kernel) (by decide +kernel)
theorem wc_X9_play : Cond.code yX9_play cX9_play 3 (some .int) ∈ wsL := in_T 656 (by decide +kernel) (by decide +kernel)
theorem wm_X9_play : Cond.instanceMethod yX9_play ∈ wsL := in_T 654 (by decide +kernel) (by decide +kernel)
theorem ws_X9_play : Cond.selects yX9_play.cls yX9_play yX9_play ∈ wsL := in_T 655 (by decide +kernel) (by decide +kernel)
theorem wc_X9_told : Cond.code yX9_told cX9_told 4 (some .int) ∈ wsL := in_T 684 (by decide +kernel) (by decide +kernel)
theorem wm_X9_told : Cond.instanceMethod yX9_told ∈ wsL := in_T 682 (by decide +kernel) (by decide +kernel)
theorem ws_X9_told : Cond.selects yX9_told.cls yX9_told yX9_told ∈ wsL := in_T 683 (by decide +kernel) (by decide +kernel)
theorem wc_X9_tableOf : Cond.code yX9_tableOf cX9_tableOf 3 (some .int) ∈ wsL := in_T 693 (by decide +kernel) (by decide +kernel)
theorem wm_X9_tableOf : Cond.instanceMethod yX9_tableOf ∈ wsL := in_T 692 (by decide +kernel) (by decide +kernel)
theorem ws_X9_tableOf : Cond.selects yX9_tableOf.cls yX9_tableOf yX9_tableOf ∈ wsL := in_S 38 (by decide +kernel) (by decide +kernel)
theorem wc_X9_table : Cond.code yX9_table cX9_table 3 (some .int) ∈ wsL := in_T 689 (by decide +kernel) (by decide +kernel)
theorem wm_X9_table : Cond.instanceMethod yX9_table ∈ wsL := in_T 687 (by decide +kernel) (by decide +kernel)
theorem ws_X9_table : Cond.selects yX9_table.cls yX9_table yX9_table ∈ wsL := in_T 688 (by decide +kernel) (by decide +kernel)
theorem wc_X9_layTables : Cond.code yX9_layTables cX9_layTables 3 none ∈ wsL := in_T 705 (by decide +kernel) (by decide +kernel)
theorem wm_X9_layTables : Cond.instanceMethod yX9_layTables ∈ wsL := in_T 704 (by decide +kernel) (by decide +kernel)
theorem ws_X9_layTables : Cond.selects yX9_layTables.cls yX9_layTables yX9_layTables ∈ wsL := in_S 40 (by decide +kernel) (by decide +kernel)
theorem wc_X9_beats : Cond.code yX9_beats cX9_beats 3 (some .boolean) ∈ wsL := in_T 709 (by decide +kernel) (by decide +kernel)
theorem wm_X9_beats : Cond.instanceMethod yX9_beats ∈ wsL := in_T 708 (by decide +kernel) (by decide +kernel)
theorem ws_X9_beats : Cond.selects yX9_beats.cls yX9_beats yX9_beats ∈ wsL := in_S 41 (by decide +kernel) (by decide +kernel)
theorem wc_X9_findRings : Cond.code yX9_findRings cX9_findRings 6 (some .int) ∈ wsL := in_T 701 (by decide +kernel) (by decide +kernel)
theorem wm_X9_findRings : Cond.instanceMethod yX9_findRings ∈ wsL := in_T 700 (by decide +kernel) (by decide +kernel)
theorem ws_X9_findRings : Cond.selects yX9_findRings.cls yX9_findRings yX9_findRings ∈ wsL := in_S 39 (by decide +kernel) (by decide +kernel)
theorem wc_X9_rings : Cond.code yX9_rings cX9_rings 1 (some .int) ∈ wsL := in_T 697 (by decide +kernel) (by decide +kernel)
theorem wm_X9_rings : Cond.instanceMethod yX9_rings ∈ wsL := in_T 695 (by decide +kernel) (by decide +kernel)
theorem ws_X9_rings : Cond.selects yX9_rings.cls yX9_rings yX9_rings ∈ wsL := in_T 696 (by decide +kernel) (by decide +kernel)
theorem wc_X9_ring : Cond.code yX9_ring cX9_ring 3 (some .int) ∈ wsL := in_T 713 (by decide +kernel) (by decide +kernel)
theorem wm_X9_ring : Cond.instanceMethod yX9_ring ∈ wsL := in_T 711 (by decide +kernel) (by decide +kernel)
theorem ws_X9_ring : Cond.selects yX9_ring.cls yX9_ring yX9_ring ∈ wsL := in_T 712 (by decide +kernel) (by decide +kernel)
theorem wc_X9_divisor : Cond.code yX9_divisor cX9_divisor 10 (some .long) ∈ wsL := in_T 745 (by decide +kernel) (by decide +kernel)
theorem wt_X9_divisor : Cond.static yX9_divisor ∈ wsL := in_T 744 (by decide +kernel) (by decide +kernel)
theorem wc_X9_layBounds : Cond.code yX9_layBounds cX9_layBounds 5 none ∈ wsL := in_T 730 (by decide +kernel) (by decide +kernel)
theorem wm_X9_layBounds : Cond.instanceMethod yX9_layBounds ∈ wsL := in_T 729 (by decide +kernel) (by decide +kernel)
theorem ws_X9_layBounds : Cond.selects yX9_layBounds.cls yX9_layBounds yX9_layBounds ∈ wsL := in_S 43 (by decide +kernel) (by decide +kernel)
theorem wc_X9_changeRows : Cond.code yX9_changeRows cX9_changeRows 6 none ∈ wsL := in_T 738 (by decide +kernel) (by decide +kernel)
theorem wm_X9_changeRows : Cond.instanceMethod yX9_changeRows ∈ wsL := in_T 737 (by decide +kernel) (by decide +kernel)
theorem ws_X9_changeRows : Cond.selects yX9_changeRows.cls yX9_changeRows yX9_changeRows ∈ wsL := in_S 45 (by decide +kernel) (by decide +kernel)
theorem wc_X9_clearRow : Cond.code yX9_clearRow cX9_clearRow 11 none ∈ wsL := in_T 742 (by decide +kernel) (by decide +kernel)
theorem wm_X9_clearRow : Cond.instanceMethod yX9_clearRow ∈ wsL := in_T 741 (by decide +kernel) (by decide +kernel)
theorem ws_X9_clearRow : Cond.selects yX9_clearRow.cls yX9_clearRow yX9_clearRow ∈ wsL := in_S 46 (by decide +kernel) (by decide +kernel)
theorem wc_X9_solve : Cond.code yX9_solve cX9_solve 8 (some .boolean) ∈ wsL := in_T 734 (by decide +kernel) (by decide +kernel)
theorem wm_X9_solve : Cond.instanceMethod yX9_solve ∈ wsL := in_T 733 (by decide +kernel) (by decide +kernel)
theorem ws_X9_solve : Cond.selects yX9_solve.cls yX9_solve yX9_solve ∈ wsL := in_S 44 (by decide +kernel) (by decide +kernel)
theorem wc_X9_holds : Cond.code yX9_holds cX9_holds 8 (some .boolean) ∈ wsL := in_T 749 (by decide +kernel) (by decide +kernel)
theorem wm_X9_holds : Cond.instanceMethod yX9_holds ∈ wsL := in_T 748 (by decide +kernel) (by decide +kernel)
theorem ws_X9_holds : Cond.selects yX9_holds.cls yX9_holds yX9_holds ∈ wsL := in_S 47 (by decide +kernel) (by decide +kernel)
theorem wc_X9_isGreater : Cond.code yX9_isGreater cX9_isGreater 4 (some .boolean) ∈ wsL := in_T 753 (by decide +kernel) (by decide +kernel)
theorem wm_X9_isGreater : Cond.instanceMethod yX9_isGreater ∈ wsL := in_T 752 (by decide +kernel) (by decide +kernel)
theorem ws_X9_isGreater : Cond.selects yX9_isGreater.cls yX9_isGreater yX9_isGreater ∈ wsL := in_S 48 (by decide +kernel) (by decide +kernel)
theorem wc_X9_ones : Cond.code yX9_ones cX9_ones 3 (some .int) ∈ wsL := in_T 726 (by decide +kernel) (by decide +kernel)
theorem wt_X9_ones : Cond.static yX9_ones ∈ wsL := in_T 725 (by decide +kernel) (by decide +kernel)
theorem wc_X9_findMix : Cond.code yX9_findMix cX9_findMix 3 none ∈ wsL := in_T 722 (by decide +kernel) (by decide +kernel)
theorem wm_X9_findMix : Cond.instanceMethod yX9_findMix ∈ wsL := in_T 721 (by decide +kernel) (by decide +kernel)
theorem ws_X9_findMix : Cond.selects yX9_findMix.cls yX9_findMix yX9_findMix ∈ wsL := in_S 42 (by decide +kernel) (by decide +kernel)
theorem wc_X9_share : Cond.code yX9_share cX9_share 3 (some .long) ∈ wsL := in_T 717 (by decide +kernel) (by decide +kernel)
theorem wm_X9_share : Cond.instanceMethod yX9_share ∈ wsL := in_T 715 (by decide +kernel) (by decide +kernel)
theorem ws_X9_share : Cond.selects yX9_share.cls yX9_share yX9_share ∈ wsL := in_T 716 (by decide +kernel) (by decide +kernel)
theorem wc_X9_live : Cond.code yX9_live cX9_live 3 (some .int) ∈ wsL := in_T 757 (by decide +kernel) (by decide +kernel)
theorem wm_X9_live : Cond.instanceMethod yX9_live ∈ wsL := in_T 755 (by decide +kernel) (by decide +kernel)
theorem ws_X9_live : Cond.selects yX9_live.cls yX9_live yX9_live ∈ wsL := in_T 756 (by decide +kernel) (by decide +kernel)
theorem wc_X9_standingOf : Cond.code yX9_standingOf cX9_standingOf 4 (some .int) ∈ wsL := in_T 765 (by decide +kernel) (by decide +kernel)
theorem wm_X9_standingOf : Cond.instanceMethod yX9_standingOf ∈ wsL := in_T 764 (by decide +kernel) (by decide +kernel)
theorem ws_X9_standingOf : Cond.selects yX9_standingOf.cls yX9_standingOf yX9_standingOf ∈ wsL := in_S 49 (by decide +kernel) (by decide +kernel)
theorem wc_X9_standing : Cond.code yX9_standing cX9_standing 2 (some .int) ∈ wsL := in_T 761 (by decide +kernel) (by decide +kernel)
theorem wm_X9_standing : Cond.instanceMethod yX9_standing ∈ wsL := in_T 759 (by decide +kernel) (by decide +kernel)
theorem ws_X9_standing : Cond.selects yX9_standing.cls yX9_standing yX9_standing ∈ wsL := in_T 760 (by decide +kernel) (by decide +kernel)
theorem wc_X9_placeOf : Cond.code yX9_placeOf cX9_placeOf 4 (some .int) ∈ wsL := in_T 773 (by decide +kernel) (by decide +kernel)
theorem wm_X9_placeOf : Cond.instanceMethod yX9_placeOf ∈ wsL := in_T 772 (by decide +kernel) (by decide +kernel)
theorem ws_X9_placeOf : Cond.selects yX9_placeOf.cls yX9_placeOf yX9_placeOf ∈ wsL := in_S 50 (by decide +kernel) (by decide +kernel)
theorem wc_X9_putBack : Cond.code yX9_putBack cX9_putBack 5 none ∈ wsL := in_T 777 (by decide +kernel) (by decide +kernel)
theorem wm_X9_putBack : Cond.instanceMethod yX9_putBack ∈ wsL := in_T 776 (by decide +kernel) (by decide +kernel)
theorem ws_X9_putBack : Cond.selects yX9_putBack.cls yX9_putBack yX9_putBack ∈ wsL := in_S 51 (by decide +kernel) (by decide +kernel)
theorem wc_X9_worth : Cond.code yX9_worth cX9_worth 6 (some .int) ∈ wsL := in_T 769 (by decide +kernel) (by decide +kernel)
theorem wm_X9_worth : Cond.instanceMethod yX9_worth ∈ wsL := in_T 767 (by decide +kernel) (by decide +kernel)
theorem ws_X9_worth : Cond.selects yX9_worth.cls yX9_worth yX9_worth ∈ wsL := in_T 768 (by decide +kernel) (by decide +kernel)
theorem wc_X9_idle : Cond.code yX9_idle cX9_idle 6 (some .int) ∈ wsL := in_T 781 (by decide +kernel) (by decide +kernel)
theorem wm_X9_idle : Cond.instanceMethod yX9_idle ∈ wsL := in_T 779 (by decide +kernel) (by decide +kernel)
theorem ws_X9_idle : Cond.selects yX9_idle.cls yX9_idle yX9_idle ∈ wsL := in_T 780 (by decide +kernel) (by decide +kernel)
theorem wc_X9_isRemedied : Cond.code yX9_isRemedied cX9_isRemedied 5 (some .boolean) ∈ wsL := in_T 789 (by decide +kernel) (by decide +kernel)
theorem wm_X9_isRemedied : Cond.instanceMethod yX9_isRemedied ∈ wsL := in_T 788 (by decide +kernel) (by decide +kernel)
theorem ws_X9_isRemedied : Cond.selects yX9_isRemedied.cls yX9_isRemedied yX9_isRemedied ∈ wsL := in_S 52 (by decide +kernel) (by decide +kernel)
theorem wc_X9_remedy : Cond.code yX9_remedy cX9_remedy 9 (some .int) ∈ wsL := in_T 785 (by decide +kernel) (by decide +kernel)
theorem wm_X9_remedy : Cond.instanceMethod yX9_remedy ∈ wsL := in_T 783 (by decide +kernel) (by decide +kernel)
theorem ws_X9_remedy : Cond.selects yX9_remedy.cls yX9_remedy yX9_remedy ∈ wsL := in_T 784 (by decide +kernel) (by decide +kernel)
theorem wc_X9_count : Cond.code yX9_count cX9_count 4 (some .int) ∈ wsL := in_T 793 (by decide +kernel) (by decide +kernel)
theorem wm_X9_count : Cond.instanceMethod yX9_count ∈ wsL := in_T 791 (by decide +kernel) (by decide +kernel)
theorem ws_X9_count : Cond.selects yX9_count.cls yX9_count yX9_count ∈ wsL := in_T 792 (by decide +kernel) (by decide +kernel)
theorem wc_J6_compare_7cf53 : Cond.code yJ6_compare_7cf53 cJ6_compare_7cf53 2 (some .int) ∈ wsL := in_T 365 (by decide +kernel) (by decide +kernel)
theorem wt_J6_compare_7cf53 : Cond.static yJ6_compare_7cf53 ∈ wsL := in_T 364 (by decide +kernel) (by decide +kernel)
theorem wc_J6_bitCount_0f7a4 : Cond.code yJ6_bitCount_0f7a4 cJ6_bitCount_0f7a4 1 (some .int) ∈ wsL := in_T 414 (by decide +kernel) (by decide +kernel)
theorem wt_J6_bitCount_0f7a4 : Cond.static yJ6_bitCount_0f7a4 ∈ wsL := in_T 413 (by decide +kernel) (by decide +kernel)
theorem wc_J9_max_7cf53 : Cond.code yJ9_max_7cf53 cJ9_max_7cf53 2 (some .int) ∈ wsL := in_T 358 (by decide +kernel) (by decide +kernel)
theorem wt_J9_max_7cf53 : Cond.static yJ9_max_7cf53 ∈ wsL := in_T 357 (by decide +kernel) (by decide +kernel)
theorem wc_J9_min_7cf53 : Cond.code yJ9_min_7cf53 cJ9_min_7cf53 2 (some .int) ∈ wsL := in_T 323 (by decide +kernel) (by decide +kernel)
theorem wt_J9_min_7cf53 : Cond.static yJ9_min_7cf53 ∈ wsL := in_T 322 (by decide +kernel) (by decide +kernel)
theorem cl_L_7 : Cond.classLink RL 7 "DeckBalance" ∈ wsL := in_T 13 (by decide +kernel) (by decide +kernel)
theorem wn_X8 : Cond.instantiable RX8 12 ∈ wsL := in_T 14 (by decide +kernel) (by decide +kernel)
theorem ml_L_9 : Cond.methodLink RL 9 yX8_init ∈ wsL := in_T 15 (by decide +kernel) (by decide +kernel)
theorem cl_X8_7 : Cond.classLink RX8 7 "DeckBalance$CardBook" ∈ wsL := in_T 21 (by decide +kernel) (by decide +kernel)
theorem wn_X0 : Cond.instantiable RX0 4 ∈ wsL := in_T 22 (by decide +kernel) (by decide +kernel)
theorem cl_X8_16 : Cond.classLink RX8 16 "DeckBalance$Deck" ∈ wsL := in_T 46 (by decide +kernel) (by decide +kernel)
theorem wn_X2 : Cond.instantiable RX2 2 ∈ wsL := in_T 48 (by decide +kernel) (by decide +kernel)
theorem cl_X8_23 : Cond.classLink RX8 23 "DeckBalance$Game" ∈ wsL := in_T 64 (by decide +kernel) (by decide +kernel)
theorem wn_X3 : Cond.instantiable RX3 4 ∈ wsL := in_T 65 (by decide +kernel) (by decide +kernel)
theorem ml_X8_25 : Cond.methodLink RX8 25 yX3_init ∈ wsL := in_T 66 (by decide +kernel) (by decide +kernel)
theorem cl_X3_9 : Cond.classLink RX3 9 "DeckBalance$Side" ∈ wsL := in_T 70 (by decide +kernel) (by decide +kernel)
theorem wn_X7 : Cond.instantiable RX7 4 ∈ wsL := in_T 71 (by decide +kernel) (by decide +kernel)
theorem cl_X8_32 : Cond.classLink RX8 32 "DeckBalance$Contest" ∈ wsL := in_T 108 (by decide +kernel) (by decide +kernel)
theorem wn_X1 : Cond.instantiable RX1 3 ∈ wsL := in_T 109 (by decide +kernel) (by decide +kernel)
theorem ml_X8_34 : Cond.methodLink RX8 34 yX1_init ∈ wsL := in_T 110 (by decide +kernel) (by decide +kernel)
theorem cl_X1_9 : Cond.classLink RX1 9 "DeckBalance$Plan" ∈ wsL := in_T 114 (by decide +kernel) (by decide +kernel)
theorem cl_X1_17 : Cond.classLink RX1 17 "[[I" ∈ wsL := in_T 116 (by decide +kernel) (by decide +kernel)
theorem cl_X1_22 : Cond.classLink RX1 22 "DeckBalance$Mix" ∈ wsL := in_T 118 (by decide +kernel) (by decide +kernel)
theorem wn_X4 : Cond.instantiable RX4 6 ∈ wsL := in_T 119 (by decide +kernel) (by decide +kernel)
theorem wn_X5 : Cond.instantiable RX5 6 ∈ wsL := in_T 145 (by decide +kernel) (by decide +kernel)
theorem cl_X8_42 : Cond.classLink RX8 42 "DeckBalance$Rings" ∈ wsL := in_T 184 (by decide +kernel) (by decide +kernel)
theorem wn_X6 : Cond.instantiable RX6 2 ∈ wsL := in_T 185 (by decide +kernel) (by decide +kernel)
theorem cl_X8_49 : Cond.classLink RX8 49 "DeckBalance$Plan" ∈ wsL := in_T 199 (by decide +kernel) (by decide +kernel)
theorem ml_L_13 : Cond.methodLink RL 13 yX8_card ∈ wsL := in_T 238 (by decide +kernel) (by decide +kernel)
theorem ml_X8_64 : Cond.methodLink RX8 64 yX8_isOutside ∈ wsL := in_T 242 (by decide +kernel) (by decide +kernel)
theorem ml_X8_68 : Cond.methodLink RX8 68 yX0_enter ∈ wsL := in_T 245 (by decide +kernel) (by decide +kernel)
theorem ml_L_18 : Cond.methodLink RL 18 yX8_power ∈ wsL := in_T 249 (by decide +kernel) (by decide +kernel)
theorem ml_X8_72 : Cond.methodLink RX8 72 yX8_isNoCard ∈ wsL := in_T 253 (by decide +kernel) (by decide +kernel)
theorem ml_X8_79 : Cond.methodLink RX8 79 yX8_forgetTables ∈ wsL := in_T 257 (by decide +kernel) (by decide +kernel)
theorem ml_L_23 : Cond.methodLink RL 23 yX8_deck ∈ wsL := in_T 261 (by decide +kernel) (by decide +kernel)
theorem ml_L_28 : Cond.methodLink RL 28 yX8_add ∈ wsL := in_T 265 (by decide +kernel) (by decide +kernel)
theorem ml_X8_85 : Cond.methodLink RX8 85 yX8_isNoDeck ∈ wsL := in_T 269 (by decide +kernel) (by decide +kernel)
theorem ml_X8_88 : Cond.methodLink RX8 88 yX2_append ∈ wsL := in_T 273 (by decide +kernel) (by decide +kernel)
theorem ml_L_32 : Cond.methodLink RL 32 yX8_drop ∈ wsL := in_T 277 (by decide +kernel) (by decide +kernel)
theorem ml_X8_92 : Cond.methodLink RX8 92 yX8_isNoPlace ∈ wsL := in_T 281 (by decide +kernel) (by decide +kernel)
theorem ml_X8_96 : Cond.methodLink RX8 96 yX2_takeOut ∈ wsL := in_T 285 (by decide +kernel) (by decide +kernel)
theorem ml_L_36 : Cond.methodLink RL 36 yX8_swap ∈ wsL := in_T 289 (by decide +kernel) (by decide +kernel)
theorem ml_X8_99 : Cond.methodLink RX8 99 yX2_exchange ∈ wsL := in_T 293 (by decide +kernel) (by decide +kernel)
theorem ml_L_40 : Cond.methodLink RL 40 yX8_at ∈ wsL := in_T 297 (by decide +kernel) (by decide +kernel)
theorem ml_L_44 : Cond.methodLink RL 44 yX8_life ∈ wsL := in_T 301 (by decide +kernel) (by decide +kernel)
theorem ml_L_49 : Cond.methodLink RL 49 yX8_play ∈ wsL := in_T 305 (by decide +kernel) (by decide +kernel)
theorem ml_X8_106 : Cond.methodLink RX8 106 yX8_learnTables ∈ wsL := in_T 309 (by decide +kernel) (by decide +kernel)
theorem ml_X8_193 : Cond.methodLink RX8 193 yX5_lay ∈ wsL := in_T 313 (by decide +kernel) (by decide +kernel)
theorem ml_X5_31 : Cond.methodLink RX5 31 yX5_draw ∈ wsL := in_T 317 (by decide +kernel) (by decide +kernel)
theorem ml_X5_35 : Cond.methodLink RX5 35 yJ9_min_7cf53 ∈ wsL := in_T 321 (by decide +kernel) (by decide +kernel)
theorem ml_X5_41 : Cond.methodLink RX5 41 yX5_playHand ∈ wsL := in_T 324 (by decide +kernel) (by decide +kernel)
theorem ml_X5_53 : Cond.methodLink RX5 53 yX5_nextPlace ∈ wsL := in_T 328 (by decide +kernel) (by decide +kernel)
theorem ml_X5_66 : Cond.methodLink RX5 66 yX0_isPlayedAhead ∈ wsL := in_T 332 (by decide +kernel) (by decide +kernel)
theorem ml_X5_62 : Cond.methodLink RX5 62 yX5_putDown ∈ wsL := in_T 336 (by decide +kernel) (by decide +kernel)
theorem ml_X8_197 : Cond.methodLink RX8 197 yX8_tableOf ∈ wsL := in_T 340 (by decide +kernel) (by decide +kernel)
theorem ml_X8_113 : Cond.methodLink RX8 113 yX3_resultOf ∈ wsL := in_T 344 (by decide +kernel) (by decide +kernel)
theorem ml_X3_25 : Cond.methodLink RX3 25 yX7_begin ∈ wsL := in_T 348 (by decide +kernel) (by decide +kernel)
theorem ml_X3_33 : Cond.methodLink RX3 33 yX7_defeats ∈ wsL := in_T 352 (by decide +kernel) (by decide +kernel)
theorem ml_X7_24 : Cond.methodLink RX7 24 yJ9_max_7cf53 ∈ wsL := in_T 356 (by decide +kernel) (by decide +kernel)
theorem ml_X7_39 : Cond.methodLink RX7 39 yX7_put ∈ wsL := in_T 359 (by decide +kernel) (by decide +kernel)
theorem ml_X3_40 : Cond.methodLink RX3 40 yJ6_compare_7cf53 ∈ wsL := in_T 363 (by decide +kernel) (by decide +kernel)
theorem ml_X8_201 : Cond.methodLink RX8 201 yX1_enter ∈ wsL := in_T 366 (by decide +kernel) (by decide +kernel)
theorem ml_X8_204 : Cond.methodLink RX8 204 yX6_find ∈ wsL := in_T 370 (by decide +kernel) (by decide +kernel)
theorem ml_X6_19 : Cond.methodLink RX6 19 yX6_findThird ∈ wsL := in_T 374 (by decide +kernel) (by decide +kernel)
theorem ml_L_53 : Cond.methodLink RL 53 yX8_told ∈ wsL := in_T 378 (by decide +kernel) (by decide +kernel)
theorem ck_X8_117 : Cond.constant RX8 117 (-2147483648) ∈ wsL := in_T 382 (by decide +kernel) (by decide +kernel)
theorem ml_L_57 : Cond.methodLink RL 57 yX8_table ∈ wsL := in_T 383 (by decide +kernel) (by decide +kernel)
theorem ml_L_61 : Cond.methodLink RL 61 yX8_rings ∈ wsL := in_T 387 (by decide +kernel) (by decide +kernel)
theorem ml_L_65 : Cond.methodLink RL 65 yX8_ring ∈ wsL := in_T 391 (by decide +kernel) (by decide +kernel)
theorem ml_L_69 : Cond.methodLink RL 69 yX8_share ∈ wsL := in_T 395 (by decide +kernel) (by decide +kernel)
theorem ck_X8_145 : Cond.constantLong RX8 145 (-2) ∈ wsL := in_T 399 (by decide +kernel) (by decide +kernel)
theorem ml_X8_147 : Cond.methodLink RX8 147 yX8_learnMix ∈ wsL := in_T 400 (by decide +kernel) (by decide +kernel)
theorem ml_X8_208 : Cond.methodLink RX8 208 yX4_find ∈ wsL := in_T 404 (by decide +kernel) (by decide +kernel)
theorem ml_X4_28 : Cond.methodLink RX4 28 yX4_findMinors ∈ wsL := in_T 408 (by decide +kernel) (by decide +kernel)
theorem ml_X4_32 : Cond.methodLink RX4 32 yJ6_bitCount_0f7a4 ∈ wsL := in_T 412 (by decide +kernel) (by decide +kernel)
theorem ck_J6_265 : Cond.constant RJ6 265 (1431655765) ∈ wsL := in_T 415 (by decide +kernel) (by decide +kernel)
theorem ck_J6_266 : Cond.constant RJ6 266 (858993459) ∈ wsL := in_T 416 (by decide +kernel) (by decide +kernel)
theorem ck_J6_267 : Cond.constant RJ6 267 (252645135) ∈ wsL := in_T 417 (by decide +kernel) (by decide +kernel)
theorem ml_X4_53 : Cond.methodLink RX4 53 yX4_minorOf ∈ wsL := in_T 418 (by decide +kernel) (by decide +kernel)
theorem ml_X4_57 : Cond.methodLink RX4 57 yX4_leastOf ∈ wsL := in_T 422 (by decide +kernel) (by decide +kernel)
theorem ml_X4_60 : Cond.methodLink RX4 60 yX4_isIn ∈ wsL := in_T 426 (by decide +kernel) (by decide +kernel)
theorem ml_X4_38 : Cond.methodLink RX4 38 yX4_tryCorner ∈ wsL := in_T 429 (by decide +kernel) (by decide +kernel)
theorem ml_X4_66 : Cond.methodLink RX4 66 yX4_turnSigns ∈ wsL := in_T 433 (by decide +kernel) (by decide +kernel)
theorem ml_X4_42 : Cond.methodLink RX4 42 yX4_isHolding ∈ wsL := in_T 437 (by decide +kernel) (by decide +kernel)
theorem ml_X4_46 : Cond.methodLink RX4 46 yX4_isGreater ∈ wsL := in_T 441 (by decide +kernel) (by decide +kernel)
theorem ml_X4_50 : Cond.methodLink RX4 50 yX4_takeTried ∈ wsL := in_T 445 (by decide +kernel) (by decide +kernel)
theorem ml_X8_162 : Cond.methodLink RX8 162 yX8_greatestDivisor ∈ wsL := in_T 449 (by decide +kernel) (by decide +kernel)
theorem ml_L_74 : Cond.methodLink RL 74 yX8_live ∈ wsL := in_T 452 (by decide +kernel) (by decide +kernel)
theorem ml_L_78 : Cond.methodLink RL 78 yX8_standing ∈ wsL := in_T 456 (by decide +kernel) (by decide +kernel)
theorem ml_X8_166 : Cond.methodLink RX8 166 yX8_sumOf ∈ wsL := in_T 460 (by decide +kernel) (by decide +kernel)
theorem ml_L_82 : Cond.methodLink RL 82 yX8_worth ∈ wsL := in_T 464 (by decide +kernel) (by decide +kernel)
theorem ml_X8_170 : Cond.methodLink RX8 170 yX2_firstPlaceOf ∈ wsL := in_T 468 (by decide +kernel) (by decide +kernel)
theorem ml_X8_173 : Cond.methodLink RX8 173 yX8_learnTablesWithout ∈ wsL := in_T 472 (by decide +kernel) (by decide +kernel)
theorem ml_L_86 : Cond.methodLink RL 86 yX8_idle ∈ wsL := in_T 476 (by decide +kernel) (by decide +kernel)
theorem ml_L_90 : Cond.methodLink RL 90 yX8_remedy ∈ wsL := in_T 480 (by decide +kernel) (by decide +kernel)
theorem ml_X8_177 : Cond.methodLink RX8 177 yX8_isMixWithin ∈ wsL := in_T 484 (by decide +kernel) (by decide +kernel)
theorem ml_X8_209 : Cond.methodLink RX8 209 yX8_learnTrialTables ∈ wsL := in_T 488 (by decide +kernel) (by decide +kernel)
theorem ml_X8_220 : Cond.methodLink RX8 220 yX8_hasCard ∈ wsL := in_T 492 (by decide +kernel) (by decide +kernel)
theorem ml_X8_223 : Cond.methodLink RX8 223 yX8_trialPlan ∈ wsL := in_T 496 (by decide +kernel) (by decide +kernel)
theorem ml_X8_213 : Cond.methodLink RX8 213 yX1_hasTablesOf ∈ wsL := in_T 500 (by decide +kernel) (by decide +kernel)
theorem ml_X8_217 : Cond.methodLink RX8 217 yX4_isWithin ∈ wsL := in_T 504 (by decide +kernel) (by decide +kernel)
theorem ml_L_94 : Cond.methodLink RL 94 yX8_count ∈ wsL := in_T 508 (by decide +kernel) (by decide +kernel)
theorem ml_X8_181 : Cond.methodLink RX8 181 yX8_cardsInDecks ∈ wsL := in_T 512 (by decide +kernel) (by decide +kernel)
theorem cl_L_10 : Cond.classLink RL 10 "DeckBalanceModel" ∈ wsL := in_T 516 (by decide +kernel) (by decide +kernel)
theorem wn_X9 : Cond.instantiable RX9 26 ∈ wsL := in_T 517 (by decide +kernel) (by decide +kernel)
theorem ml_L_12 : Cond.methodLink RL 12 yX9_init ∈ wsL := in_T 518 (by decide +kernel) (by decide +kernel)
theorem ml_L_17 : Cond.methodLink RL 17 yX9_card ∈ wsL := in_T 602 (by decide +kernel) (by decide +kernel)
theorem ml_X9_75 : Cond.methodLink RX9 75 yX9_in ∈ wsL := in_T 606 (by decide +kernel) (by decide +kernel)
theorem ml_L_22 : Cond.methodLink RL 22 yX9_power ∈ wsL := in_T 609 (by decide +kernel) (by decide +kernel)
theorem ml_X9_82 : Cond.methodLink RX9 82 yX9_isCard ∈ wsL := in_T 613 (by decide +kernel) (by decide +kernel)
theorem ml_L_27 : Cond.methodLink RL 27 yX9_deck ∈ wsL := in_T 617 (by decide +kernel) (by decide +kernel)
theorem ml_L_31 : Cond.methodLink RL 31 yX9_add ∈ wsL := in_T 621 (by decide +kernel) (by decide +kernel)
theorem ml_X9_86 : Cond.methodLink RX9 86 yX9_isDeck ∈ wsL := in_T 625 (by decide +kernel) (by decide +kernel)
theorem ml_L_35 : Cond.methodLink RL 35 yX9_drop ∈ wsL := in_T 629 (by decide +kernel) (by decide +kernel)
theorem ml_X9_89 : Cond.methodLink RX9 89 yX9_isPlace ∈ wsL := in_T 633 (by decide +kernel) (by decide +kernel)
theorem ml_X9_93 : Cond.methodLink RX9 93 yX9_dropAt ∈ wsL := in_T 637 (by decide +kernel) (by decide +kernel)
theorem ml_L_39 : Cond.methodLink RL 39 yX9_swap ∈ wsL := in_T 641 (by decide +kernel) (by decide +kernel)
theorem ml_L_43 : Cond.methodLink RL 43 yX9_at ∈ wsL := in_T 645 (by decide +kernel) (by decide +kernel)
theorem ml_L_48 : Cond.methodLink RL 48 yX9_life ∈ wsL := in_T 649 (by decide +kernel) (by decide +kernel)
theorem ml_L_52 : Cond.methodLink RL 52 yX9_play ∈ wsL := in_T 653 (by decide +kernel) (by decide +kernel)
theorem ml_X9_118 : Cond.methodLink RX9 118 yX9_result ∈ wsL := in_T 657 (by decide +kernel) (by decide +kernel)
theorem ml_X9_115 : Cond.methodLink RX9 115 yX9_game ∈ wsL := in_T 661 (by decide +kernel) (by decide +kernel)
theorem ml_X9_104 : Cond.methodLink RX9 104 yX9_isOver ∈ wsL := in_T 665 (by decide +kernel) (by decide +kernel)
theorem ml_X9_111 : Cond.methodLink RX9 111 yX9_move ∈ wsL := in_T 669 (by decide +kernel) (by decide +kernel)
theorem ml_X9_100 : Cond.methodLink RX9 100 yX9_nextCard ∈ wsL := in_T 673 (by decide +kernel) (by decide +kernel)
theorem ml_X9_108 : Cond.methodLink RX9 108 yX9_playCard ∈ wsL := in_T 677 (by decide +kernel) (by decide +kernel)
theorem ml_L_56 : Cond.methodLink RL 56 yX9_told ∈ wsL := in_T 681 (by decide +kernel) (by decide +kernel)
theorem ck_X9_121 : Cond.constant RX9 121 (-2147483648) ∈ wsL := in_T 685 (by decide +kernel) (by decide +kernel)
theorem ml_L_60 : Cond.methodLink RL 60 yX9_table ∈ wsL := in_T 686 (by decide +kernel) (by decide +kernel)
theorem ml_X9_122 : Cond.methodLink RX9 122 yX9_tableOf ∈ wsL := in_T 690 (by decide +kernel) (by decide +kernel)
theorem ml_L_64 : Cond.methodLink RL 64 yX9_rings ∈ wsL := in_T 694 (by decide +kernel) (by decide +kernel)
theorem ml_X9_140 : Cond.methodLink RX9 140 yX9_findRings ∈ wsL := in_T 698 (by decide +kernel) (by decide +kernel)
theorem ml_X9_125 : Cond.methodLink RX9 125 yX9_layTables ∈ wsL := in_T 702 (by decide +kernel) (by decide +kernel)
theorem ml_X9_128 : Cond.methodLink RX9 128 yX9_beats ∈ wsL := in_T 706 (by decide +kernel) (by decide +kernel)
theorem ml_L_68 : Cond.methodLink RL 68 yX9_ring ∈ wsL := in_T 710 (by decide +kernel) (by decide +kernel)
theorem ml_L_73 : Cond.methodLink RL 73 yX9_share ∈ wsL := in_T 714 (by decide +kernel) (by decide +kernel)
theorem ck_X9_172 : Cond.constantLong RX9 172 (-2) ∈ wsL := in_T 718 (by decide +kernel) (by decide +kernel)
theorem ml_X9_174 : Cond.methodLink RX9 174 yX9_findMix ∈ wsL := in_T 719 (by decide +kernel) (by decide +kernel)
theorem ck_X9_155 : Cond.constantLong RX9 155 (-1) ∈ wsL := in_T 723 (by decide +kernel) (by decide +kernel)
theorem ml_X9_157 : Cond.methodLink RX9 157 yX9_ones ∈ wsL := in_T 724 (by decide +kernel) (by decide +kernel)
theorem ml_X9_160 : Cond.methodLink RX9 160 yX9_layBounds ∈ wsL := in_T 727 (by decide +kernel) (by decide +kernel)
theorem ml_X9_163 : Cond.methodLink RX9 163 yX9_solve ∈ wsL := in_T 731 (by decide +kernel) (by decide +kernel)
theorem ml_X9_148 : Cond.methodLink RX9 148 yX9_changeRows ∈ wsL := in_T 735 (by decide +kernel) (by decide +kernel)
theorem ml_X9_151 : Cond.methodLink RX9 151 yX9_clearRow ∈ wsL := in_T 739 (by decide +kernel) (by decide +kernel)
theorem ml_X9_144 : Cond.methodLink RX9 144 yX9_divisor ∈ wsL := in_T 743 (by decide +kernel) (by decide +kernel)
theorem ml_X9_166 : Cond.methodLink RX9 166 yX9_holds ∈ wsL := in_T 746 (by decide +kernel) (by decide +kernel)
theorem ml_X9_169 : Cond.methodLink RX9 169 yX9_isGreater ∈ wsL := in_T 750 (by decide +kernel) (by decide +kernel)
theorem ml_L_77 : Cond.methodLink RL 77 yX9_live ∈ wsL := in_T 754 (by decide +kernel) (by decide +kernel)
theorem ml_L_81 : Cond.methodLink RL 81 yX9_standing ∈ wsL := in_T 758 (by decide +kernel) (by decide +kernel)
theorem ml_X9_177 : Cond.methodLink RX9 177 yX9_standingOf ∈ wsL := in_T 762 (by decide +kernel) (by decide +kernel)
theorem ml_L_85 : Cond.methodLink RL 85 yX9_worth ∈ wsL := in_T 766 (by decide +kernel) (by decide +kernel)
theorem ml_X9_180 : Cond.methodLink RX9 180 yX9_placeOf ∈ wsL := in_T 770 (by decide +kernel) (by decide +kernel)
theorem ml_X9_183 : Cond.methodLink RX9 183 yX9_putBack ∈ wsL := in_T 774 (by decide +kernel) (by decide +kernel)
theorem ml_L_89 : Cond.methodLink RL 89 yX9_idle ∈ wsL := in_T 778 (by decide +kernel) (by decide +kernel)
theorem ml_L_93 : Cond.methodLink RL 93 yX9_remedy ∈ wsL := in_T 782 (by decide +kernel) (by decide +kernel)
theorem ml_X9_186 : Cond.methodLink RX9 186 yX9_isRemedied ∈ wsL := in_T 786 (by decide +kernel) (by decide +kernel)
theorem ml_L_97 : Cond.methodLink RL 97 yX9_count ∈ wsL := in_T 790 (by decide +kernel) (by decide +kernel)
end
section
/-! the world: 110 cells, what each is, what its references are -/
abbrev ZM : Type := Nat → Nat → Int
abbrev ZR : Type := Nat → Nat → Option Nat
abbrev ZC : Type := ClassId × ClassId × ClassId × ClassId × ClassId
def iI (z : Int) : Int32 := Int32.ofInt z
def lJ (z : Int) : Int64 := Int64.ofInt z
def z_up (M : ZM) (k j : Nat) (v : Int) : ZM := fun a b => if a = k ∧ b = j then v else M a b
def z_upR (M : ZR) (k j : Nat) (v : Option Nat) : ZR := fun a b => if a = k ∧ b = j then v else M a b
def z_sh : List (Nat × Nat) := [(8, 12), (0, 4), (10, 12), (10, 12), (10, 12), (12, 5), (2, 2), (10, 10), (2, 2), (10, 10), (2, 2), (10, 10), (2, 2), (10, 10), (2, 2), (10, 10), (3, 4), (7, 4), (7, 4), (1, 3), (13, 5), (14, 5), (10, 5), (10, 5), (10, 5), (10, 5), (10, 5), (4, 6), (10, 5), (10, 5), (10, 1024), (5, 6), (10, 10), (10, 13), (10, 10), (5, 6), (10, 10), (10, 13), (10, 10), (5, 6), (10, 10), (10, 13), (10, 10), (5, 6), (10, 10), (10, 13), (10, 10), (5, 6), (10, 10), (10, 13), (10, 10), (1, 3), (13, 5), (14, 5), (10, 5), (10, 5), (10, 5), (10, 5), (10, 5), (4, 6), (10, 5), (10, 5), (10, 1024), (5, 6), (10, 10), (10, 13), (10, 10), (5, 6), (10, 10), (10, 13), (10, 10), (5, 6), (10, 10), (10, 13), (10, 10), (5, 6), (10, 10), (10, 13), (10, 10), (5, 6), (10, 10), (10, 13), (10, 10), (6, 2), (10, 30), (5, 6), (10, 10), (10, 13), (10, 10), (10, 5), (9, 26), (10, 12), (10, 12), (10, 12), (10, 5), (10, 50), (10, 2), (10, 2), (10, 2), (10, 2), (10, 2), (10, 2), (10, 24), (10, 25), (11, 30), (11, 5), (11, 5), (11, 5), (11, 5), (10, 5)]
def z_kd (k : Nat) : Nat := (z_sh.getD k (99, 0)).1
def z_ln (k : Nat) : Nat := (z_sh.getD k (99, 0)).2
def z_ft : List (List Bool) := [[false, false, false, true], [false, false, false], [false, true], [false, false, true, false], [false, true, false, true, false, true], [false, false, false, true, true, true], [false, true], [true, true, true, true], [false, false, false, false, false, false, false, false, true, true, true, true], [true, false, false, false, true, false, false, true, false, false, false, false, false, false, false, true, false, true, true, true, false, false, false, false, false, false]]
def z_fi (ci j : Nat) : Bool := (z_ft.getD ci []).getD j false
def z_rl : List (List (Option Nat)) := [[some 1, some 5, some 16, some 19, some 51, some 83, some 85, some 89], [some 2, some 3, some 4], [], [], [], [some 6, some 8, some 10, some 12, some 14], [some 7], [], [some 9], [], [some 11], [], [some 13], [], [some 15], [], [some 17, some 18, none, some 1], [], [], [some 20, some 21, some 27], [some 31, some 35, some 39, some 43, some 47], [some 22, some 23, some 24, some 25, some 26], [], [], [], [], [], [some 28, none, some 29, none, some 30], [], [], [], [some 32, some 33, some 34], [], [], [], [some 36, some 37, some 38], [], [], [], [some 40, some 41, some 42], [], [], [], [some 44, some 45, some 46], [], [], [], [some 48, some 49, some 50], [], [], [], [some 52, some 53, some 59], [some 63, some 67, some 71, some 75, some 79], [some 54, some 55, some 56, some 57, some 58], [], [], [], [], [], [some 60, none, some 61, none, some 62], [], [], [], [some 64, some 65, some 66], [], [], [], [some 68, some 69, some 70], [], [], [], [some 72, some 73, some 74], [], [], [], [some 76, some 77, some 78], [], [], [], [some 80, some 81, some 82], [], [], [], [some 84], [], [some 86, some 87, some 88], [], [], [], [], [none, some 91, some 92, some 93, none, some 94, some 95, none, some 96, some 97, some 98, some 99, some 100, some 101, some 102, none, some 103, none, none, none, some 104, some 105, some 106, some 107, some 108, some 109], [], [], [], [], [], [], [], [], [], [], [], [], [], [], [], [], [], [], []]
def z_rf : ZR := fun k j => (z_rl.getD k []).getD j none
theorem iI_add (a b : Int) : iI a + iI b = iI (a + b) := (Int32.ofInt_add _ _).symm
theorem iI_sub (a b : Int) : iI a - iI b = iI (a - b) := (Int32.ofInt_sub _ _).symm
theorem iI_mul (a b : Int) : iI a * iI b = iI (a * b) := (Int32.ofInt_mul _ _).symm
theorem iI_neg (a : Int) : -iI a = iI (-a) := Int32.neg_ofInt
theorem lJ_add (a b : Int) : lJ a + lJ b = lJ (a + b) := (Int64.ofInt_add _ _).symm
theorem lJ_sub (a b : Int) : lJ a - lJ b = lJ (a - b) := (Int64.ofInt_sub _ _).symm
theorem lJ_mul (a b : Int) : lJ a * lJ b = lJ (a * b) := (Int64.ofInt_mul _ _).symm
theorem lJ_neg (a : Int) : -lJ a = lJ (-a) := Int64.neg_ofInt
def rg (z : Int) : Prop := -2147483648 ≤ z ∧ z < 2147483648
def rl (z : Int) : Prop := -9223372036854775808 ≤ z ∧ z < 9223372036854775808
theorem iI_T {z : Int} (h : rg z) : (iI z).toInt = z := Int32.toInt_ofInt_of_le h.1 h.2
theorem lJ_T {z : Int} (h : rl z) : (lJ z).toInt = z := Int64.toInt_ofInt_of_le h.1 h.2
theorem iI_of (x : Int32) : iI x.toInt = x := Int32.ofInt_toInt x
theorem rg_of (x : Int32) : rg x.toInt := ⟨Int32.le_toInt x, Int32.toInt_lt x⟩
theorem iI_eq {a b : Int} (ha : rg a) (hb : rg b) : iI a = iI b ↔ a = b := by
  rw [← Int32.toInt_inj, iI_T ha, iI_T hb]
theorem iI_lt {a b : Int} (ha : rg a) (hb : rg b) : iI a < iI b ↔ a < b := by
  rw [Int32.lt_iff_toInt_lt, iI_T ha, iI_T hb]
theorem iI_le {a b : Int} (ha : rg a) (hb : rg b) : iI a ≤ iI b ↔ a ≤ b := by
  rw [Int32.le_iff_toInt_le, iI_T ha, iI_T hb]
theorem lJ_eq {a b : Int} (ha : rl a) (hb : rl b) : lJ a = lJ b ↔ a = b := by
  rw [← Int64.toInt_inj, lJ_T ha, lJ_T hb]
theorem lJ_lt {a b : Int} (ha : rl a) (hb : rl b) : lJ a < lJ b ↔ a < b := by
  rw [Int64.lt_iff_toInt_lt, lJ_T ha, lJ_T hb]
theorem iI_0 : (0 : Int32) = iI 0 := rfl
theorem rg_0 : rg 0 := ⟨by decide, by decide⟩
theorem iI_cl {j N : Nat} (h : j < N) (hN : N < 2147483648) : (iI (j : Int)).toNatClampNeg = j := by
  show (iI (j : Int)).toInt.toNat = j
  rw [iI_T ⟨by omega, by omega⟩]; rfl
theorem iI_in {j N : Nat} (h : j < N) (hN : N < 2147483648) : vp_in (iI (j : Int)) N := by
  intro q
  rcases q with q | q
  · rw [iI_0, iI_lt ⟨by omega, by omega⟩ rg_0] at q; omega
  · rw [iI_cl h hN] at q; omega
theorem z_ln_lt (k : Nat) : z_ln k < 2147483648 := by
  unfold z_ln
  by_cases h : k < z_sh.length
  · have h1 : ∀ x ∈ z_sh, x.2 < 2147483648 := by decide +kernel
    rw [List.getD_eq_getElem?_getD, List.getElem?_eq_getElem h]
    exact h1 _ (List.getElem_mem h)
  · rw [List.getD_eq_getElem?_getD, List.getElem?_eq_none (by omega)]; decide
theorem z_up_s {M : ZM} {k j : Nat} {v : Int} : z_up M k j v k j = v := by simp [z_up]
theorem z_up_k {M : ZM} {k j a b : Nat} {v : Int} (h : a ≠ k) : z_up M k j v a b = M a b := by simp [z_up, h]
theorem z_up_j {M : ZM} {k j a b : Nat} {v : Int} (h : b ≠ j) : z_up M k j v a b = M a b := by simp [z_up, h]
theorem z_upR_s {M : ZR} {k j : Nat} {v : Option Nat} : z_upR M k j v k j = v := by simp [z_upR]
theorem z_upR_k {M : ZR} {k j a b : Nat} {v : Option Nat} (h : a ≠ k) : z_upR M k j v a b = M a b := by simp [z_upR, h]
theorem z_upR_j {M : ZR} {k j a b : Nat} {v : Option Nat} (h : b ≠ j) : z_upR M k j v a b = M a b := by simp [z_upR, h]
/-- the value of field j of the object k -/
def z_fv (Q : Nat → Nat) (MR : ZR) (MI : ZM) (k j : Nat) : Value := if z_fi (z_kd k) j = true then .int (iI (MI k j)) else va_rf ((MR k j).map Q)
/-- what the cell k holds -/
def z_E (Z : ZC) (Q : Nat → Nat) (MR : ZR) (MI ML : ZM) (k : Nat) : va_E :=
  if z_kd k = 10 then .inl (Z.1, z_ln k, .inl (fun j => iI (MI k j)))
  else if z_kd k = 11 then .inl (Z.2.1, z_ln k, .inr (.inl (fun j => lJ (ML k j))))
  else if z_kd k = 12 then .inl (Z.2.2.1, z_ln k, .inr (.inr (.inr (.inr (fun j => (MR k j).map Q)))))
  else if z_kd k = 13 then .inl (Z.2.2.2.1, z_ln k, .inr (.inr (.inr (.inr (fun j => (MR k j).map Q)))))
  else if z_kd k = 14 then .inl (Z.2.2.2.2, z_ln k, .inr (.inr (.inr (.inr (fun j => (MR k j).map Q)))))
  else .inr (z_kd k, (List.range (z_ln k)).map (z_fv Q MR MI k))
def z_W (Z : ZC) (n : Nat) (Q : Nat → Nat) (MR : ZR) (MI ML : ZM) : va_W := (List.range n).map (fun k => (Q k, z_E Z Q MR MI ML k))
/-- an array of arrays can be made (as va_AO, of arrays) -/
def z_AOA (ty : FieldType) (U : State) : Prop := (Cond.arrayOver (.array ty)).before #[] U = true
theorem z_AOA.use {ty : FieldType} {A : Array Value} {U : State} (h : z_AOA ty U) : (Cond.arrayOver (.array ty)).before A U = true := h
theorem z_AOA.moved {ty : FieldType} {u U : State} (hvm : u.vm.Alike U.vm) (h : z_AOA ty u) : z_AOA ty U := Jvm.Stand.arrayOver_alikeB hvm h
def z_T (Z : ZC) : List (ClassId × FieldType) := [(Z.1, .int), (Z.2.1, .long), (Z.2.2.1, .object "DeckBalance$Deck"), (Z.2.2.2.1, .object "DeckBalance$Plan"), (Z.2.2.2.2, .array .int)]
def z_K (D : va_G) (Z : ZC) (U : State) : Prop := va_K D vwCl (z_T Z) U ∧ va_AO "DeckBalance$Deck" U ∧ va_AO "DeckBalance$Plan" U ∧ z_AOA .int U
def z_A (n : Nat) (Q : Nat → Nat) (sz : Nat) : Nat → Prop := fun q => (∃ k, k < n ∧ q = Q k) ∨ sz ≤ q
theorem z_W_at {Z : ZC} {n k : Nat} {Q : Nat → Nat} {MR : ZR} {MI ML : ZM} (h : k < n) : (z_W Z n Q MR MI ML)[k]? = some (Q k, z_E Z Q MR MI ML k) := by
  unfold z_W
  rw [List.getElem?_map, List.getElem?_range h]; rfl
theorem z_W_set {Z : ZC} {n k : Nat} {Q : Nat → Nat} {MR MR' : ZR} {MI ML MI' ML' : ZM} {x : Nat × va_E} (h : k < n) (hx : x = (Q k, z_E Z Q MR' MI' ML' k)) (ho : ∀ a, a ≠ k → z_E Z Q MR' MI' ML' a = z_E Z Q MR MI ML a) : (z_W Z n Q MR MI ML).set k x = z_W Z n Q MR' MI' ML' := by
  apply List.ext_getElem?
  intro i
  by_cases hi : i = k
  · subst hi
    rw [List.getElem?_set_self (by unfold z_W; simp; exact h), z_W_at h, hx]
  · rw [List.getElem?_set_ne (Ne.symm hi)]
    by_cases hn : i < n
    · rw [z_W_at hn, z_W_at hn, ho i hi]
    · rw [List.getElem?_eq_none (by unfold z_W; simp; omega), List.getElem?_eq_none (by unfold z_W; simp; omega)]
theorem z_E_up {Z : ZC} {Q : Nat → Nat} {MR : ZR} {MI ML : ZM} {k j a : Nat} {v : Int} (h : a ≠ k) : z_E Z Q MR (z_up MI k j v) ML a = z_E Z Q MR MI ML a := by
  have e : ∀ b, z_up MI k j v a b = MI a b := fun b => z_up_k h
  unfold z_E z_fv
  simp only [e]
theorem z_E_upL {Z : ZC} {Q : Nat → Nat} {MR : ZR} {MI ML : ZM} {k j a : Nat} {v : Int} (h : a ≠ k) : z_E Z Q MR MI (z_up ML k j v) a = z_E Z Q MR MI ML a := by
  have e : ∀ b, z_up ML k j v a b = ML a b := fun b => z_up_k h
  unfold z_E z_fv
  simp only [e]
theorem z_E_upR {Z : ZC} {Q : Nat → Nat} {MR : ZR} {MI ML : ZM} {k j a : Nat} {v : Option Nat} (h : a ≠ k) : z_E Z Q (z_upR MR k j v) MI ML a = z_E Z Q MR MI ML a := by
  have e : ∀ b, z_upR MR k j v a b = MR a b := fun b => z_upR_k h
  unfold z_E z_fv
  simp only [e]
theorem z_E_i {Z : ZC} {Q : Nat → Nat} {MR : ZR} {MI ML : ZM} {k : Nat} (h : z_kd k = 10) : z_E Z Q MR MI ML k = .inl (Z.1, z_ln k, .inl (fun j => iI (MI k j))) := by unfold z_E; rw [if_pos h]
theorem z_E_l {Z : ZC} {Q : Nat → Nat} {MR : ZR} {MI ML : ZM} {k : Nat} (h : z_kd k = 11) : z_E Z Q MR MI ML k = .inl (Z.2.1, z_ln k, .inr (.inl (fun j => lJ (ML k j)))) := by unfold z_E; rw [if_neg (by omega), if_pos h]
theorem z_E_D {Z : ZC} {Q : Nat → Nat} {MR : ZR} {MI ML : ZM} {k : Nat} (h : z_kd k = 12) : z_E Z Q MR MI ML k = .inl (Z.2.2.1, z_ln k, .inr (.inr (.inr (.inr (fun j => (MR k j).map Q))))) := by unfold z_E; rw [if_neg (by omega), if_neg (by omega), if_pos h]
theorem z_E_P {Z : ZC} {Q : Nat → Nat} {MR : ZR} {MI ML : ZM} {k : Nat} (h : z_kd k = 13) : z_E Z Q MR MI ML k = .inl (Z.2.2.2.1, z_ln k, .inr (.inr (.inr (.inr (fun j => (MR k j).map Q))))) := by unfold z_E; rw [if_neg (by omega), if_neg (by omega), if_neg (by omega), if_pos h]
theorem z_E_T {Z : ZC} {Q : Nat → Nat} {MR : ZR} {MI ML : ZM} {k : Nat} (h : z_kd k = 14) : z_E Z Q MR MI ML k = .inl (Z.2.2.2.2, z_ln k, .inr (.inr (.inr (.inr (fun j => (MR k j).map Q))))) := by unfold z_E; rw [if_neg (by omega), if_neg (by omega), if_neg (by omega), if_neg (by omega), if_pos h]
theorem z_E_o {Z : ZC} {Q : Nat → Nat} {MR : ZR} {MI ML : ZM} {k ci : Nat} (h : z_kd k = ci) (hc : ci < 10) : z_E Z Q MR MI ML k = .inr (ci, (List.range (z_ln k)).map (z_fv Q MR MI k)) := by unfold z_E; rw [if_neg (by omega), if_neg (by omega), if_neg (by omega), if_neg (by omega), if_neg (by omega), h]
/-! the judgement -/
abbrev VX : Type := Program × Launch × Env × Room × State × MethodId × Array Value × List Frame × Method × Code × Nat × va_G × ZC × (Nat → Prop) × (State → Prop)
def V (X : VX) (cs : Nat × Nat) (n : Nat) (Q : Nat → Nat) (MR : ZR) (MI ML : ZM) (pc : Nat) (lv : List (Nat × Value)) (st : List Value) : Prop :=
  match X with
  | (p, l, e, R, s, m, args, below, meth, c, nL, D, Z, A, Qp) => ∀ (H : Heap) (locs : List Loc) (ls : Array Slot), lv_has ls nL lv → va_P D vwCl (z_W Z n Q MR MI ML) H → va_D A (z_W Z n Q MR MI ML) → va_S A s.heap H locs → W p l e R s m args below meth c H locs cs.1 cs.2 Qp (F0 m pc ls st)
def VK (X : VX) (cc : ByteArray) (own : String) (nL : Nat) (ret : Option FieldType) (fr lo mc ms : Nat) : Prop :=
  match X with
  | (p, _, _, R, s, m, args, _, meth, c, nL', D, Z, A, _) => p.tables.exec = Jvm.exec ∧ c.code = cc ∧ c.maxLocals = nL ∧ nL' = nL ∧ s.vm.findClass own = some m.cls ∧ (∀ w ∈ wsL, w.before args s = true) ∧ z_K D Z s ∧ meth.sig.returnType = ret ∧ meth.locks = false ∧ (∀ q, s.heap.size ≤ q → A q) ∧ R = { frames := fr, cells := mc, slots := ms, locals := lo }
end
section
section VROWS
variable {X : VX} {cs : Nat × Nat} {n : Nat} {Q : Nat → Nat} {MR : ZR} {MI ML : ZM} {pc : Nat} {lv : List (Nat × Value)} {st : List Value} {cc : ByteArray} {own : String} {nL : Nat} {ret : Option FieldType} {fr lo mc ms : Nat}
theorem v_iconst (K : VK X cc own nL ret fr lo mc ms) {z : Int} (hd : decode cc pc = .ok (.iconst z, 1)) (k : V X cs n Q MR MI ML (pc + 1) lv (.int (iI z) :: st)) : V X cs n Q MR MI ML pc lv st := by
  obtain ⟨p, l, e, R, s, m, args, below, meth, c, nL2, D, Z, A, Qp⟩ := X
  obtain ⟨kx, kb, km, rfl, ko, kt, kK, kr, kl, kA, rfl⟩ := K
  intro H locs ls hl hP hD hS
  exact lv_iconst kx kb hd rfl (k H locs ls hl hP hD hS)
theorem v_bipush (K : VK X cc own nL ret fr lo mc ms) {z : Int} (hd : decode cc pc = .ok (.bipush z, 2)) (hv : (Int8.ofInt z).toInt32 = iI z) (k : V X cs n Q MR MI ML (pc + 2) lv (.int (iI z) :: st)) : V X cs n Q MR MI ML pc lv st := by
  obtain ⟨p, l, e, R, s, m, args, below, meth, c, nL2, D, Z, A, Qp⟩ := X
  obtain ⟨kx, kb, km, rfl, ko, kt, kK, kr, kl, kA, rfl⟩ := K
  intro H locs ls hl hP hD hS
  exact lv_bipush kx kb hd hv (k H locs ls hl hP hD hS)
theorem v_sipush (K : VK X cc own nL ret fr lo mc ms) {z : Int} (hd : decode cc pc = .ok (.sipush z, 3)) (hv : (Int16.ofInt z).toInt32 = iI z) (k : V X cs n Q MR MI ML (pc + 3) lv (.int (iI z) :: st)) : V X cs n Q MR MI ML pc lv st := by
  obtain ⟨p, l, e, R, s, m, args, below, meth, c, nL2, D, Z, A, Qp⟩ := X
  obtain ⟨kx, kb, km, rfl, ko, kt, kK, kr, kl, kA, rfl⟩ := K
  intro H locs ls hl hP hD hS
  exact lv_sipush kx kb hd hv (k H locs ls hl hP hD hS)
theorem v_ldc (K : VK X cc own nL ret fr lo mc ms) {index : Nat} {v : Int32} (z : Int) (hw : Cond.constant own index v ∈ wsL) (hv : v = iI z) (hd : decode cc pc = .ok (.ldc index, 2)) (k : V X cs n Q MR MI ML (pc + 2) lv (.int (iI z) :: st)) : V X cs n Q MR MI ML pc lv st := by
  obtain ⟨p, l, e, R, s, m, args, below, meth, c, nL2, D, Z, A, Qp⟩ := X
  obtain ⟨kx, kb, km, rfl, ko, kt, kK, kr, kl, kA, rfl⟩ := K
  intro H locs ls hl hP hD hS
  subst hv
  exact lv_ldc kx kb ko (kt _ hw) hd (k H locs ls hl hP hD hS)
theorem v_ldc2 (K : VK X cc own nL ret fr lo mc ms) {index : Nat} {v : Int64} (z : Int) (hw : Cond.constantLong own index v ∈ wsL) (hv : v = lJ z) (hd : decode cc pc = .ok (.ldc2_w index, 3)) (k : V X cs n Q MR MI ML (pc + 3) lv (.long (lJ z) :: st)) : V X cs n Q MR MI ML pc lv st := by
  obtain ⟨p, l, e, R, s, m, args, below, meth, c, nL2, D, Z, A, Qp⟩ := X
  obtain ⟨kx, kb, km, rfl, ko, kt, kK, kr, kl, kA, rfl⟩ := K
  intro H locs ls hl hP hD hS
  subst hv
  exact lv_ldc2 kx kb ko (kt _ hw) hd (k H locs ls hl hP hD hS)
theorem v_lconst (K : VK X cc own nL ret fr lo mc ms) {f : Fin 2} (z : Int) (hd : decode cc pc = .ok (.lconst f, 1)) (hv : Int64.ofNat (f : Nat) = lJ z) (k : V X cs n Q MR MI ML (pc + 1) lv (.long (lJ z) :: st)) : V X cs n Q MR MI ML pc lv st := by
  obtain ⟨p, l, e, R, s, m, args, below, meth, c, nL2, D, Z, A, Qp⟩ := X
  obtain ⟨kx, kb, km, rfl, ko, kt, kK, kr, kl, kA, rfl⟩ := K
  intro H locs ls hl hP hD hS
  exact lv_lconst kx kb hd hv (k H locs ls hl hP hD hS)
theorem v_iload_n (K : VK X cc own nL ret fr lo mc ms) {f : Fin 4} {i : Nat} {z : Int} (j : Nat) (hd : decode cc pc = .ok (.iload_n f, 1)) (hi : (f : Nat) = i) (hj : lv[j]? = some (i, .int (iI z))) (k : V X cs n Q MR MI ML (pc + 1) lv (.int (iI z) :: st)) : V X cs n Q MR MI ML pc lv st := by
  obtain ⟨p, l, e, R, s, m, args, below, meth, c, nL2, D, Z, A, Qp⟩ := X
  obtain ⟨kx, kb, km, rfl, ko, kt, kK, kr, kl, kA, rfl⟩ := K
  intro H locs ls hl hP hD hS
  exact lv_iload_n kx kb hd hi (lv_at hl j hj) (k H locs ls hl hP hD hS)
theorem v_iload (K : VK X cc own nL ret fr lo mc ms) {i : Nat} {z : Int} (j : Nat) (hd : decode cc pc = .ok (.iload i, 2)) (hj : lv[j]? = some (i, .int (iI z))) (k : V X cs n Q MR MI ML (pc + 2) lv (.int (iI z) :: st)) : V X cs n Q MR MI ML pc lv st := by
  obtain ⟨p, l, e, R, s, m, args, below, meth, c, nL2, D, Z, A, Qp⟩ := X
  obtain ⟨kx, kb, km, rfl, ko, kt, kK, kr, kl, kA, rfl⟩ := K
  intro H locs ls hl hP hD hS
  exact lv_iload kx kb hd (lv_at hl j hj) (k H locs ls hl hP hD hS)
theorem v_lload_n (K : VK X cc own nL ret fr lo mc ms) {f : Fin 4} {i : Nat} {z : Int} (j : Nat) (hd : decode cc pc = .ok (.lload_n f, 1)) (hi : (f : Nat) = i) (hj : lv[j]? = some (i, .long (lJ z))) (k : V X cs n Q MR MI ML (pc + 1) lv (.long (lJ z) :: st)) : V X cs n Q MR MI ML pc lv st := by
  obtain ⟨p, l, e, R, s, m, args, below, meth, c, nL2, D, Z, A, Qp⟩ := X
  obtain ⟨kx, kb, km, rfl, ko, kt, kK, kr, kl, kA, rfl⟩ := K
  intro H locs ls hl hP hD hS
  exact lv_lload_n kx kb hd hi (lv_at hl j hj) (k H locs ls hl hP hD hS)
theorem v_lload (K : VK X cc own nL ret fr lo mc ms) {i : Nat} {z : Int} (j : Nat) (hd : decode cc pc = .ok (.lload i, 2)) (hj : lv[j]? = some (i, .long (lJ z))) (k : V X cs n Q MR MI ML (pc + 2) lv (.long (lJ z) :: st)) : V X cs n Q MR MI ML pc lv st := by
  obtain ⟨p, l, e, R, s, m, args, below, meth, c, nL2, D, Z, A, Qp⟩ := X
  obtain ⟨kx, kb, km, rfl, ko, kt, kK, kr, kl, kA, rfl⟩ := K
  intro H locs ls hl hP hD hS
  exact lv_lload kx kb hd (lv_at hl j hj) (k H locs ls hl hP hD hS)
theorem v_aload_n (K : VK X cc own nL ret fr lo mc ms) {f : Fin 4} {i : Nat} {z : Nat} (j : Nat) (hd : decode cc pc = .ok (.aload_n f, 1)) (hi : (f : Nat) = i) (hj : lv[j]? = some (i, .ref z)) (k : V X cs n Q MR MI ML (pc + 1) lv (.ref z :: st)) : V X cs n Q MR MI ML pc lv st := by
  obtain ⟨p, l, e, R, s, m, args, below, meth, c, nL2, D, Z, A, Qp⟩ := X
  obtain ⟨kx, kb, km, rfl, ko, kt, kK, kr, kl, kA, rfl⟩ := K
  intro H locs ls hl hP hD hS
  exact lv_aload_n kx kb hd hi (lv_at hl j hj) (k H locs ls hl hP hD hS)
theorem v_aload (K : VK X cc own nL ret fr lo mc ms) {i : Nat} {z : Nat} (j : Nat) (hd : decode cc pc = .ok (.aload i, 2)) (hj : lv[j]? = some (i, .ref z)) (k : V X cs n Q MR MI ML (pc + 2) lv (.ref z :: st)) : V X cs n Q MR MI ML pc lv st := by
  obtain ⟨p, l, e, R, s, m, args, below, meth, c, nL2, D, Z, A, Qp⟩ := X
  obtain ⟨kx, kb, km, rfl, ko, kt, kK, kr, kl, kA, rfl⟩ := K
  intro H locs ls hl hP hD hS
  exact lv_aload kx kb hd (lv_at hl j hj) (k H locs ls hl hP hD hS)
theorem v_istore_n (K : VK X cc own nL ret fr lo mc ms) {f : Fin 4} {i : Nat} {z : Int} (lf : Int → List (Nat × Value)) (hd : decode cc pc = .ok (.istore_n f, 1)) (hi : (f : Nat) = i) (hn : i < nL) (hlf : ∀ x, (i, Value.int (iI x)) :: lv.filter (fun q => !(q.1 == i) && !(q.1 + 1 == i && q.2.category == 2)) = lf x) (k : ∀ x, x = z → V X cs n Q MR MI ML (pc + 1) (lf x) st) : V X cs n Q MR MI ML pc lv (.int (iI z) :: st) := by
  obtain ⟨p, l, e, R, s, m, args, below, meth, c, nL2, D, Z, A, Qp⟩ := X
  obtain ⟨kx, kb, km, rfl, ko, kt, kK, kr, kl, kA, rfl⟩ := K
  intro H locs ls hl hP hD hS
  exact lv_istore_n kx kb hd hi hl hn (hlf z) (fun ls hl => k z rfl H locs ls hl hP hD hS)
theorem v_istore (K : VK X cc own nL ret fr lo mc ms) {i : Nat} {z : Int} (lf : Int → List (Nat × Value)) (hd : decode cc pc = .ok (.istore i, 2)) (hn : i < nL) (hlf : ∀ x, (i, Value.int (iI x)) :: lv.filter (fun q => !(q.1 == i) && !(q.1 + 1 == i && q.2.category == 2)) = lf x) (k : ∀ x, x = z → V X cs n Q MR MI ML (pc + 2) (lf x) st) : V X cs n Q MR MI ML pc lv (.int (iI z) :: st) := by
  obtain ⟨p, l, e, R, s, m, args, below, meth, c, nL2, D, Z, A, Qp⟩ := X
  obtain ⟨kx, kb, km, rfl, ko, kt, kK, kr, kl, kA, rfl⟩ := K
  intro H locs ls hl hP hD hS
  exact lv_istore kx kb hd hl hn (hlf z) (fun ls hl => k z rfl H locs ls hl hP hD hS)
theorem v_lstore_n (K : VK X cc own nL ret fr lo mc ms) {f : Fin 4} {i : Nat} {z : Int} (lf : Int → List (Nat × Value)) (hd : decode cc pc = .ok (.lstore_n f, 1)) (hi : (f : Nat) = i) (hn : i + 1 < nL) (hlf : ∀ x, (i, Value.long (lJ x)) :: lv.filter (fun q => !(q.1 == i) && (!(q.1 == i + 1) && !(q.1 + 1 == i && q.2.category == 2))) = lf x) (k : ∀ x, x = z → V X cs n Q MR MI ML (pc + 1) (lf x) st) : V X cs n Q MR MI ML pc lv (.long (lJ z) :: st) := by
  obtain ⟨p, l, e, R, s, m, args, below, meth, c, nL2, D, Z, A, Qp⟩ := X
  obtain ⟨kx, kb, km, rfl, ko, kt, kK, kr, kl, kA, rfl⟩ := K
  intro H locs ls hl hP hD hS
  exact lv_lstore_n kx kb hd hi hl hn (hlf z) (fun ls hl => k z rfl H locs ls hl hP hD hS)
theorem v_lstore (K : VK X cc own nL ret fr lo mc ms) {i : Nat} {z : Int} (lf : Int → List (Nat × Value)) (hd : decode cc pc = .ok (.lstore i, 2)) (hn : i + 1 < nL) (hlf : ∀ x, (i, Value.long (lJ x)) :: lv.filter (fun q => !(q.1 == i) && (!(q.1 == i + 1) && !(q.1 + 1 == i && q.2.category == 2))) = lf x) (k : ∀ x, x = z → V X cs n Q MR MI ML (pc + 2) (lf x) st) : V X cs n Q MR MI ML pc lv (.long (lJ z) :: st) := by
  obtain ⟨p, l, e, R, s, m, args, below, meth, c, nL2, D, Z, A, Qp⟩ := X
  obtain ⟨kx, kb, km, rfl, ko, kt, kK, kr, kl, kA, rfl⟩ := K
  intro H locs ls hl hP hD hS
  exact lv_lstore kx kb hd hl hn (hlf z) (fun ls hl => k z rfl H locs ls hl hP hD hS)
theorem v_astore_n (K : VK X cc own nL ret fr lo mc ms) {f : Fin 4} {i z : Nat} (lv1 : List (Nat × Value)) (hd : decode cc pc = .ok (.astore_n f, 1)) (hi : (f : Nat) = i) (hn : i < nL) (hlf : (i, Value.ref z) :: lv.filter (fun q => !(q.1 == i) && !(q.1 + 1 == i && q.2.category == 2)) = lv1) (k : V X cs n Q MR MI ML (pc + 1) lv1 st) : V X cs n Q MR MI ML pc lv (.ref z :: st) := by
  obtain ⟨p, l, e, R, s, m, args, below, meth, c, nL2, D, Z, A, Qp⟩ := X
  obtain ⟨kx, kb, km, rfl, ko, kt, kK, kr, kl, kA, rfl⟩ := K
  intro H locs ls hl hP hD hS
  exact lv_astore_n kx kb hd hi hl hn hlf (fun ls hl => k H locs ls hl hP hD hS)
theorem v_iinc (K : VK X cc own nL ret fr lo mc ms) {i : Nat} {d z : Int} (j : Nat) (lf : Int → List (Nat × Value)) (hd : decode cc pc = .ok (.iinc i d, 3)) (hj : lv[j]? = some (i, .int (iI z))) (hn : i < nL) (hlf : ∀ x, (i, Value.int (iI x)) :: lv.filter (fun q => !(q.1 == i) && !(q.1 + 1 == i && q.2.category == 2)) = lf x) (k : ∀ x, x = z + d → V X cs n Q MR MI ML (pc + 3) (lf x) st) : V X cs n Q MR MI ML pc lv st := by
  obtain ⟨p, l, e, R, s, m, args, below, meth, c, nL2, D, Z, A, Qp⟩ := X
  obtain ⟨kx, kb, km, rfl, ko, kt, kK, kr, kl, kA, rfl⟩ := K
  intro H locs ls hl hP hD hS
  exact lv_iinc (v := iI (z + d)) kx kb hd hl hj (iI_add z d) hn (hlf (z + d)) (fun ls hl => k (z + d) rfl H locs ls hl hP hD hS)
theorem v_sub (K : VK X cc own nL ret fr lo mc ms) {lv1 : List (Nat × Value)} (ks : List Nat) (h : lv_pick lv ks = lv1) (k : V X cs n Q MR MI ML pc lv1 st) : V X cs n Q MR MI ML pc lv st := by
  obtain ⟨p, l, e, R, s, m, args, below, meth, c, nL2, D, Z, A, Qp⟩ := X
  obtain ⟨kx, kb, km, rfl, ko, kt, kK, kr, kl, kA, rfl⟩ := K
  intro H locs ls hl hP hD hS
  exact k H locs ls (lv_sub hl ks h) hP hD hS
theorem v_iadd (K : VK X cc own nL ret fr lo mc ms) {a b : Int} (hd : decode cc pc = .ok (.iadd, 1)) (k : V X cs n Q MR MI ML (pc + 1) lv (.int (iI (a + b)) :: st)) : V X cs n Q MR MI ML pc lv (.int (iI b) :: .int (iI a) :: st) := by
  obtain ⟨p, l, e, R, s, m, args, below, meth, c, nL2, D, Z, A, Qp⟩ := X
  obtain ⟨kx, kb, km, rfl, ko, kt, kK, kr, kl, kA, rfl⟩ := K
  intro H locs ls hl hP hD hS
  have k9 := k H locs ls hl hP hD hS
  rw [← iI_add] at k9
  exact lv_iadd kx kb hd k9
theorem v_isub (K : VK X cc own nL ret fr lo mc ms) {a b : Int} (hd : decode cc pc = .ok (.isub, 1)) (k : V X cs n Q MR MI ML (pc + 1) lv (.int (iI (a - b)) :: st)) : V X cs n Q MR MI ML pc lv (.int (iI b) :: .int (iI a) :: st) := by
  obtain ⟨p, l, e, R, s, m, args, below, meth, c, nL2, D, Z, A, Qp⟩ := X
  obtain ⟨kx, kb, km, rfl, ko, kt, kK, kr, kl, kA, rfl⟩ := K
  intro H locs ls hl hP hD hS
  have k9 := k H locs ls hl hP hD hS
  rw [← iI_sub] at k9
  exact lv_isub kx kb hd k9
theorem v_imul (K : VK X cc own nL ret fr lo mc ms) {a b : Int} (hd : decode cc pc = .ok (.imul, 1)) (k : V X cs n Q MR MI ML (pc + 1) lv (.int (iI (a * b)) :: st)) : V X cs n Q MR MI ML pc lv (.int (iI b) :: .int (iI a) :: st) := by
  obtain ⟨p, l, e, R, s, m, args, below, meth, c, nL2, D, Z, A, Qp⟩ := X
  obtain ⟨kx, kb, km, rfl, ko, kt, kK, kr, kl, kA, rfl⟩ := K
  intro H locs ls hl hP hD hS
  have k9 := k H locs ls hl hP hD hS
  rw [← iI_mul] at k9
  exact lv_imul kx kb hd k9
theorem v_ladd (K : VK X cc own nL ret fr lo mc ms) {a b : Int} (hd : decode cc pc = .ok (.ladd, 1)) (k : V X cs n Q MR MI ML (pc + 1) lv (.long (lJ (a + b)) :: st)) : V X cs n Q MR MI ML pc lv (.long (lJ b) :: .long (lJ a) :: st) := by
  obtain ⟨p, l, e, R, s, m, args, below, meth, c, nL2, D, Z, A, Qp⟩ := X
  obtain ⟨kx, kb, km, rfl, ko, kt, kK, kr, kl, kA, rfl⟩ := K
  intro H locs ls hl hP hD hS
  have k9 := k H locs ls hl hP hD hS
  rw [← lJ_add] at k9
  exact lv_ladd kx kb hd k9
theorem v_lsub (K : VK X cc own nL ret fr lo mc ms) {a b : Int} (hd : decode cc pc = .ok (.lsub, 1)) (k : V X cs n Q MR MI ML (pc + 1) lv (.long (lJ (a - b)) :: st)) : V X cs n Q MR MI ML pc lv (.long (lJ b) :: .long (lJ a) :: st) := by
  obtain ⟨p, l, e, R, s, m, args, below, meth, c, nL2, D, Z, A, Qp⟩ := X
  obtain ⟨kx, kb, km, rfl, ko, kt, kK, kr, kl, kA, rfl⟩ := K
  intro H locs ls hl hP hD hS
  have k9 := k H locs ls hl hP hD hS
  rw [← lJ_sub] at k9
  exact lv_lsub kx kb hd k9
theorem v_lmul (K : VK X cc own nL ret fr lo mc ms) {a b : Int} (hd : decode cc pc = .ok (.lmul, 1)) (k : V X cs n Q MR MI ML (pc + 1) lv (.long (lJ (a * b)) :: st)) : V X cs n Q MR MI ML pc lv (.long (lJ b) :: .long (lJ a) :: st) := by
  obtain ⟨p, l, e, R, s, m, args, below, meth, c, nL2, D, Z, A, Qp⟩ := X
  obtain ⟨kx, kb, km, rfl, ko, kt, kK, kr, kl, kA, rfl⟩ := K
  intro H locs ls hl hP hD hS
  have k9 := k H locs ls hl hP hD hS
  rw [← lJ_mul] at k9
  exact lv_lmul kx kb hd k9
theorem v_ineg (K : VK X cc own nL ret fr lo mc ms) {a : Int} (hd : decode cc pc = .ok (.ineg, 1)) (k : V X cs n Q MR MI ML (pc + 1) lv (.int (iI (-a)) :: st)) : V X cs n Q MR MI ML pc lv (.int (iI a) :: st) := by
  obtain ⟨p, l, e, R, s, m, args, below, meth, c, nL2, D, Z, A, Qp⟩ := X
  obtain ⟨kx, kb, km, rfl, ko, kt, kK, kr, kl, kA, rfl⟩ := K
  intro H locs ls hl hP hD hS
  have k9 := k H locs ls hl hP hD hS
  rw [← iI_neg] at k9
  exact lv_ineg kx kb hd k9
theorem v_lneg (K : VK X cc own nL ret fr lo mc ms) {a : Int} (hd : decode cc pc = .ok (.lneg, 1)) (k : V X cs n Q MR MI ML (pc + 1) lv (.long (lJ (-a)) :: st)) : V X cs n Q MR MI ML pc lv (.long (lJ a) :: st) := by
  obtain ⟨p, l, e, R, s, m, args, below, meth, c, nL2, D, Z, A, Qp⟩ := X
  obtain ⟨kx, kb, km, rfl, ko, kt, kK, kr, kl, kA, rfl⟩ := K
  intro H locs ls hl hP hD hS
  have k9 := k H locs ls hl hP hD hS
  rw [← lJ_neg] at k9
  exact lv_lneg kx kb hd k9
theorem v_iand (K : VK X cc own nL ret fr lo mc ms) {a b : Int} (z : Int) (hz : iI a &&& iI b = iI z) (hd : decode cc pc = .ok (.iand, 1)) (k : V X cs n Q MR MI ML (pc + 1) lv (.int (iI z) :: st)) : V X cs n Q MR MI ML pc lv (.int (iI b) :: .int (iI a) :: st) := by
  obtain ⟨p, l, e, R, s, m, args, below, meth, c, nL2, D, Z, A, Qp⟩ := X
  obtain ⟨kx, kb, km, rfl, ko, kt, kK, kr, kl, kA, rfl⟩ := K
  intro H locs ls hl hP hD hS
  have k9 := k H locs ls hl hP hD hS
  rw [← hz] at k9
  exact lv_iand kx kb hd k9
theorem v_ixor (K : VK X cc own nL ret fr lo mc ms) {a b : Int} (z : Int) (hz : iI a ^^^ iI b = iI z) (hd : decode cc pc = .ok (.ixor, 1)) (k : V X cs n Q MR MI ML (pc + 1) lv (.int (iI z) :: st)) : V X cs n Q MR MI ML pc lv (.int (iI b) :: .int (iI a) :: st) := by
  obtain ⟨p, l, e, R, s, m, args, below, meth, c, nL2, D, Z, A, Qp⟩ := X
  obtain ⟨kx, kb, km, rfl, ko, kt, kK, kr, kl, kA, rfl⟩ := K
  intro H locs ls hl hP hD hS
  have k9 := k H locs ls hl hP hD hS
  rw [← hz] at k9
  exact lv_ixor kx kb hd k9
theorem v_ishl (K : VK X cc own nL ret fr lo mc ms) {a b : Int} (z : Int) (hz : iI a <<< (iI b &&& 31) = iI z) (hd : decode cc pc = .ok (.ishl, 1)) (k : V X cs n Q MR MI ML (pc + 1) lv (.int (iI z) :: st)) : V X cs n Q MR MI ML pc lv (.int (iI b) :: .int (iI a) :: st) := by
  obtain ⟨p, l, e, R, s, m, args, below, meth, c, nL2, D, Z, A, Qp⟩ := X
  obtain ⟨kx, kb, km, rfl, ko, kt, kK, kr, kl, kA, rfl⟩ := K
  intro H locs ls hl hP hD hS
  have k9 := k H locs ls hl hP hD hS
  rw [← hz] at k9
  exact lv_ishl kx kb hd k9
theorem v_ishr (K : VK X cc own nL ret fr lo mc ms) {a b : Int} (z : Int) (hz : iI a >>> (iI b &&& 31) = iI z) (hd : decode cc pc = .ok (.ishr, 1)) (k : V X cs n Q MR MI ML (pc + 1) lv (.int (iI z) :: st)) : V X cs n Q MR MI ML pc lv (.int (iI b) :: .int (iI a) :: st) := by
  obtain ⟨p, l, e, R, s, m, args, below, meth, c, nL2, D, Z, A, Qp⟩ := X
  obtain ⟨kx, kb, km, rfl, ko, kt, kK, kr, kl, kA, rfl⟩ := K
  intro H locs ls hl hP hD hS
  have k9 := k H locs ls hl hP hD hS
  rw [← hz] at k9
  exact lv_ishr kx kb hd k9
theorem v_idiv (K : VK X cc own nL ret fr lo mc ms) {a b : Int} (z : Int) (h0 : ¬ iI b = 0) (hz : iI a / iI b = iI z) (hd : decode cc pc = .ok (.idiv, 1)) (k : V X cs n Q MR MI ML (pc + 1) lv (.int (iI z) :: st)) : V X cs n Q MR MI ML pc lv (.int (iI b) :: .int (iI a) :: st) := by
  obtain ⟨p, l, e, R, s, m, args, below, meth, c, nL2, D, Z, A, Qp⟩ := X
  obtain ⟨kx, kb, km, rfl, ko, kt, kK, kr, kl, kA, rfl⟩ := K
  intro H locs ls hl hP hD hS
  have k9 := k H locs ls hl hP hD hS
  rw [← hz] at k9
  exact lv_idiv kx kb hd h0 k9
theorem v_irem (K : VK X cc own nL ret fr lo mc ms) {a b : Int} (z : Int) (h0 : ¬ iI b = 0) (hz : iI a - iI a / iI b * iI b = iI z) (hd : decode cc pc = .ok (.irem, 1)) (k : V X cs n Q MR MI ML (pc + 1) lv (.int (iI z) :: st)) : V X cs n Q MR MI ML pc lv (.int (iI b) :: .int (iI a) :: st) := by
  obtain ⟨p, l, e, R, s, m, args, below, meth, c, nL2, D, Z, A, Qp⟩ := X
  obtain ⟨kx, kb, km, rfl, ko, kt, kK, kr, kl, kA, rfl⟩ := K
  intro H locs ls hl hP hD hS
  have k9 := k H locs ls hl hP hD hS
  rw [← hz] at k9
  exact lv_irem kx kb hd h0 k9
theorem v_ldiv (K : VK X cc own nL ret fr lo mc ms) {a b : Int} (z : Int) (h0 : ¬ lJ b = 0) (hz : lJ a / lJ b = lJ z) (hd : decode cc pc = .ok (.ldiv, 1)) (k : V X cs n Q MR MI ML (pc + 1) lv (.long (lJ z) :: st)) : V X cs n Q MR MI ML pc lv (.long (lJ b) :: .long (lJ a) :: st) := by
  obtain ⟨p, l, e, R, s, m, args, below, meth, c, nL2, D, Z, A, Qp⟩ := X
  obtain ⟨kx, kb, km, rfl, ko, kt, kK, kr, kl, kA, rfl⟩ := K
  intro H locs ls hl hP hD hS
  have k9 := k H locs ls hl hP hD hS
  rw [← hz] at k9
  exact lv_ldiv kx kb hd h0 k9
theorem v_lrem (K : VK X cc own nL ret fr lo mc ms) {a b : Int} (z : Int) (h0 : ¬ lJ b = 0) (hz : lJ a - lJ a / lJ b * lJ b = lJ z) (hd : decode cc pc = .ok (.lrem, 1)) (k : V X cs n Q MR MI ML (pc + 1) lv (.long (lJ z) :: st)) : V X cs n Q MR MI ML pc lv (.long (lJ b) :: .long (lJ a) :: st) := by
  obtain ⟨p, l, e, R, s, m, args, below, meth, c, nL2, D, Z, A, Qp⟩ := X
  obtain ⟨kx, kb, km, rfl, ko, kt, kK, kr, kl, kA, rfl⟩ := K
  intro H locs ls hl hP hD hS
  have k9 := k H locs ls hl hP hD hS
  rw [← hz] at k9
  exact lv_lrem kx kb hd h0 k9
theorem v_i2l (K : VK X cc own nL ret fr lo mc ms) {a : Int} (ha : rg a) (hd : decode cc pc = .ok (.i2l, 1)) (k : V X cs n Q MR MI ML (pc + 1) lv (.long (lJ a) :: st)) : V X cs n Q MR MI ML pc lv (.int (iI a) :: st) := by
  obtain ⟨p, l, e, R, s, m, args, below, meth, c, nL2, D, Z, A, Qp⟩ := X
  obtain ⟨kx, kb, km, rfl, ko, kt, kK, kr, kl, kA, rfl⟩ := K
  intro H locs ls hl hP hD hS
  exact lv_i2l kx kb hd (by rw [← Int64.toInt_inj, Int32.toInt_toInt64, iI_T ha, lJ_T ⟨by have := ha.1; omega, by have := ha.2; omega⟩]) (k H locs ls hl hP hD hS)
theorem v_dup (K : VK X cc own nL ret fr lo mc ms) {va : Value} (hd : decode cc pc = .ok (.dup, 1)) (hva : va.category = 1) (k : V X cs n Q MR MI ML (pc + 1) lv (va :: va :: st)) : V X cs n Q MR MI ML pc lv (va :: st) := by
  obtain ⟨p, l, e, R, s, m, args, below, meth, c, nL2, D, Z, A, Qp⟩ := X
  obtain ⟨kx, kb, km, rfl, ko, kt, kK, kr, kl, kA, rfl⟩ := K
  intro H locs ls hl hP hD hS
  exact lv_dup kx kb hd hva (k H locs ls hl hP hD hS)
theorem v_pop (K : VK X cc own nL ret fr lo mc ms) {va : Value} (hd : decode cc pc = .ok (.pop, 1)) (hva : va.category = 1) (k : V X cs n Q MR MI ML (pc + 1) lv st) : V X cs n Q MR MI ML pc lv (va :: st) := by
  obtain ⟨p, l, e, R, s, m, args, below, meth, c, nL2, D, Z, A, Qp⟩ := X
  obtain ⟨kx, kb, km, rfl, ko, kt, kK, kr, kl, kA, rfl⟩ := K
  intro H locs ls hl hP hD hS
  exact lv_pop kx kb hd hva (k H locs ls hl hP hD hS)
theorem v_dup2_11 (K : VK X cc own nL ret fr lo mc ms) {va vb : Value} (hd : decode cc pc = .ok (.dup2, 1)) (hva : va.category = 1) (hvb : vb.category = 1) (k : V X cs n Q MR MI ML (pc + 1) lv (va :: vb :: va :: vb :: st)) : V X cs n Q MR MI ML pc lv (va :: vb :: st) := by
  obtain ⟨p, l, e, R, s, m, args, below, meth, c, nL2, D, Z, A, Qp⟩ := X
  obtain ⟨kx, kb, km, rfl, ko, kt, kK, kr, kl, kA, rfl⟩ := K
  intro H locs ls hl hP hD hS
  exact lv_dup2_11 kx kb hd hva hvb (k H locs ls hl hP hD hS)
theorem v_goto (K : VK X cc own nL ret fr lo mc ms) {off : Int} (tgt : Nat) (hd : decode cc pc = .ok (.goto off, 3)) (ht : (pc : Int) + off = (tgt : Int)) (k : V X cs n Q MR MI ML tgt lv st) : V X cs n Q MR MI ML pc lv st := by
  obtain ⟨p, l, e, R, s, m, args, below, meth, c, nL2, D, Z, A, Qp⟩ := X
  obtain ⟨kx, kb, km, rfl, ko, kt, kK, kr, kl, kA, rfl⟩ := K
  intro H locs ls hl hP hD hS
  exact lv_goto kx kb hd ht (k H locs ls hl hP hD hS)
theorem v_icmp_eq (K : VK X cc own nL ret fr lo mc ms) {a b off : Int} (tgt : Nat) (ha : rg a) (hb : rg b) (hd : decode cc pc = .ok (.if_icmp .eq off, 3)) (ht : (pc : Int) + off = (tgt : Int)) (kt : a = b → V X cs n Q MR MI ML tgt lv st) (kf : a ≠ b → V X cs n Q MR MI ML (pc + 3) lv st) : V X cs n Q MR MI ML pc lv (.int (iI b) :: .int (iI a) :: st) := by
  obtain ⟨p, l, e, R, s, m, args, below, meth, c, nL2, D, Z, A, Qp⟩ := X
  obtain ⟨kx, kb, km, rfl, ko, kt, kK, kr, kl, kA, rfl⟩ := K
  intro H locs ls hl hP hD hS
  refine lv_icmp_eq kx kb hd ht (fun q => kt ?_ H locs ls hl hP hD hS) (fun q => kf ?_ H locs ls hl hP hD hS)
  · simp only [ge_iff_le, gt_iff_lt, ne_eq, iI_lt ha hb, iI_lt hb ha, iI_le ha hb, iI_le hb ha, iI_eq ha hb, Decidable.not_not] at q
    omega
  · simp only [ge_iff_le, gt_iff_lt, ne_eq, iI_lt ha hb, iI_lt hb ha, iI_le ha hb, iI_le hb ha, iI_eq ha hb, Decidable.not_not] at q
    omega
theorem v_if_eq (K : VK X cc own nL ret fr lo mc ms) {a off : Int} (tgt : Nat) (ha : rg a) (hd : decode cc pc = .ok (.ifCond .eq off, 3)) (ht : (pc : Int) + off = (tgt : Int)) (kt : a = 0 → V X cs n Q MR MI ML tgt lv st) (kf : a ≠ 0 → V X cs n Q MR MI ML (pc + 3) lv st) : V X cs n Q MR MI ML pc lv (.int (iI a) :: st) := by
  obtain ⟨p, l, e, R, s, m, args, below, meth, c, nL2, D, Z, A, Qp⟩ := X
  obtain ⟨kx, kb, km, rfl, ko, kt, kK, kr, kl, kA, rfl⟩ := K
  intro H locs ls hl hP hD hS
  refine lv_if_eq kx kb hd ht (fun q => kt ?_ H locs ls hl hP hD hS) (fun q => kf ?_ H locs ls hl hP hD hS)
  · simp only [ge_iff_le, gt_iff_lt, ne_eq, iI_0, iI_lt ha rg_0, iI_lt rg_0 ha, iI_le ha rg_0, iI_le rg_0 ha, iI_eq ha rg_0, Decidable.not_not] at q
    omega
  · simp only [ge_iff_le, gt_iff_lt, ne_eq, iI_0, iI_lt ha rg_0, iI_lt rg_0 ha, iI_le ha rg_0, iI_le rg_0 ha, iI_eq ha rg_0, Decidable.not_not] at q
    omega
theorem v_lcmp_eq (K : VK X cc own nL ret fr lo mc ms) {a b off : Int} (tgt : Nat) (ha : rl a) (hb : rl b) (hd1 : decode cc pc = .ok (.lcmp, 1)) (hd : decode cc (pc + 1) = .ok (.ifCond .eq off, 3)) (ht : ((pc + 1 : Nat) : Int) + off = (tgt : Int)) (kt : a = b → V X cs n Q MR MI ML tgt lv st) (kf : a ≠ b → V X cs n Q MR MI ML (pc + 1 + 3) lv st) : V X cs n Q MR MI ML pc lv (.long (lJ b) :: .long (lJ a) :: st) := by
  obtain ⟨p, l, e, R, s, m, args, below, meth, c, nL2, D, Z, A, Qp⟩ := X
  obtain ⟨kx, kb, km, rfl, ko, kt, kK, kr, kl, kA, rfl⟩ := K
  intro H locs ls hl hP hD hS
  have h1 : lg_cmp (lJ a) (lJ b) = iI (if b < a then 1 else if a = b then 0 else -1) := by
    unfold lg_cmp
    simp only [gt_iff_lt, lJ_lt hb ha, lJ_eq ha hb]
    split
    · rfl
    · split <;> rfl
  refine W.lcmp kx kb hd1 ?_
  rw [h1]
  have hr : rg (if b < a then 1 else if a = b then 0 else -1) := by
    split
    · exact ⟨by decide, by decide⟩
    · split <;> exact ⟨by decide, by decide⟩
  refine lv_if_eq kx kb hd ht (fun q => kt ?_ H locs ls hl hP hD hS) (fun q => kf ?_ H locs ls hl hP hD hS)
  · simp only [ge_iff_le, gt_iff_lt, ne_eq, iI_0, iI_lt hr rg_0, iI_lt rg_0 hr, iI_le hr rg_0, iI_le rg_0 hr, iI_eq hr rg_0, Decidable.not_not] at q
    split at q
    · omega
    · split at q <;> omega
  · simp only [ge_iff_le, gt_iff_lt, ne_eq, iI_0, iI_lt hr rg_0, iI_lt rg_0 hr, iI_le hr rg_0, iI_le rg_0 hr, iI_eq hr rg_0, Decidable.not_not] at q
    split at q
    · omega
    · split at q <;> omega
theorem v_icmp_ne (K : VK X cc own nL ret fr lo mc ms) {a b off : Int} (tgt : Nat) (ha : rg a) (hb : rg b) (hd : decode cc pc = .ok (.if_icmp .ne off, 3)) (ht : (pc : Int) + off = (tgt : Int)) (kt : a ≠ b → V X cs n Q MR MI ML tgt lv st) (kf : a = b → V X cs n Q MR MI ML (pc + 3) lv st) : V X cs n Q MR MI ML pc lv (.int (iI b) :: .int (iI a) :: st) := by
  obtain ⟨p, l, e, R, s, m, args, below, meth, c, nL2, D, Z, A, Qp⟩ := X
  obtain ⟨kx, kb, km, rfl, ko, kt, kK, kr, kl, kA, rfl⟩ := K
  intro H locs ls hl hP hD hS
  refine lv_icmp_ne kx kb hd ht (fun q => kt ?_ H locs ls hl hP hD hS) (fun q => kf ?_ H locs ls hl hP hD hS)
  · simp only [ge_iff_le, gt_iff_lt, ne_eq, iI_lt ha hb, iI_lt hb ha, iI_le ha hb, iI_le hb ha, iI_eq ha hb, Decidable.not_not] at q
    omega
  · simp only [ge_iff_le, gt_iff_lt, ne_eq, iI_lt ha hb, iI_lt hb ha, iI_le ha hb, iI_le hb ha, iI_eq ha hb, Decidable.not_not] at q
    omega
theorem v_if_ne (K : VK X cc own nL ret fr lo mc ms) {a off : Int} (tgt : Nat) (ha : rg a) (hd : decode cc pc = .ok (.ifCond .ne off, 3)) (ht : (pc : Int) + off = (tgt : Int)) (kt : a ≠ 0 → V X cs n Q MR MI ML tgt lv st) (kf : a = 0 → V X cs n Q MR MI ML (pc + 3) lv st) : V X cs n Q MR MI ML pc lv (.int (iI a) :: st) := by
  obtain ⟨p, l, e, R, s, m, args, below, meth, c, nL2, D, Z, A, Qp⟩ := X
  obtain ⟨kx, kb, km, rfl, ko, kt, kK, kr, kl, kA, rfl⟩ := K
  intro H locs ls hl hP hD hS
  refine lv_if_ne kx kb hd ht (fun q => kt ?_ H locs ls hl hP hD hS) (fun q => kf ?_ H locs ls hl hP hD hS)
  · simp only [ge_iff_le, gt_iff_lt, ne_eq, iI_0, iI_lt ha rg_0, iI_lt rg_0 ha, iI_le ha rg_0, iI_le rg_0 ha, iI_eq ha rg_0, Decidable.not_not] at q
    omega
  · simp only [ge_iff_le, gt_iff_lt, ne_eq, iI_0, iI_lt ha rg_0, iI_lt rg_0 ha, iI_le ha rg_0, iI_le rg_0 ha, iI_eq ha rg_0, Decidable.not_not] at q
    omega
theorem v_lcmp_ne (K : VK X cc own nL ret fr lo mc ms) {a b off : Int} (tgt : Nat) (ha : rl a) (hb : rl b) (hd1 : decode cc pc = .ok (.lcmp, 1)) (hd : decode cc (pc + 1) = .ok (.ifCond .ne off, 3)) (ht : ((pc + 1 : Nat) : Int) + off = (tgt : Int)) (kt : a ≠ b → V X cs n Q MR MI ML tgt lv st) (kf : a = b → V X cs n Q MR MI ML (pc + 1 + 3) lv st) : V X cs n Q MR MI ML pc lv (.long (lJ b) :: .long (lJ a) :: st) := by
  obtain ⟨p, l, e, R, s, m, args, below, meth, c, nL2, D, Z, A, Qp⟩ := X
  obtain ⟨kx, kb, km, rfl, ko, kt, kK, kr, kl, kA, rfl⟩ := K
  intro H locs ls hl hP hD hS
  have h1 : lg_cmp (lJ a) (lJ b) = iI (if b < a then 1 else if a = b then 0 else -1) := by
    unfold lg_cmp
    simp only [gt_iff_lt, lJ_lt hb ha, lJ_eq ha hb]
    split
    · rfl
    · split <;> rfl
  refine W.lcmp kx kb hd1 ?_
  rw [h1]
  have hr : rg (if b < a then 1 else if a = b then 0 else -1) := by
    split
    · exact ⟨by decide, by decide⟩
    · split <;> exact ⟨by decide, by decide⟩
  refine lv_if_ne kx kb hd ht (fun q => kt ?_ H locs ls hl hP hD hS) (fun q => kf ?_ H locs ls hl hP hD hS)
  · simp only [ge_iff_le, gt_iff_lt, ne_eq, iI_0, iI_lt hr rg_0, iI_lt rg_0 hr, iI_le hr rg_0, iI_le rg_0 hr, iI_eq hr rg_0, Decidable.not_not] at q
    split at q
    · omega
    · split at q <;> omega
  · simp only [ge_iff_le, gt_iff_lt, ne_eq, iI_0, iI_lt hr rg_0, iI_lt rg_0 hr, iI_le hr rg_0, iI_le rg_0 hr, iI_eq hr rg_0, Decidable.not_not] at q
    split at q
    · omega
    · split at q <;> omega
theorem v_icmp_lt (K : VK X cc own nL ret fr lo mc ms) {a b off : Int} (tgt : Nat) (ha : rg a) (hb : rg b) (hd : decode cc pc = .ok (.if_icmp .lt off, 3)) (ht : (pc : Int) + off = (tgt : Int)) (kt : a < b → V X cs n Q MR MI ML tgt lv st) (kf : b ≤ a → V X cs n Q MR MI ML (pc + 3) lv st) : V X cs n Q MR MI ML pc lv (.int (iI b) :: .int (iI a) :: st) := by
  obtain ⟨p, l, e, R, s, m, args, below, meth, c, nL2, D, Z, A, Qp⟩ := X
  obtain ⟨kx, kb, km, rfl, ko, kt, kK, kr, kl, kA, rfl⟩ := K
  intro H locs ls hl hP hD hS
  refine lv_icmp_lt kx kb hd ht (fun q => kt ?_ H locs ls hl hP hD hS) (fun q => kf ?_ H locs ls hl hP hD hS)
  · simp only [ge_iff_le, gt_iff_lt, ne_eq, iI_lt ha hb, iI_lt hb ha, iI_le ha hb, iI_le hb ha, iI_eq ha hb, Decidable.not_not] at q
    omega
  · simp only [ge_iff_le, gt_iff_lt, ne_eq, iI_lt ha hb, iI_lt hb ha, iI_le ha hb, iI_le hb ha, iI_eq ha hb, Decidable.not_not] at q
    omega
theorem v_if_lt (K : VK X cc own nL ret fr lo mc ms) {a off : Int} (tgt : Nat) (ha : rg a) (hd : decode cc pc = .ok (.ifCond .lt off, 3)) (ht : (pc : Int) + off = (tgt : Int)) (kt : a < 0 → V X cs n Q MR MI ML tgt lv st) (kf : 0 ≤ a → V X cs n Q MR MI ML (pc + 3) lv st) : V X cs n Q MR MI ML pc lv (.int (iI a) :: st) := by
  obtain ⟨p, l, e, R, s, m, args, below, meth, c, nL2, D, Z, A, Qp⟩ := X
  obtain ⟨kx, kb, km, rfl, ko, kt, kK, kr, kl, kA, rfl⟩ := K
  intro H locs ls hl hP hD hS
  refine lv_if_lt kx kb hd ht (fun q => kt ?_ H locs ls hl hP hD hS) (fun q => kf ?_ H locs ls hl hP hD hS)
  · simp only [ge_iff_le, gt_iff_lt, ne_eq, iI_0, iI_lt ha rg_0, iI_lt rg_0 ha, iI_le ha rg_0, iI_le rg_0 ha, iI_eq ha rg_0, Decidable.not_not] at q
    omega
  · simp only [ge_iff_le, gt_iff_lt, ne_eq, iI_0, iI_lt ha rg_0, iI_lt rg_0 ha, iI_le ha rg_0, iI_le rg_0 ha, iI_eq ha rg_0, Decidable.not_not] at q
    omega
theorem v_lcmp_lt (K : VK X cc own nL ret fr lo mc ms) {a b off : Int} (tgt : Nat) (ha : rl a) (hb : rl b) (hd1 : decode cc pc = .ok (.lcmp, 1)) (hd : decode cc (pc + 1) = .ok (.ifCond .lt off, 3)) (ht : ((pc + 1 : Nat) : Int) + off = (tgt : Int)) (kt : a < b → V X cs n Q MR MI ML tgt lv st) (kf : b ≤ a → V X cs n Q MR MI ML (pc + 1 + 3) lv st) : V X cs n Q MR MI ML pc lv (.long (lJ b) :: .long (lJ a) :: st) := by
  obtain ⟨p, l, e, R, s, m, args, below, meth, c, nL2, D, Z, A, Qp⟩ := X
  obtain ⟨kx, kb, km, rfl, ko, kt, kK, kr, kl, kA, rfl⟩ := K
  intro H locs ls hl hP hD hS
  have h1 : lg_cmp (lJ a) (lJ b) = iI (if b < a then 1 else if a = b then 0 else -1) := by
    unfold lg_cmp
    simp only [gt_iff_lt, lJ_lt hb ha, lJ_eq ha hb]
    split
    · rfl
    · split <;> rfl
  refine W.lcmp kx kb hd1 ?_
  rw [h1]
  have hr : rg (if b < a then 1 else if a = b then 0 else -1) := by
    split
    · exact ⟨by decide, by decide⟩
    · split <;> exact ⟨by decide, by decide⟩
  refine lv_if_lt kx kb hd ht (fun q => kt ?_ H locs ls hl hP hD hS) (fun q => kf ?_ H locs ls hl hP hD hS)
  · simp only [ge_iff_le, gt_iff_lt, ne_eq, iI_0, iI_lt hr rg_0, iI_lt rg_0 hr, iI_le hr rg_0, iI_le rg_0 hr, iI_eq hr rg_0, Decidable.not_not] at q
    split at q
    · omega
    · split at q <;> omega
  · simp only [ge_iff_le, gt_iff_lt, ne_eq, iI_0, iI_lt hr rg_0, iI_lt rg_0 hr, iI_le hr rg_0, iI_le rg_0 hr, iI_eq hr rg_0, Decidable.not_not] at q
    split at q
    · omega
    · split at q <;> omega
theorem v_icmp_ge (K : VK X cc own nL ret fr lo mc ms) {a b off : Int} (tgt : Nat) (ha : rg a) (hb : rg b) (hd : decode cc pc = .ok (.if_icmp .ge off, 3)) (ht : (pc : Int) + off = (tgt : Int)) (kt : b ≤ a → V X cs n Q MR MI ML tgt lv st) (kf : a < b → V X cs n Q MR MI ML (pc + 3) lv st) : V X cs n Q MR MI ML pc lv (.int (iI b) :: .int (iI a) :: st) := by
  obtain ⟨p, l, e, R, s, m, args, below, meth, c, nL2, D, Z, A, Qp⟩ := X
  obtain ⟨kx, kb, km, rfl, ko, kt, kK, kr, kl, kA, rfl⟩ := K
  intro H locs ls hl hP hD hS
  refine lv_icmp_ge kx kb hd ht (fun q => kt ?_ H locs ls hl hP hD hS) (fun q => kf ?_ H locs ls hl hP hD hS)
  · simp only [ge_iff_le, gt_iff_lt, ne_eq, iI_lt ha hb, iI_lt hb ha, iI_le ha hb, iI_le hb ha, iI_eq ha hb, Decidable.not_not] at q
    omega
  · simp only [ge_iff_le, gt_iff_lt, ne_eq, iI_lt ha hb, iI_lt hb ha, iI_le ha hb, iI_le hb ha, iI_eq ha hb, Decidable.not_not] at q
    omega
theorem v_if_ge (K : VK X cc own nL ret fr lo mc ms) {a off : Int} (tgt : Nat) (ha : rg a) (hd : decode cc pc = .ok (.ifCond .ge off, 3)) (ht : (pc : Int) + off = (tgt : Int)) (kt : 0 ≤ a → V X cs n Q MR MI ML tgt lv st) (kf : a < 0 → V X cs n Q MR MI ML (pc + 3) lv st) : V X cs n Q MR MI ML pc lv (.int (iI a) :: st) := by
  obtain ⟨p, l, e, R, s, m, args, below, meth, c, nL2, D, Z, A, Qp⟩ := X
  obtain ⟨kx, kb, km, rfl, ko, kt, kK, kr, kl, kA, rfl⟩ := K
  intro H locs ls hl hP hD hS
  refine lv_if_ge kx kb hd ht (fun q => kt ?_ H locs ls hl hP hD hS) (fun q => kf ?_ H locs ls hl hP hD hS)
  · simp only [ge_iff_le, gt_iff_lt, ne_eq, iI_0, iI_lt ha rg_0, iI_lt rg_0 ha, iI_le ha rg_0, iI_le rg_0 ha, iI_eq ha rg_0, Decidable.not_not] at q
    omega
  · simp only [ge_iff_le, gt_iff_lt, ne_eq, iI_0, iI_lt ha rg_0, iI_lt rg_0 ha, iI_le ha rg_0, iI_le rg_0 ha, iI_eq ha rg_0, Decidable.not_not] at q
    omega
theorem v_lcmp_ge (K : VK X cc own nL ret fr lo mc ms) {a b off : Int} (tgt : Nat) (ha : rl a) (hb : rl b) (hd1 : decode cc pc = .ok (.lcmp, 1)) (hd : decode cc (pc + 1) = .ok (.ifCond .ge off, 3)) (ht : ((pc + 1 : Nat) : Int) + off = (tgt : Int)) (kt : b ≤ a → V X cs n Q MR MI ML tgt lv st) (kf : a < b → V X cs n Q MR MI ML (pc + 1 + 3) lv st) : V X cs n Q MR MI ML pc lv (.long (lJ b) :: .long (lJ a) :: st) := by
  obtain ⟨p, l, e, R, s, m, args, below, meth, c, nL2, D, Z, A, Qp⟩ := X
  obtain ⟨kx, kb, km, rfl, ko, kt, kK, kr, kl, kA, rfl⟩ := K
  intro H locs ls hl hP hD hS
  have h1 : lg_cmp (lJ a) (lJ b) = iI (if b < a then 1 else if a = b then 0 else -1) := by
    unfold lg_cmp
    simp only [gt_iff_lt, lJ_lt hb ha, lJ_eq ha hb]
    split
    · rfl
    · split <;> rfl
  refine W.lcmp kx kb hd1 ?_
  rw [h1]
  have hr : rg (if b < a then 1 else if a = b then 0 else -1) := by
    split
    · exact ⟨by decide, by decide⟩
    · split <;> exact ⟨by decide, by decide⟩
  refine lv_if_ge kx kb hd ht (fun q => kt ?_ H locs ls hl hP hD hS) (fun q => kf ?_ H locs ls hl hP hD hS)
  · simp only [ge_iff_le, gt_iff_lt, ne_eq, iI_0, iI_lt hr rg_0, iI_lt rg_0 hr, iI_le hr rg_0, iI_le rg_0 hr, iI_eq hr rg_0, Decidable.not_not] at q
    split at q
    · omega
    · split at q <;> omega
  · simp only [ge_iff_le, gt_iff_lt, ne_eq, iI_0, iI_lt hr rg_0, iI_lt rg_0 hr, iI_le hr rg_0, iI_le rg_0 hr, iI_eq hr rg_0, Decidable.not_not] at q
    split at q
    · omega
    · split at q <;> omega
theorem v_icmp_gt (K : VK X cc own nL ret fr lo mc ms) {a b off : Int} (tgt : Nat) (ha : rg a) (hb : rg b) (hd : decode cc pc = .ok (.if_icmp .gt off, 3)) (ht : (pc : Int) + off = (tgt : Int)) (kt : b < a → V X cs n Q MR MI ML tgt lv st) (kf : a ≤ b → V X cs n Q MR MI ML (pc + 3) lv st) : V X cs n Q MR MI ML pc lv (.int (iI b) :: .int (iI a) :: st) := by
  obtain ⟨p, l, e, R, s, m, args, below, meth, c, nL2, D, Z, A, Qp⟩ := X
  obtain ⟨kx, kb, km, rfl, ko, kt, kK, kr, kl, kA, rfl⟩ := K
  intro H locs ls hl hP hD hS
  refine lv_icmp_gt kx kb hd ht (fun q => kt ?_ H locs ls hl hP hD hS) (fun q => kf ?_ H locs ls hl hP hD hS)
  · simp only [ge_iff_le, gt_iff_lt, ne_eq, iI_lt ha hb, iI_lt hb ha, iI_le ha hb, iI_le hb ha, iI_eq ha hb, Decidable.not_not] at q
    omega
  · simp only [ge_iff_le, gt_iff_lt, ne_eq, iI_lt ha hb, iI_lt hb ha, iI_le ha hb, iI_le hb ha, iI_eq ha hb, Decidable.not_not] at q
    omega
theorem v_if_gt (K : VK X cc own nL ret fr lo mc ms) {a off : Int} (tgt : Nat) (ha : rg a) (hd : decode cc pc = .ok (.ifCond .gt off, 3)) (ht : (pc : Int) + off = (tgt : Int)) (kt : 0 < a → V X cs n Q MR MI ML tgt lv st) (kf : a ≤ 0 → V X cs n Q MR MI ML (pc + 3) lv st) : V X cs n Q MR MI ML pc lv (.int (iI a) :: st) := by
  obtain ⟨p, l, e, R, s, m, args, below, meth, c, nL2, D, Z, A, Qp⟩ := X
  obtain ⟨kx, kb, km, rfl, ko, kt, kK, kr, kl, kA, rfl⟩ := K
  intro H locs ls hl hP hD hS
  refine lv_if_gt kx kb hd ht (fun q => kt ?_ H locs ls hl hP hD hS) (fun q => kf ?_ H locs ls hl hP hD hS)
  · simp only [ge_iff_le, gt_iff_lt, ne_eq, iI_0, iI_lt ha rg_0, iI_lt rg_0 ha, iI_le ha rg_0, iI_le rg_0 ha, iI_eq ha rg_0, Decidable.not_not] at q
    omega
  · simp only [ge_iff_le, gt_iff_lt, ne_eq, iI_0, iI_lt ha rg_0, iI_lt rg_0 ha, iI_le ha rg_0, iI_le rg_0 ha, iI_eq ha rg_0, Decidable.not_not] at q
    omega
theorem v_lcmp_gt (K : VK X cc own nL ret fr lo mc ms) {a b off : Int} (tgt : Nat) (ha : rl a) (hb : rl b) (hd1 : decode cc pc = .ok (.lcmp, 1)) (hd : decode cc (pc + 1) = .ok (.ifCond .gt off, 3)) (ht : ((pc + 1 : Nat) : Int) + off = (tgt : Int)) (kt : b < a → V X cs n Q MR MI ML tgt lv st) (kf : a ≤ b → V X cs n Q MR MI ML (pc + 1 + 3) lv st) : V X cs n Q MR MI ML pc lv (.long (lJ b) :: .long (lJ a) :: st) := by
  obtain ⟨p, l, e, R, s, m, args, below, meth, c, nL2, D, Z, A, Qp⟩ := X
  obtain ⟨kx, kb, km, rfl, ko, kt, kK, kr, kl, kA, rfl⟩ := K
  intro H locs ls hl hP hD hS
  have h1 : lg_cmp (lJ a) (lJ b) = iI (if b < a then 1 else if a = b then 0 else -1) := by
    unfold lg_cmp
    simp only [gt_iff_lt, lJ_lt hb ha, lJ_eq ha hb]
    split
    · rfl
    · split <;> rfl
  refine W.lcmp kx kb hd1 ?_
  rw [h1]
  have hr : rg (if b < a then 1 else if a = b then 0 else -1) := by
    split
    · exact ⟨by decide, by decide⟩
    · split <;> exact ⟨by decide, by decide⟩
  refine lv_if_gt kx kb hd ht (fun q => kt ?_ H locs ls hl hP hD hS) (fun q => kf ?_ H locs ls hl hP hD hS)
  · simp only [ge_iff_le, gt_iff_lt, ne_eq, iI_0, iI_lt hr rg_0, iI_lt rg_0 hr, iI_le hr rg_0, iI_le rg_0 hr, iI_eq hr rg_0, Decidable.not_not] at q
    split at q
    · omega
    · split at q <;> omega
  · simp only [ge_iff_le, gt_iff_lt, ne_eq, iI_0, iI_lt hr rg_0, iI_lt rg_0 hr, iI_le hr rg_0, iI_le rg_0 hr, iI_eq hr rg_0, Decidable.not_not] at q
    split at q
    · omega
    · split at q <;> omega
theorem v_icmp_le (K : VK X cc own nL ret fr lo mc ms) {a b off : Int} (tgt : Nat) (ha : rg a) (hb : rg b) (hd : decode cc pc = .ok (.if_icmp .le off, 3)) (ht : (pc : Int) + off = (tgt : Int)) (kt : a ≤ b → V X cs n Q MR MI ML tgt lv st) (kf : b < a → V X cs n Q MR MI ML (pc + 3) lv st) : V X cs n Q MR MI ML pc lv (.int (iI b) :: .int (iI a) :: st) := by
  obtain ⟨p, l, e, R, s, m, args, below, meth, c, nL2, D, Z, A, Qp⟩ := X
  obtain ⟨kx, kb, km, rfl, ko, kt, kK, kr, kl, kA, rfl⟩ := K
  intro H locs ls hl hP hD hS
  refine lv_icmp_le kx kb hd ht (fun q => kt ?_ H locs ls hl hP hD hS) (fun q => kf ?_ H locs ls hl hP hD hS)
  · simp only [ge_iff_le, gt_iff_lt, ne_eq, iI_lt ha hb, iI_lt hb ha, iI_le ha hb, iI_le hb ha, iI_eq ha hb, Decidable.not_not] at q
    omega
  · simp only [ge_iff_le, gt_iff_lt, ne_eq, iI_lt ha hb, iI_lt hb ha, iI_le ha hb, iI_le hb ha, iI_eq ha hb, Decidable.not_not] at q
    omega
theorem v_if_le (K : VK X cc own nL ret fr lo mc ms) {a off : Int} (tgt : Nat) (ha : rg a) (hd : decode cc pc = .ok (.ifCond .le off, 3)) (ht : (pc : Int) + off = (tgt : Int)) (kt : a ≤ 0 → V X cs n Q MR MI ML tgt lv st) (kf : 0 < a → V X cs n Q MR MI ML (pc + 3) lv st) : V X cs n Q MR MI ML pc lv (.int (iI a) :: st) := by
  obtain ⟨p, l, e, R, s, m, args, below, meth, c, nL2, D, Z, A, Qp⟩ := X
  obtain ⟨kx, kb, km, rfl, ko, kt, kK, kr, kl, kA, rfl⟩ := K
  intro H locs ls hl hP hD hS
  refine lv_if_le kx kb hd ht (fun q => kt ?_ H locs ls hl hP hD hS) (fun q => kf ?_ H locs ls hl hP hD hS)
  · simp only [ge_iff_le, gt_iff_lt, ne_eq, iI_0, iI_lt ha rg_0, iI_lt rg_0 ha, iI_le ha rg_0, iI_le rg_0 ha, iI_eq ha rg_0, Decidable.not_not] at q
    omega
  · simp only [ge_iff_le, gt_iff_lt, ne_eq, iI_0, iI_lt ha rg_0, iI_lt rg_0 ha, iI_le ha rg_0, iI_le rg_0 ha, iI_eq ha rg_0, Decidable.not_not] at q
    omega
theorem v_lcmp_le (K : VK X cc own nL ret fr lo mc ms) {a b off : Int} (tgt : Nat) (ha : rl a) (hb : rl b) (hd1 : decode cc pc = .ok (.lcmp, 1)) (hd : decode cc (pc + 1) = .ok (.ifCond .le off, 3)) (ht : ((pc + 1 : Nat) : Int) + off = (tgt : Int)) (kt : a ≤ b → V X cs n Q MR MI ML tgt lv st) (kf : b < a → V X cs n Q MR MI ML (pc + 1 + 3) lv st) : V X cs n Q MR MI ML pc lv (.long (lJ b) :: .long (lJ a) :: st) := by
  obtain ⟨p, l, e, R, s, m, args, below, meth, c, nL2, D, Z, A, Qp⟩ := X
  obtain ⟨kx, kb, km, rfl, ko, kt, kK, kr, kl, kA, rfl⟩ := K
  intro H locs ls hl hP hD hS
  have h1 : lg_cmp (lJ a) (lJ b) = iI (if b < a then 1 else if a = b then 0 else -1) := by
    unfold lg_cmp
    simp only [gt_iff_lt, lJ_lt hb ha, lJ_eq ha hb]
    split
    · rfl
    · split <;> rfl
  refine W.lcmp kx kb hd1 ?_
  rw [h1]
  have hr : rg (if b < a then 1 else if a = b then 0 else -1) := by
    split
    · exact ⟨by decide, by decide⟩
    · split <;> exact ⟨by decide, by decide⟩
  refine lv_if_le kx kb hd ht (fun q => kt ?_ H locs ls hl hP hD hS) (fun q => kf ?_ H locs ls hl hP hD hS)
  · simp only [ge_iff_le, gt_iff_lt, ne_eq, iI_0, iI_lt hr rg_0, iI_lt rg_0 hr, iI_le hr rg_0, iI_le rg_0 hr, iI_eq hr rg_0, Decidable.not_not] at q
    split at q
    · omega
    · split at q <;> omega
  · simp only [ge_iff_le, gt_iff_lt, ne_eq, iI_0, iI_lt hr rg_0, iI_lt rg_0 hr, iI_le hr rg_0, iI_le rg_0 hr, iI_eq hr rg_0, Decidable.not_not] at q
    split at q
    · omega
    · split at q <;> omega
theorem v_tableOut (K : VK X cc own nL ret fr lo mc ms) {a dflt l1 h1 : Int} {offs : Array Int} {len : Nat} (tgt : Nat) (ha : rg a) (hd : decode cc pc = .ok (.tableswitch dflt l1 h1 offs, len)) (h : a < l1 ∨ h1 < a) (ht : (pc : Int) + dflt = (tgt : Int)) (k : V X cs n Q MR MI ML tgt lv st) : V X cs n Q MR MI ML pc lv (.int (iI a) :: st) := by
  obtain ⟨p, l, e, R, s, m, args, below, meth, c, nL2, D, Z, A, Qp⟩ := X
  obtain ⟨kx, kb, km, rfl, ko, kt, kK, kr, kl, kA, rfl⟩ := K
  intro H locs ls hl hP hD hS
  exact lv_tableOut kx kb hd (by rw [iI_T ha]; exact h) ht (k H locs ls hl hP hD hS)
theorem v_tableIn (K : VK X cc own nL ret fr lo mc ms) {a dflt l1 h1 off : Int} {offs : Array Int} {len : Nat} (tgt : Nat) (ha : rg a) (hd : decode cc pc = .ok (.tableswitch dflt l1 h1 offs, len)) (h : l1 ≤ a ∧ a ≤ h1) (ho : offs[(a - l1).toNat]? = some off) (ht : (pc : Int) + off = (tgt : Int)) (k : V X cs n Q MR MI ML tgt lv st) : V X cs n Q MR MI ML pc lv (.int (iI a) :: st) := by
  obtain ⟨p, l, e, R, s, m, args, below, meth, c, nL2, D, Z, A, Qp⟩ := X
  obtain ⟨kx, kb, km, rfl, ko, kt, kK, kr, kl, kA, rfl⟩ := K
  intro H locs ls hl hP hD hS
  exact lv_tableIn kx kb hd (by rw [iI_T ha]; omega) (by rw [iI_T ha]; omega) (by rw [iI_T ha]; exact ho) ht (k H locs ls hl hP hD hS)
theorem v_lookup (K : VK X cc own nL ret fr lo mc ms) {a dflt off : Int} {ps : Array (Int × Int)} {len : Nat} (tgt : Nat) (ha : rg a) (hd : decode cc pc = .ok (.lookupswitch dflt ps, len)) (hp : (ps.toList.zip (ps.toList.drop 1)).all (fun (a, next) => a.1 < next.1) = true) (ho : Op.lookupswitch.offset ps.toList dflt a = off) (ht : (pc : Int) + off = (tgt : Int)) (k : V X cs n Q MR MI ML tgt lv st) : V X cs n Q MR MI ML pc lv (.int (iI a) :: st) := by
  obtain ⟨p, l, e, R, s, m, args, below, meth, c, nL2, D, Z, A, Qp⟩ := X
  obtain ⟨kx, kb, km, rfl, ko, kt, kK, kr, kl, kA, rfl⟩ := K
  intro H locs ls hl hP hD hS
  exact lv_lookup kx kb hd hp (by rw [iI_T ha]; exact ho) ht (k H locs ls hl hP hD hS)
theorem v_iald (K : VK X cc own nL ret fr lo mc ms) {k : Nat} {z : Int} (j : Nat) (hk : k < n) (hkd : z_kd k = 10) (hz : z = (j : Int)) (hj : j < z_ln k) (hd : decode cc pc = .ok (.iaload, 1)) (kk : V X cs n Q MR MI ML (pc + 1) lv (.int (iI (MI k j)) :: st)) : V X cs n Q MR MI ML pc lv (.int (iI z) :: .ref (Q k) :: st) := by
  obtain ⟨p, l, e, R, s, m, args, below, meth, c, nL2, D, Z, A, Qp⟩ := X
  obtain ⟨kx, kb, km, rfl, ko, kt, kK, kr, kl, kA, rfl⟩ := K
  intro H locs ls hl hP hD hS
  subst hz
  refine va_iald (f := fun j => iI (MI k j)) kx kb kK.1 hP k 0 (by rw [z_W_at hk, z_E_i hkd]) rfl (iI_in hj (z_ln_lt k)) hd ?_
  rw [iI_cl hj (z_ln_lt k)]
  exact kk H locs ls hl hP hD hS
theorem v_lald (K : VK X cc own nL ret fr lo mc ms) {k : Nat} {z : Int} (j : Nat) (hk : k < n) (hkd : z_kd k = 11) (hz : z = (j : Int)) (hj : j < z_ln k) (hd : decode cc pc = .ok (.laload, 1)) (kk : V X cs n Q MR MI ML (pc + 1) lv (.long (lJ (ML k j)) :: st)) : V X cs n Q MR MI ML pc lv (.int (iI z) :: .ref (Q k) :: st) := by
  obtain ⟨p, l, e, R, s, m, args, below, meth, c, nL2, D, Z, A, Qp⟩ := X
  obtain ⟨kx, kb, km, rfl, ko, kt, kK, kr, kl, kA, rfl⟩ := K
  intro H locs ls hl hP hD hS
  subst hz
  refine va_lald (f := fun j => lJ (ML k j)) kx kb kK.1 hP k 1 (by rw [z_W_at hk, z_E_l hkd]) rfl (iI_in hj (z_ln_lt k)) hd ?_
  rw [iI_cl hj (z_ln_lt k)]
  exact kk H locs ls hl hP hD hS
theorem v_iast (K : VK X cc own nL ret fr lo mc ms) {k : Nat} {z v : Int} (j : Nat) (hk : k < n) (hkd : z_kd k = 10) (hz : z = (j : Int)) (hj : j < z_ln k) (hd : decode cc pc = .ok (.iastore, 1)) (kk : V X cs n Q MR (z_up MI k j v) ML (pc + 1) lv st) : V X cs n Q MR MI ML pc lv (.int (iI v) :: .int (iI z) :: .ref (Q k) :: st) := by
  obtain ⟨p, l, e, R, s, m, args, below, meth, c, nL2, D, Z, A, Qp⟩ := X
  obtain ⟨kx, kb, km, rfl, ko, kt, kK, kr, kl, kA, rfl⟩ := K
  intro H locs ls hl hP hD hS
  subst hz
  refine va_iast (f := fun j => iI (MI k j)) kx kb kK.1 hP hD hS k 0 (by rw [z_W_at hk, z_E_i hkd]) rfl (iI_in hj (z_ln_lt k)) hd (fun H locs hP hD hS => ?_)
  rw [iI_cl hj (z_ln_lt k)] at hP hD
  have e1 := z_W_set (Z := Z) (Q := Q) (MR := MR) (MR' := MR) (MI := MI) (ML := ML) (MI' := z_up MI k j v) (ML' := ML) (x := (Q k, .inl (Z.1, z_ln k, .inl (upd (fun j => iI (MI k j)) j (iI v))))) hk (by
    rw [z_E_i hkd]
    congr 5
    funext b
    by_cases hb : b = j
    · subst hb; rw [z_up_s]; simp [upd]
    · rw [z_up_j hb]; simp [upd, hb]) (fun a ha => z_E_up ha)
  rw [e1] at hP hD
  exact kk H locs ls hl hP hD hS
theorem v_last (K : VK X cc own nL ret fr lo mc ms) {k : Nat} {z v : Int} (j : Nat) (hk : k < n) (hkd : z_kd k = 11) (hz : z = (j : Int)) (hj : j < z_ln k) (hd : decode cc pc = .ok (.lastore, 1)) (kk : V X cs n Q MR MI (z_up ML k j v) (pc + 1) lv st) : V X cs n Q MR MI ML pc lv (.long (lJ v) :: .int (iI z) :: .ref (Q k) :: st) := by
  obtain ⟨p, l, e, R, s, m, args, below, meth, c, nL2, D, Z, A, Qp⟩ := X
  obtain ⟨kx, kb, km, rfl, ko, kt, kK, kr, kl, kA, rfl⟩ := K
  intro H locs ls hl hP hD hS
  subst hz
  refine va_last (f := fun j => lJ (ML k j)) kx kb kK.1 hP hD hS k 1 (by rw [z_W_at hk, z_E_l hkd]) rfl (iI_in hj (z_ln_lt k)) hd (fun H locs hP hD hS => ?_)
  rw [iI_cl hj (z_ln_lt k)] at hP hD
  have e1 := z_W_set (Z := Z) (Q := Q) (MR := MR) (MR' := MR) (MI := MI) (ML := ML) (MI' := MI) (ML' := z_up ML k j v) (x := (Q k, .inl (Z.2.1, z_ln k, .inr (.inl (vp_updL (fun j => lJ (ML k j)) j (lJ v)))))) hk (by
    rw [z_E_l hkd]
    congr 6
    funext b
    by_cases hb : b = j
    · subst hb; rw [z_up_s]; simp [vp_updL]
    · rw [z_up_j hb]; simp [vp_updL, hb]) (fun a ha => z_E_upL ha)
  rw [e1] at hP hD
  exact kk H locs ls hl hP hD hS
theorem v_aaldD (K : VK X cc own nL ret fr lo mc ms) {k r : Nat} {z : Int} (j : Nat) (hk : k < n) (hkd : z_kd k = 12) (hz : z = (j : Int)) (hj : j < z_ln k) (hr : MR k j = some r) (hd : decode cc pc = .ok (.aaload, 1)) (kk : V X cs n Q MR MI ML (pc + 1) lv (.ref (Q r) :: st)) : V X cs n Q MR MI ML pc lv (.int (iI z) :: .ref (Q k) :: st) := by
  obtain ⟨p, l, e, R, s, m, args, below, meth, c, nL2, D, Z, A, Qp⟩ := X
  obtain ⟨kx, kb, km, rfl, ko, kt, kK, kr, kl, kA, rfl⟩ := K
  intro H locs ls hl hP hD hS
  subst hz
  have ha := hP k _ (z_W_at hk)
  rw [z_E_D hkd] at ha
  exact W.aald (v := .ref (Q r)) (ty := .object "DeckBalance$Deck") kx kb ha ((kK.1.2 2 _ rfl).1 (z_ln k) (fun j => va_rf ((MR k j).map Q))) rfl (fun q => by cases q) (by show ¬ (_ ∨ (arrV _ _ _).slots.size ≤ _); rw [arrV_size]; exact iI_in hj (z_ln_lt k)) (by show (arrV _ _ _).slots[_]? = _; rw [iI_cl hj (z_ln_lt k), arrV_read _ _ hj]; show some (va_rf (Option.map Q (MR k j))) = _; rw [hr]; rfl) rfl rfl hd (kk H locs ls hl hP hD hS)
theorem v_aaldP (K : VK X cc own nL ret fr lo mc ms) {k r : Nat} {z : Int} (j : Nat) (hk : k < n) (hkd : z_kd k = 13) (hz : z = (j : Int)) (hj : j < z_ln k) (hr : MR k j = some r) (hd : decode cc pc = .ok (.aaload, 1)) (kk : V X cs n Q MR MI ML (pc + 1) lv (.ref (Q r) :: st)) : V X cs n Q MR MI ML pc lv (.int (iI z) :: .ref (Q k) :: st) := by
  obtain ⟨p, l, e, R, s, m, args, below, meth, c, nL2, D, Z, A, Qp⟩ := X
  obtain ⟨kx, kb, km, rfl, ko, kt, kK, kr, kl, kA, rfl⟩ := K
  intro H locs ls hl hP hD hS
  subst hz
  have ha := hP k _ (z_W_at hk)
  rw [z_E_P hkd] at ha
  exact W.aald (v := .ref (Q r)) (ty := .object "DeckBalance$Plan") kx kb ha ((kK.1.2 3 _ rfl).1 (z_ln k) (fun j => va_rf ((MR k j).map Q))) rfl (fun q => by cases q) (by show ¬ (_ ∨ (arrV _ _ _).slots.size ≤ _); rw [arrV_size]; exact iI_in hj (z_ln_lt k)) (by show (arrV _ _ _).slots[_]? = _; rw [iI_cl hj (z_ln_lt k), arrV_read _ _ hj]; show some (va_rf (Option.map Q (MR k j))) = _; rw [hr]; rfl) rfl rfl hd (kk H locs ls hl hP hD hS)
theorem v_aaldT (K : VK X cc own nL ret fr lo mc ms) {k r : Nat} {z : Int} (j : Nat) (hk : k < n) (hkd : z_kd k = 14) (hz : z = (j : Int)) (hj : j < z_ln k) (hr : MR k j = some r) (hd : decode cc pc = .ok (.aaload, 1)) (kk : V X cs n Q MR MI ML (pc + 1) lv (.ref (Q r) :: st)) : V X cs n Q MR MI ML pc lv (.int (iI z) :: .ref (Q k) :: st) := by
  obtain ⟨p, l, e, R, s, m, args, below, meth, c, nL2, D, Z, A, Qp⟩ := X
  obtain ⟨kx, kb, km, rfl, ko, kt, kK, kr, kl, kA, rfl⟩ := K
  intro H locs ls hl hP hD hS
  subst hz
  have ha := hP k _ (z_W_at hk)
  rw [z_E_T hkd] at ha
  exact W.aald (v := .ref (Q r)) (ty := .array .int) kx kb ha ((kK.1.2 4 _ rfl).1 (z_ln k) (fun j => va_rf ((MR k j).map Q))) rfl (fun q => by cases q) (by show ¬ (_ ∨ (arrV _ _ _).slots.size ≤ _); rw [arrV_size]; exact iI_in hj (z_ln_lt k)) (by show (arrV _ _ _).slots[_]? = _; rw [iI_cl hj (z_ln_lt k), arrV_read _ _ hj]; show some (va_rf (Option.map Q (MR k j))) = _; rw [hr]; rfl) rfl rfl hd (kk H locs ls hl hP hD hS)
end VROWS
end
section
/-! fields, calls, answers, the entry -/
/-- the tables' words of a field: class ci, slot j, named by entry idx of own -/
def FF (own : String) (idx ci j : Nat) : Prop := ∃ (C : String) (T : u_T) (N : Nat), vwCl[ci]? = some (C, T, N) ∧ j < N ∧ ci < 10 ∧ (∀ k, z_kd k = ci → z_ln k = N) ∧ (∀ w ∈ u_ws C T N, w ∈ wsL) ∧ Cond.fieldLink own idx (T j).1 (T j).2.1 (T j).2.2.1 ∈ wsL
/-- the same, to write: not final, of a type -/
def FP (own : String) (idx ci j : Nat) (fin : Bool) (ty : FieldType) : Prop := ∃ (C : String) (T : u_T) (N : Nat) (ty0 : Nat → FieldType), vwCl[ci]? = some (C, T, N) ∧ j < N ∧ ci < 10 ∧ (∀ k, z_kd k = ci → z_ln k = N) ∧ (∀ w ∈ u_ws C T N, w ∈ wsL) ∧ Cond.fieldLink own idx (T j).1 (T j).2.1 (T j).2.2.1 ∈ wsL ∧ (∀ k, k < N → parseFieldDescriptor (T k).2.2.1 = some (ty0 k)) ∧ (∀ a, a < N → ∀ b, b < N → a ≠ b → (T a).2.1 ≠ (T b).2.1) ∧ (T j).2.2.2 = fin ∧ (fin = true → (T j).1 = own) ∧ parseFieldDescriptor (T j).2.2.1 = some ty
theorem z_fs_at {N j : Nat} {f : Nat → Value} (h : j < N) : ((List.range N).map f)[j]? = some (f j) := by
  rw [List.getElem?_map, List.getElem?_range h]; rfl
theorem z_fs_set {N j : Nat} {f g : Nat → Value} {v : Value} (hv : g j = v) (ho : ∀ a, a ≠ j → g a = f a) (h : j < N) : ((List.range N).map f).set j v = (List.range N).map g := by
  apply List.ext_getElem?
  intro i
  by_cases hi : i = j
  · subst hi
    rw [List.getElem?_set_self (by simp; exact h), z_fs_at h, hv]
  · rw [List.getElem?_set_ne (Ne.symm hi)]
    by_cases hn : i < N
    · rw [z_fs_at hn, z_fs_at hn, ho i hi]
    · rw [List.getElem?_eq_none (by simp; omega), List.getElem?_eq_none (by simp; omega)]
section VFIELDS
variable {X : VX} {cs : Nat × Nat} {n : Nat} {Q : Nat → Nat} {MR : ZR} {MI ML : ZM} {pc : Nat} {lv : List (Nat × Value)} {st : List Value} {cc : ByteArray} {own : String} {nL : Nat} {ret : Option FieldType} {fr lo mc ms : Nat}
theorem v_geti (K : VK X cc own nL ret fr lo mc ms) {idx ci j k : Nat} (f : FF own idx ci j) (hk : k < n) (hkd : z_kd k = ci) (hfi : z_fi ci j = true) (hd : decode cc pc = .ok (.getfield idx, 3)) (kk : V X cs n Q MR MI ML (pc + 3) lv (.int (iI (MI k j)) :: st)) : V X cs n Q MR MI ML pc lv (.ref (Q k) :: st) := by
  obtain ⟨p, l, e, R, s, m, args, below, meth, c, nL2, D, Z, A, Qp⟩ := X
  obtain ⟨kx, kb, km, rfl, ko, kt, kK, kr, kl, kA, rfl⟩ := K
  intro H locs ls hl hP hD hS
  obtain ⟨C, T, N, f1, f2, f3, f4, f5, f6⟩ := f
  have hN := f4 k hkd
  refine va_get (v := .int (iI (MI k j))) kx kb kt f5 ko kK.1 hP k (by rw [z_W_at hk, z_E_o hkd f3]) f1 j f2 (kt _ f6) (fun _ h9 => h9) ?_ hd (kk H locs ls hl hP hD hS)
  rw [z_fs_at (by omega)]
  unfold z_fv
  rw [hkd, if_pos hfi]
theorem v_getr (K : VK X cc own nL ret fr lo mc ms) {idx ci j k r : Nat} (f : FF own idx ci j) (hk : k < n) (hkd : z_kd k = ci) (hfi : z_fi ci j = false) (hr : MR k j = some r) (hd : decode cc pc = .ok (.getfield idx, 3)) (kk : V X cs n Q MR MI ML (pc + 3) lv (.ref (Q r) :: st)) : V X cs n Q MR MI ML pc lv (.ref (Q k) :: st) := by
  obtain ⟨p, l, e, R, s, m, args, below, meth, c, nL2, D, Z, A, Qp⟩ := X
  obtain ⟨kx, kb, km, rfl, ko, kt, kK, kr, kl, kA, rfl⟩ := K
  intro H locs ls hl hP hD hS
  obtain ⟨C, T, N, f1, f2, f3, f4, f5, f6⟩ := f
  have hN := f4 k hkd
  refine va_get (v := .ref (Q r)) kx kb kt f5 ko kK.1 hP k (by rw [z_W_at hk, z_E_o hkd f3]) f1 j f2 (kt _ f6) (fun _ h9 => h9) ?_ hd (kk H locs ls hl hP hD hS)
  rw [z_fs_at (by omega)]
  unfold z_fv
  rw [hkd, if_neg (by rw [hfi]; decide), hr]
  rfl
theorem v_puti (K : VK X cc own nL ret fr lo mc ms) {idx ci j k : Nat} {v : Int} (f : FP own idx ci j false .int) (hk : k < n) (hkd : z_kd k = ci) (hfi : z_fi ci j = true) (hd : decode cc pc = .ok (.putfield idx, 3)) (kk : V X cs n Q MR (z_up MI k j v) ML (pc + 3) lv st) : V X cs n Q MR MI ML pc lv (.int (iI v) :: .ref (Q k) :: st) := by
  obtain ⟨p, l, e, R, s, m, args, below, meth, c, nL2, D, Z, A, Qp⟩ := X
  obtain ⟨kx, kb, km, rfl, ko, kt, kK, kr, kl, kA, rfl⟩ := K
  intro H locs ls hl hP hD hS
  obtain ⟨C, T, N, ty0, f1, f2, f3, f4, f5, f6, f7, f8, f9, f10, f11⟩ := f
  have hN := f4 k hkd
  have hs : z_W Z n Q MR MI ML = z_W Z n Q MR MI ML := rfl
  refine va_put (v := .int (iI v)) (ty := .int) kx kb kt f5 ty0 f7 f8 ko kK.1 hP hD hS k (by rw [z_W_at hk, z_E_o hkd f3]) f1 j f2 (kt _ f6) (fun _ h9 => h9) f9 f11 rfl rfl (by simp; omega) hd (fun H locs hP hD hS => ?_)
  have e1 := z_W_set (Z := Z) (Q := Q) (MR := MR) (MR' := MR) (MI := MI) (ML := ML) (MI' := z_up MI k j v) (ML' := ML) (x := (Q k, .inr (ci, ((List.range (z_ln k)).map (z_fv Q MR MI k)).set j (.int (iI v))))) hk (by
    rw [z_E_o hkd f3, z_fs_set (g := z_fv Q MR (z_up MI k j v) k) (by unfold z_fv; rw [hkd, if_pos hfi, z_up_s]) (fun a ha => by unfold z_fv; rw [z_up_j ha]) (by omega)]) (fun a ha => z_E_up ha)
  rw [e1] at hP hD
  exact kk H locs ls hl hP hD hS
theorem v_putz (K : VK X cc own nL ret fr lo mc ms) {idx ci j k : Nat} {v : Int} (f : FP own idx ci j false .boolean) (hv : v = 0 ∨ v = 1) (hk : k < n) (hkd : z_kd k = ci) (hfi : z_fi ci j = true) (hd : decode cc pc = .ok (.putfield idx, 3)) (kk : V X cs n Q MR (z_up MI k j v) ML (pc + 3) lv st) : V X cs n Q MR MI ML pc lv (.int (iI v) :: .ref (Q k) :: st) := by
  obtain ⟨p, l, e, R, s, m, args, below, meth, c, nL2, D, Z, A, Qp⟩ := X
  obtain ⟨kx, kb, km, rfl, ko, kt, kK, kr, kl, kA, rfl⟩ := K
  intro H locs ls hl hP hD hS
  obtain ⟨C, T, N, ty0, f1, f2, f3, f4, f5, f6, f7, f8, f9, f10, f11⟩ := f
  have hN := f4 k hkd
  refine va_put (v := .int (iI v)) (ty := .boolean) kx kb kt f5 ty0 f7 f8 ko kK.1 hP hD hS k (by rw [z_W_at hk, z_E_o hkd f3]) f1 j f2 (kt _ f6) (fun _ h9 => h9) f9 f11 (by rcases hv with rfl | rfl <;> decide) (by rcases hv with rfl | rfl <;> decide) (by simp; omega) hd (fun H locs hP hD hS => ?_)
  have e1 := z_W_set (Z := Z) (Q := Q) (MR := MR) (MR' := MR) (MI := MI) (ML := ML) (MI' := z_up MI k j v) (ML' := ML) (x := (Q k, .inr (ci, ((List.range (z_ln k)).map (z_fv Q MR MI k)).set j (.int (iI v))))) hk (by
    rw [z_E_o hkd f3, z_fs_set (g := z_fv Q MR (z_up MI k j v) k) (by unfold z_fv; rw [hkd, if_pos hfi, z_up_s]) (fun a ha => by unfold z_fv; rw [z_up_j ha]) (by omega)]) (fun a ha => z_E_up ha)
  rw [e1] at hP hD
  exact kk H locs ls hl hP hD hS
end VFIELDS
/-! contracts -/
abbrev ZQ : Type := Option Value → Nat → (Nat → Nat) → ZR → ZM → ZM → Prop
def z_Pre (D : va_G) (Z : ZC) (n : Nat) (Q : Nat → Nat) (MR : ZR) (MI ML : ZM) (sz : Nat) (U : State) : Prop := U.heap.size = sz ∧ va_P D vwCl (z_W Z n Q MR MI ML) U.heap ∧ z_K D Z U ∧ va_D (fun _ => True) (z_W Z n Q MR MI ML)
def z_Post (D : va_G) (Z : ZC) (n : Nat) (Q : Nat → Nat) (sz : Nat) (Post : ZQ) : Array Value → State → Outcome → State → Prop := fun _ s oc t => ∃ (v : Option Value) (n' : Nat) (Q' : Nat → Nat) (MR' : ZR) (MI' ML' : ZM), oc = .returned v ∧ Post v n' Q' MR' MI' ML' ∧ va_P D vwCl (z_W Z n' Q' MR' MI' ML') t.heap ∧ va_D (z_A n Q sz) (z_W Z n' Q' MR' MI' ML') ∧ va_F (z_A n Q sz) s t
/-- the contract of method y: from a memory (n Q MR MI ML) and the arguments As it returns, with Post -/
def CM (l : Launch) (y : MethodName) (cc : ByteArray) (nL : Nat) (ret : Option FieldType) (fr lo mc ms : Nat) (D : va_G) (Z : ZC) (n : Nat) (Q : Nat → Nat) (MR : ZR) (As : List Value) (MI ML : ZM) (Post : ZQ) : Prop :=
  ∀ sz, Met l y (.code y cc nL ret :: wsL) ({ frames := fr, cells := mc, slots := ms, locals := lo }) (va_Pc As (z_Pre D Z n Q MR MI ML sz)) (z_Post D Z n Q sz Post) mc ms (z_A n Q sz)
/-- X is a body's frame whose end is Post -/
def VE (X : VX) (mc ms n0 : Nat) (Q0 : Nat → Nat) (Post : ZQ) : Prop :=
  match X with
  | (_, _, _, _, s, _, args, below, _, _, _, D, Z, A, Qp) => A = z_A n0 Q0 s.heap.size ∧ Qp = MQ below (z_Post D Z n0 Q0 s.heap.size Post) args s mc ms A
theorem CM.of {l : Launch} {y : MethodName} {cc : ByteArray} {nL : Nat} {ret : Option FieldType} {fr lo mc ms : Nat} {D : va_G} {Z : ZC} {n : Nat} {Q : Nat → Nat} {MR : ZR} {As : List Value} {MI ML : ZM} {Post : ZQ} (hy : plainName y.cls = true) (hlen : (lg_sl As).length ≤ nL)
    (body : ∀ X : VX, VK X cc y.cls nL ret fr lo mc ms → VE X mc ms n Q Post → X.2.1 = l → X.2.2.2.2.2.2.2.2.2.2.2.1 = D → X.2.2.2.2.2.2.2.2.2.2.2.2.1 = Z → (y.name = "<init>" → X.2.2.2.2.2.2.2.2.1.name = "<init>") → V X (0, 0) n Q MR MI ML 0 (lv_args 0 As) []) : CM l y cc nL ret fr lo mc ms D Z n Q MR As MI ML Post := by
  intro sz
  refine Met.ofW (cc := cc) (maxL := nL) (ret := ret) hy rfl ?_
  intro p e s m args below meth c s₁ B hml hv
  obtain ⟨rfl, rfl, hP, hK, hD0⟩ := hv
  have hts := atoms_spec (ws := (.code y cc nL ret :: wsL)) B.pre
  have hown : s.vm.findClass y.cls = some m.cls := findClass_of_methodNamed B.named
  have hD : va_D (z_A n Q s.heap.size) (z_W Z n Q MR MI ML) := by
    refine hD0.weaken (fun k q hk _ => ?_)
    by_cases hn : k < n
    · rw [z_W_at hn] at hk
      cases hk
      exact Or.inl ⟨k, hn, rfl⟩
    · rw [List.getElem?_eq_none (by unfold z_W; simp; omega)] at hk
      cases hk
  have hb := body (p, l, e, { frames := fr, cells := mc, slots := ms, locals := lo }, s, m, As.toArray, below, meth, c, nL, D, Z, z_A n Q s.heap.size, MQ below (z_Post D Z n Q s.heap.size Post) As.toArray s mc ms (z_A n Q s.heap.size))
    ⟨B.exec, B.bytes, hml, rfl, hown, fun w h => hts w (List.mem_cons_of_mem _ h), hK, B.returns, B.notSynchronized, fun q h => Or.inr h, rfl⟩ ⟨rfl, rfl⟩ rfl rfl rfl (fun h => by rw [← h]; exact (name_of_methodNamed B.named B.method).1)
  have hl := lv_entry As (n := nL) hlen
  rw [lg_entry_eq]
  exact hb s.heap [] _ hl hP hD va_S.rf
section VRET
variable {X : VX} {n : Nat} {Q : Nat → Nat} {MR : ZR} {MI ML : ZM} {pc : Nat} {lv : List (Nat × Value)} {cc : ByteArray} {own : String} {nL : Nat} {fr lo mc ms : Nat} {n0 : Nat} {Q0 : Nat → Nat} {Post : ZQ}
theorem v_iret (K : VK X cc own nL (some .int) fr lo mc ms) (E : VE X mc ms n0 Q0 Post) {z : Int} (hd : decode cc pc = .ok (.ireturn, 1)) (h : Post (some (.int (iI z))) n Q MR MI ML) : V X (mc, ms) n Q MR MI ML pc lv [.int (iI z)] := by
  obtain ⟨p, l, e, R, s, m, args, below, meth, c, nL2, D, Z, A, Qp⟩ := X
  obtain ⟨kx, kb, km, rfl, ko, kt, kK, kr, kl, kA, rfl⟩ := K
  obtain ⟨rfl, rfl⟩ := E
  intro H locs ls hl hP hD hS
  exact W.iret (v := iI z) kx kb kr (fun t ht hW => ⟨_, n, Q, MR, MI, ML, rfl, h, by rw [ht]; exact hP, hD, hS.F ht⟩) hS.2.2 hd kl
theorem v_zret (K : VK X cc own nL (some .boolean) fr lo mc ms) (E : VE X mc ms n0 Q0 Post) {z : Int} (hz : z = 0 ∨ z = 1) (hd : decode cc pc = .ok (.ireturn, 1)) (h : Post (some (.int (iI z))) n Q MR MI ML) : V X (mc, ms) n Q MR MI ML pc lv [.int (iI z)] := by
  obtain ⟨p, l, e, R, s, m, args, below, meth, c, nL2, D, Z, A, Qp⟩ := X
  obtain ⟨kx, kb, km, rfl, ko, kt, kK, kr, kl, kA, rfl⟩ := K
  obtain ⟨rfl, rfl⟩ := E
  intro H locs ls hl hP hD hS
  exact W.zret (v := iI z) kx kb kr (by rcases hz with rfl | rfl <;> decide) (fun t ht hW => ⟨_, n, Q, MR, MI, ML, rfl, h, by rw [ht]; exact hP, hD, hS.F ht⟩) hS.2.2 hd kl
theorem v_lret (K : VK X cc own nL (some .long) fr lo mc ms) (E : VE X mc ms n0 Q0 Post) {z : Int} (hd : decode cc pc = .ok (.lreturn, 1)) (h : Post (some (.long (lJ z))) n Q MR MI ML) : V X (mc, ms) n Q MR MI ML pc lv [.long (lJ z)] := by
  obtain ⟨p, l, e, R, s, m, args, below, meth, c, nL2, D, Z, A, Qp⟩ := X
  obtain ⟨kx, kb, km, rfl, ko, kt, kK, kr, kl, kA, rfl⟩ := K
  obtain ⟨rfl, rfl⟩ := E
  intro H locs ls hl hP hD hS
  exact W.lret (v := lJ z) kx kb kr (fun t ht hW => ⟨_, n, Q, MR, MI, ML, rfl, h, by rw [ht]; exact hP, hD, hS.F ht⟩) hS.2.2 hd kl
theorem v_ret (K : VK X cc own nL none fr lo mc ms) (E : VE X mc ms n0 Q0 Post) (hd : decode cc pc = .ok (.return_, 1)) (h : Post none n Q MR MI ML) : V X (mc, ms) n Q MR MI ML pc lv [] := by
  obtain ⟨p, l, e, R, s, m, args, below, meth, c, nL2, D, Z, A, Qp⟩ := X
  obtain ⟨kx, kb, km, rfl, ko, kt, kK, kr, kl, kA, rfl⟩ := K
  obtain ⟨rfl, rfl⟩ := E
  intro H locs ls hl hP hD hS
  exact W.vret kx kb kr (fun t ht hW => ⟨_, n, Q, MR, MI, ML, rfl, h, by rw [ht]; exact hP, hD, hS.F ht⟩) hS.2.2 hd kl
theorem v_aret {C : String} (K : VK X cc own nL (some (.object C)) fr lo mc ms) (E : VE X mc ms n0 Q0 Post) {k : Nat} (hd : decode cc pc = .ok (.areturn, 1)) (h : Post (some (.ref (Q k))) n Q MR MI ML) : V X (mc, ms) n Q MR MI ML pc lv [.ref (Q k)] := by
  obtain ⟨p, l, e, R, s, m, args, below, meth, c, nL2, D, Z, A, Qp⟩ := X
  obtain ⟨kx, kb, km, rfl, ko, kt, kK, kr, kl, kA, rfl⟩ := K
  obtain ⟨rfl, rfl⟩ := E
  intro H locs ls hl hP hD hS
  exact W.aret (v := .ref (Q k)) kx kb kr (Or.inl ⟨C, rfl⟩) (Or.inr ⟨_, rfl⟩) (fun t ht hW => ⟨_, n, Q, MR, MI, ML, rfl, h, by rw [ht]; exact hP, hD, hS.F ht⟩) hS.2.2 hd kl
end VRET
theorem wsL_in {y : MethodName} {bytes : ByteArray} {maxL : Nat} {ret : Option FieldType} (h : Cond.code y bytes maxL ret ∈ wsL) : GoodIn wsL (Cond.code y bytes maxL ret :: wsL) := by
  intro w hw
  rcases List.mem_cons.mp hw with rfl | hw
  · exact ⟨h, good_of_word (wsL_good _ h)⟩
  · exact ⟨hw, good_of_word (wsL_good _ hw)⟩
theorem z_K.moved {D : va_G} {Z : ZC} {u U : State} (hvm : u.vm.Alike U.vm) (h : z_K D Z u) : z_K D Z U := ⟨va_K.moved hvm h.1, h.2.1.moved hvm, h.2.2.1.moved hvm, h.2.2.2.moved hvm⟩
theorem z_blind {D : va_G} {Z : ZC} {n : Nat} {Q : Nat → Nat} {MR : ZR} {MI ML : ZM} {sz : Nat} {As : List Value} : FrameBlind (va_Pc As (z_Pre D Z n Q MR MI ML sz)) := by
  intro a U g mk q
  obtain ⟨q0, q1, qP, qK, qD⟩ := q
  exact ⟨q0, q1, qP, z_K.moved (u := U) (U := U.calling g mk a) (Vm.Alike.refl U.vm) qK, qD⟩
/-- a call's words that don't hang on its kind -/
def FC (own : String) (idx : Nat) (y : MethodName) (cc : ByteArray) (nL : Nat) (ret : Option FieldType) (na : Nat) : Prop := Cond.code y cc nL ret ∈ wsL ∧ Cond.methodLink own idx y ∈ wsL ∧ Cond.initialized y.cls ∈ wsL ∧ (y.cls ≠ "java/lang/invoke/MethodHandle" ∧ y.cls ≠ "java/lang/invoke/VarHandle" ∧ (parseMethodDescriptor y.desc).map (fun d => d.parameters.length) = some na)
section VCALL
variable {X : VX} {cs : Nat × Nat} {n : Nat} {Q : Nat → Nat} {MR : ZR} {MI ML : ZM} {pc : Nat} {lv : List (Nat × Value)} {st : List Value} {cc : ByteArray} {own : String} {nL : Nat} {ret : Option FieldType} {fr lo mc ms : Nat}
variable {y : MethodName} {cy : ByteArray} {nLy : Nat} {rety : Option FieldType} {fry loy mcy msy na idx b : Nat} {As : List Value} {Post : ZQ}
/-- behind a call -/
theorem v_after {p : Program} {l : Launch} {e : Env} {R : Room} {s : State} {m : MethodId} {args : Array Value} {below : List Frame} {meth : Method} {c : Code} {D : va_G} {Z : ZC} {A : Nat → Prop} {Qp : State → Prop} {H : Heap} {locs : List Loc} {ls : Array Slot} {a : Array Value} {st0 : List Value} {k1 k2 : Nat} (hl : lv_has ls nL lv) (hD : va_D A (z_W Z n Q MR MI ML)) (hS : va_S A s.heap H locs) (hA : ∀ q, s.heap.size ≤ q → A q) (hr : va_Run p l e R s m args below meth c H locs k1 k2 mcy msy (F0 m pc ls st0) st (z_Post D Z n Q H.size Post a) (z_A n Q H.size))
    (kk : ∀ v n' Q' MR' MI' ML', Post v n' Q' MR' MI' ML' → V (p, l, e, R, s, m, args, below, meth, c, nL, D, Z, A, Qp) (k1 + mcy, k2 + msy) n' Q' MR' MI' ML' (pc + 3) lv (v.toList ++ st)) : W p l e R s m args below meth c H locs k1 k2 Qp (F0 m pc ls st0) := by
  intro T hT Xs
  obtain ⟨v, st₀, t, T', L, h0, X', hL, e1, e2, ⟨v', n', Q', MR', MI', ML', hv, hp, hP1, hD1, hz, hk⟩, stp⟩ := hr T hT Xs
  cases hv
  rw [h0] at hz hk
  have hF : ∀ q, z_A n Q H.size q → A q := by
    intro q h
    rcases h with ⟨k, hk, rfl⟩ | h
    · exact hD.2 k _ (z_W_at hk)
    · exact hA q (Nat.le_trans hS.1 h)
  have hS1 : va_S A s.heap T'.heap (locs ++ L) := ⟨Nat.le_trans hS.1 (by rw [e1]; exact hz), fun q h1 h2 => by rw [e1, hk q (Nat.lt_of_lt_of_le h1 hS.1) (fun z => h2 (hF q z))]; exact hS.2.1 q h1 h2, fun q hq => by
      rcases List.mem_append.mp hq with h | h
      · exact hS.2.2 q h
      · exact hF _ (hL q h)⟩
  obtain ⟨t2, a1, b1⟩ := kk v n' Q' MR' MI' ML' hp T'.heap (locs ++ L) ls hl (by rw [e1]; exact hP1) (hD1.weaken (fun k q _ h => hF q.1 h)) hS1 T' rfl X'
  exact ⟨t2, stp t2 a1, b1⟩
theorem v_callV (K : VK X cc own nL ret fr lo mc ms) (hM : CM X.2.1 y cy nLy rety fry loy mcy msy X.2.2.2.2.2.2.2.2.2.2.2.1 X.2.2.2.2.2.2.2.2.2.2.2.2.1 n Q MR (.ref (Q b) :: As) MI ML Post) (f : FC own idx y cy nLy rety na) (fi : Cond.instanceMethod y ∈ wsL) (fs : Cond.selects y.cls y y ∈ wsL) (hb : b < n) (ci : Nat) (hkd : z_kd b = ci) (hci : ci < 10) (hc : (vwCl[ci]?).map (fun q => q.1) = some y.cls) (hn : As.length = na) (hrm : fry + 1 ≤ fr ∧ 8 + (nLy + 11) + loy ≤ lo ∧ cs.1 + mcy ≤ mc ∧ cs.2 + msy ≤ ms) (hw : (st.map fun v => v.category).sum ≤ 8) (hd : decode cc pc = .ok (.invokevirtual idx, 3))
    (kk : ∀ v n' Q' MR' MI' ML', Post v n' Q' MR' MI' ML' → V X (cs.1 + mcy, cs.2 + msy) n' Q' MR' MI' ML' (pc + 3) lv (v.toList ++ st)) : V X cs n Q MR MI ML pc lv (As.reverse ++ .ref (Q b) :: st) := by
  obtain ⟨p, l, e, R, s, m, args, below, meth, c, nL2, D, Z, A, Qp⟩ := X
  obtain ⟨kx, kb, km, rfl, ko, kt, kK, kr, kl, kA, rfl⟩ := K
  intro H locs ls hl hP hD hS
  obtain ⟨f1, f2, f3, f4⟩ := f
  obtain ⟨q, hq⟩ : ∃ q, vwCl[ci]? = some q := by
    cases h9 : vwCl[ci]? with
    | none => rw [h9] at hc; cases hc
    | some q => exact ⟨q, rfl⟩
  have hqc : q.1 = y.cls := by rw [hq] at hc; exact Option.some.inj hc
  refine v_after hl hD hS kA (va_runV (y := y) (C := y.cls) (As := As) (rest := st) (b := Q b) ⟨kx, kb, km, ko, kt⟩ (hM H.size) ⟨callB_of na kt (wsL_in f1) rfl rfl rfl (kt _ f3) (kt _ f2) f4 ⟨hrm.1, hrm.2.1⟩, kt _ fi, kt _ fs⟩ ⟨z_blind, ?_, fun U hU hW => ⟨rfl, by rw [hU], by rw [hU]; exact hP, z_K.moved hW.alike kK, hD.weaken (fun _ _ _ _ => trivial)⟩⟩ rfl hn hl.1 rfl (lv_room hw) hd ⟨hrm.2.2.1, hrm.2.2.2⟩) kk
  rw [← hqc]
  exact va_recv kK.1 hP hq (ci := ci) (q0 := b) (by rw [z_W_at hb, z_E_o hkd hci])
theorem v_callS (K : VK X cc own nL ret fr lo mc ms) (hM : CM X.2.1 y cy nLy rety fry loy mcy msy X.2.2.2.2.2.2.2.2.2.2.2.1 X.2.2.2.2.2.2.2.2.2.2.2.2.1 n Q MR As MI ML Post) (f : FC own idx y cy nLy rety na) (fs : Cond.static y ∈ wsL) (hn : As.length = na) (hrm : fry + 1 ≤ fr ∧ 8 + (nLy + 11) + loy ≤ lo ∧ cs.1 + mcy ≤ mc ∧ cs.2 + msy ≤ ms) (hw : (st.map fun v => v.category).sum ≤ 8) (hd : decode cc pc = .ok (.invokestatic idx, 3))
    (kk : ∀ v n' Q' MR' MI' ML', Post v n' Q' MR' MI' ML' → V X (cs.1 + mcy, cs.2 + msy) n' Q' MR' MI' ML' (pc + 3) lv (v.toList ++ st)) : V X cs n Q MR MI ML pc lv (As.reverse ++ st) := by
  obtain ⟨p, l, e, R, s, m, args, below, meth, c, nL2, D, Z, A, Qp⟩ := X
  obtain ⟨kx, kb, km, rfl, ko, kt, kK, kr, kl, kA, rfl⟩ := K
  intro H locs ls hl hP hD hS
  obtain ⟨f1, f2, f3, f4⟩ := f
  exact v_after hl hD hS kA (va_runS (y := y) (As := As) (rest := st) ⟨kx, kb, km, ko, kt⟩ (hM H.size) ⟨callB_of na kt (wsL_in f1) rfl rfl rfl (kt _ f3) (kt _ f2) f4 ⟨hrm.1, hrm.2.1⟩, kt _ fs⟩ ⟨z_blind, fun U hU hW => ⟨rfl, by rw [hU], by rw [hU]; exact hP, z_K.moved hW.alike kK, hD.weaken (fun _ _ _ _ => trivial)⟩⟩ rfl hn hl.1 rfl (lv_room hw) hd ⟨hrm.2.2.1, hrm.2.2.2⟩) kk
end VCALL
end
section
theorem z_beyond {k : Nat} (h : 110 ≤ k) : z_kd k = 99 := by
  unfold z_kd
  rw [List.getD_eq_getElem?_getD, List.getElem?_eq_none (by have : z_sh.length = 110 := rfl; omega)]; rfl
theorem zc0 : ∀ k, z_kd k = 0 → z_ln k = 4 := by
  intro k hk
  by_cases h : k < 110
  · have h1 : ∀ k, k < 110 → z_kd k = 0 → z_ln k = 4 := by decide +kernel
    exact h1 k h hk
  · rw [z_beyond (by omega)] at hk; omega
theorem zc1 : ∀ k, z_kd k = 1 → z_ln k = 3 := by
  intro k hk
  by_cases h : k < 110
  · have h1 : ∀ k, k < 110 → z_kd k = 1 → z_ln k = 3 := by decide +kernel
    exact h1 k h hk
  · rw [z_beyond (by omega)] at hk; omega
theorem zc2 : ∀ k, z_kd k = 2 → z_ln k = 2 := by
  intro k hk
  by_cases h : k < 110
  · have h1 : ∀ k, k < 110 → z_kd k = 2 → z_ln k = 2 := by decide +kernel
    exact h1 k h hk
  · rw [z_beyond (by omega)] at hk; omega
theorem zc3 : ∀ k, z_kd k = 3 → z_ln k = 4 := by
  intro k hk
  by_cases h : k < 110
  · have h1 : ∀ k, k < 110 → z_kd k = 3 → z_ln k = 4 := by decide +kernel
    exact h1 k h hk
  · rw [z_beyond (by omega)] at hk; omega
theorem zc4 : ∀ k, z_kd k = 4 → z_ln k = 6 := by
  intro k hk
  by_cases h : k < 110
  · have h1 : ∀ k, k < 110 → z_kd k = 4 → z_ln k = 6 := by decide +kernel
    exact h1 k h hk
  · rw [z_beyond (by omega)] at hk; omega
theorem zc5 : ∀ k, z_kd k = 5 → z_ln k = 6 := by
  intro k hk
  by_cases h : k < 110
  · have h1 : ∀ k, k < 110 → z_kd k = 5 → z_ln k = 6 := by decide +kernel
    exact h1 k h hk
  · rw [z_beyond (by omega)] at hk; omega
theorem zc6 : ∀ k, z_kd k = 6 → z_ln k = 2 := by
  intro k hk
  by_cases h : k < 110
  · have h1 : ∀ k, k < 110 → z_kd k = 6 → z_ln k = 2 := by decide +kernel
    exact h1 k h hk
  · rw [z_beyond (by omega)] at hk; omega
theorem zc7 : ∀ k, z_kd k = 7 → z_ln k = 4 := by
  intro k hk
  by_cases h : k < 110
  · have h1 : ∀ k, k < 110 → z_kd k = 7 → z_ln k = 4 := by decide +kernel
    exact h1 k h hk
  · rw [z_beyond (by omega)] at hk; omega
theorem zc8 : ∀ k, z_kd k = 8 → z_ln k = 12 := by
  intro k hk
  by_cases h : k < 110
  · have h1 : ∀ k, k < 110 → z_kd k = 8 → z_ln k = 12 := by decide +kernel
    exact h1 k h hk
  · rw [z_beyond (by omega)] at hk; omega
theorem zc9 : ∀ k, z_kd k = 9 → z_ln k = 26 := by
  intro k hk
  by_cases h : k < 110
  · have h1 : ∀ k, k < 110 → z_kd k = 9 → z_ln k = 26 := by decide +kernel
    exact h1 k h hk
  · rw [z_beyond (by omega)] at hk; omega
theorem ff_X0_9 : FF RX0 9 0 0 := ⟨_, _, _, rfl, by decide, by decide, zc0, us0, fl_X0_9⟩
theorem fp_X0_9 : FP RX0 9 0 0 true (.array .int) := ⟨_, _, _, tyX0, rfl, by decide, by decide, zc0, us0, fl_X0_9, tyX0_ok, nmX0, rfl, fun _ => rfl, by decide +kernel⟩
theorem ff_X7_43 : FF RX7 43 0 0 := ⟨_, _, _, rfl, by decide, by decide, zc0, us0, fl_X7_43⟩
theorem ff_X0_15 : FF RX0 15 0 1 := ⟨_, _, _, rfl, by decide, by decide, zc0, us0, fl_X0_15⟩
theorem fp_X0_15 : FP RX0 15 0 1 true (.array .int) := ⟨_, _, _, tyX0, rfl, by decide, by decide, zc0, us0, fl_X0_15, tyX0_ok, nmX0, rfl, fun _ => rfl, by decide +kernel⟩
theorem ff_X5_57 : FF RX5 57 0 1 := ⟨_, _, _, rfl, by decide, by decide, zc0, us0, fl_X5_57⟩
theorem ff_X0_18 : FF RX0 18 0 2 := ⟨_, _, _, rfl, by decide, by decide, zc0, us0, fl_X0_18⟩
theorem fp_X0_18 : FP RX0 18 0 2 true (.array .int) := ⟨_, _, _, tyX0, rfl, by decide, by decide, zc0, us0, fl_X0_18, tyX0_ok, nmX0, rfl, fun _ => rfl, by decide +kernel⟩
theorem ff_X8_76 : FF RX8 76 0 2 := ⟨_, _, _, rfl, by decide, by decide, zc0, us0, fl_X8_76⟩
theorem ff_X7_48 : FF RX7 48 0 2 := ⟨_, _, _, rfl, by decide, by decide, zc0, us0, fl_X7_48⟩
theorem ff_X0_21 : FF RX0 21 0 3 := ⟨_, _, _, rfl, by decide, by decide, zc0, us0, fl_X0_21⟩
theorem fp_X0_21 : FP RX0 21 0 3 false .int := ⟨_, _, _, tyX0, rfl, by decide, by decide, zc0, us0, fl_X0_21, tyX0_ok, nmX0, rfl, fun h => by cases h, by decide +kernel⟩
theorem ff_X8_176 : FF RX8 176 0 3 := ⟨_, _, _, rfl, by decide, by decide, zc0, us0, fl_X8_176⟩
theorem fp_X8_176 : FP RX8 176 0 3 false .int := ⟨_, _, _, tyX0, rfl, by decide, by decide, zc0, us0, fl_X8_176, tyX0_ok, nmX0, rfl, fun h => by cases h, by decide +kernel⟩
theorem ff_X2_9 : FF RX2 9 2 0 := ⟨_, _, _, rfl, by decide, by decide, zc2, us2, fl_X2_9⟩
theorem fp_X2_9 : FP RX2 9 2 0 true (.array .int) := ⟨_, _, _, tyX2, rfl, by decide, by decide, zc2, us2, fl_X2_9, tyX2_ok, nmX2, rfl, fun _ => rfl, by decide +kernel⟩
theorem ff_X5_50 : FF RX5 50 2 0 := ⟨_, _, _, rfl, by decide, by decide, zc2, us2, fl_X5_50⟩
theorem ff_X8_103 : FF RX8 103 2 0 := ⟨_, _, _, rfl, by decide, by decide, zc2, us2, fl_X8_103⟩
theorem ff_X2_15 : FF RX2 15 2 1 := ⟨_, _, _, rfl, by decide, by decide, zc2, us2, fl_X2_15⟩
theorem fp_X2_15 : FP RX2 15 2 1 false .int := ⟨_, _, _, tyX2, rfl, by decide, by decide, zc2, us2, fl_X2_15, tyX2_ok, nmX2, rfl, fun h => by cases h, by decide +kernel⟩
theorem ff_X5_45 : FF RX5 45 2 1 := ⟨_, _, _, rfl, by decide, by decide, zc2, us2, fl_X5_45⟩
theorem fp_X5_45 : FP RX5 45 2 1 false .int := ⟨_, _, _, tyX2, rfl, by decide, by decide, zc2, us2, fl_X5_45, tyX2_ok, nmX2, rfl, fun h => by cases h, by decide +kernel⟩
theorem ff_X8_185 : FF RX8 185 2 1 := ⟨_, _, _, rfl, by decide, by decide, zc2, us2, fl_X8_185⟩
theorem fp_X8_185 : FP RX8 185 2 1 false .int := ⟨_, _, _, tyX2, rfl, by decide, by decide, zc2, us2, fl_X8_185, tyX2_ok, nmX2, rfl, fun h => by cases h, by decide +kernel⟩
theorem ff_X7_9 : FF RX7 9 7 0 := ⟨_, _, _, rfl, by decide, by decide, zc7, us7, fl_X7_9⟩
theorem fp_X7_9 : FP RX7 9 7 0 false .int := ⟨_, _, _, tyX7, rfl, by decide, by decide, zc7, us7, fl_X7_9, tyX7_ok, nmX7, rfl, fun h => by cases h, by decide +kernel⟩
theorem ff_X3_37 : FF RX3 37 7 0 := ⟨_, _, _, rfl, by decide, by decide, zc7, us7, fl_X3_37⟩
theorem fp_X3_37 : FP RX3 37 7 0 false .int := ⟨_, _, _, tyX7, rfl, by decide, by decide, zc7, us7, fl_X3_37, tyX7_ok, nmX7, rfl, fun h => by cases h, by decide +kernel⟩
theorem ff_X8_125 : FF RX8 125 7 0 := ⟨_, _, _, rfl, by decide, by decide, zc7, us7, fl_X8_125⟩
theorem fp_X8_125 : FP RX8 125 7 0 false .int := ⟨_, _, _, tyX7, rfl, by decide, by decide, zc7, us7, fl_X8_125, tyX7_ok, nmX7, rfl, fun h => by cases h, by decide +kernel⟩
theorem ff_X7_15 : FF RX7 15 7 1 := ⟨_, _, _, rfl, by decide, by decide, zc7, us7, fl_X7_15⟩
theorem fp_X7_15 : FP RX7 15 7 1 false .int := ⟨_, _, _, tyX7, rfl, by decide, by decide, zc7, us7, fl_X7_15, tyX7_ok, nmX7, rfl, fun h => by cases h, by decide +kernel⟩
theorem ff_X8_133 : FF RX8 133 7 1 := ⟨_, _, _, rfl, by decide, by decide, zc7, us7, fl_X8_133⟩
theorem fp_X8_133 : FP RX8 133 7 1 false .int := ⟨_, _, _, tyX7, rfl, by decide, by decide, zc7, us7, fl_X8_133, tyX7_ok, nmX7, rfl, fun h => by cases h, by decide +kernel⟩
theorem ff_X7_18 : FF RX7 18 7 2 := ⟨_, _, _, rfl, by decide, by decide, zc7, us7, fl_X7_18⟩
theorem fp_X7_18 : FP RX7 18 7 2 false .int := ⟨_, _, _, tyX7, rfl, by decide, by decide, zc7, us7, fl_X7_18, tyX7_ok, nmX7, rfl, fun h => by cases h, by decide +kernel⟩
theorem ff_X7_21 : FF RX7 21 7 3 := ⟨_, _, _, rfl, by decide, by decide, zc7, us7, fl_X7_21⟩
theorem fp_X7_21 : FP RX7 21 7 3 false .int := ⟨_, _, _, tyX7, rfl, by decide, by decide, zc7, us7, fl_X7_21, tyX7_ok, nmX7, rfl, fun h => by cases h, by decide +kernel⟩
theorem ff_X3_12 : FF RX3 12 3 0 := ⟨_, _, _, rfl, by decide, by decide, zc3, us3, fl_X3_12⟩
theorem fp_X3_12 : FP RX3 12 3 0 true (.object "DeckBalance$Side") := ⟨_, _, _, tyX3, rfl, by decide, by decide, zc3, us3, fl_X3_12, tyX3_ok, nmX3, rfl, fun _ => rfl, by decide +kernel⟩
theorem ff_X8_121 : FF RX8 121 3 0 := ⟨_, _, _, rfl, by decide, by decide, zc3, us3, fl_X8_121⟩
theorem ff_X3_18 : FF RX3 18 3 1 := ⟨_, _, _, rfl, by decide, by decide, zc3, us3, fl_X3_18⟩
theorem fp_X3_18 : FP RX3 18 3 1 true (.object "DeckBalance$Side") := ⟨_, _, _, tyX3, rfl, by decide, by decide, zc3, us3, fl_X3_18, tyX3_ok, nmX3, rfl, fun _ => rfl, by decide +kernel⟩
theorem ff_X8_130 : FF RX8 130 3 1 := ⟨_, _, _, rfl, by decide, by decide, zc3, us3, fl_X8_130⟩
theorem ff_X3_29 : FF RX3 29 3 2 := ⟨_, _, _, rfl, by decide, by decide, zc3, us3, fl_X3_29⟩
theorem fp_X3_29 : FP RX3 29 3 2 false .int := ⟨_, _, _, tyX3, rfl, by decide, by decide, zc3, us3, fl_X3_29, tyX3_ok, nmX3, rfl, fun h => by cases h, by decide +kernel⟩
theorem ff_X8_118 : FF RX8 118 3 2 := ⟨_, _, _, rfl, by decide, by decide, zc3, us3, fl_X8_118⟩
theorem fp_X8_118 : FP RX8 118 3 2 false .int := ⟨_, _, _, tyX3, rfl, by decide, by decide, zc3, us3, fl_X8_118, tyX3_ok, nmX3, rfl, fun h => by cases h, by decide +kernel⟩
theorem ff_X3_21 : FF RX3 21 3 3 := ⟨_, _, _, rfl, by decide, by decide, zc3, us3, fl_X3_21⟩
theorem fp_X3_21 : FP RX3 21 3 3 true (.object "DeckBalance$CardBook") := ⟨_, _, _, tyX3, rfl, by decide, by decide, zc3, us3, fl_X3_21, tyX3_ok, nmX3, rfl, fun _ => rfl, by decide +kernel⟩
theorem ff_X4_9 : FF RX4 9 4 0 := ⟨_, _, _, rfl, by decide, by decide, zc4, us4, fl_X4_9⟩
theorem fp_X4_9 : FP RX4 9 4 0 true (.array .int) := ⟨_, _, _, tyX4, rfl, by decide, by decide, zc4, us4, fl_X4_9, tyX4_ok, nmX4, rfl, fun _ => rfl, by decide +kernel⟩
theorem ff_X8_154 : FF RX8 154 4 0 := ⟨_, _, _, rfl, by decide, by decide, zc4, us4, fl_X8_154⟩
theorem ff_X4_25 : FF RX4 25 4 1 := ⟨_, _, _, rfl, by decide, by decide, zc4, us4, fl_X4_25⟩
theorem fp_X4_25 : FP RX4 25 4 1 false .int := ⟨_, _, _, tyX4, rfl, by decide, by decide, zc4, us4, fl_X4_25, tyX4_ok, nmX4, rfl, fun h => by cases h, by decide +kernel⟩
theorem ff_X8_159 : FF RX8 159 4 1 := ⟨_, _, _, rfl, by decide, by decide, zc4, us4, fl_X8_159⟩
theorem fp_X8_159 : FP RX8 159 4 1 false .int := ⟨_, _, _, tyX4, rfl, by decide, by decide, zc4, us4, fl_X8_159, tyX4_ok, nmX4, rfl, fun h => by cases h, by decide +kernel⟩
theorem ff_X4_15 : FF RX4 15 4 2 := ⟨_, _, _, rfl, by decide, by decide, zc4, us4, fl_X4_15⟩
theorem fp_X4_15 : FP RX4 15 4 2 true (.array .int) := ⟨_, _, _, tyX4, rfl, by decide, by decide, zc4, us4, fl_X4_15, tyX4_ok, nmX4, rfl, fun _ => rfl, by decide +kernel⟩
theorem ff_X4_63 : FF RX4 63 4 3 := ⟨_, _, _, rfl, by decide, by decide, zc4, us4, fl_X4_63⟩
theorem fp_X4_63 : FP RX4 63 4 3 false .int := ⟨_, _, _, tyX4, rfl, by decide, by decide, zc4, us4, fl_X4_63, tyX4_ok, nmX4, rfl, fun h => by cases h, by decide +kernel⟩
theorem ff_X4_18 : FF RX4 18 4 4 := ⟨_, _, _, rfl, by decide, by decide, zc4, us4, fl_X4_18⟩
theorem fp_X4_18 : FP RX4 18 4 4 true (.array .int) := ⟨_, _, _, tyX4, rfl, by decide, by decide, zc4, us4, fl_X4_18, tyX4_ok, nmX4, rfl, fun _ => rfl, by decide +kernel⟩
theorem ff_X4_21 : FF RX4 21 4 5 := ⟨_, _, _, rfl, by decide, by decide, zc4, us4, fl_X4_21⟩
theorem fp_X4_21 : FP RX4 21 4 5 false .int := ⟨_, _, _, tyX4, rfl, by decide, by decide, zc4, us4, fl_X4_21, tyX4_ok, nmX4, rfl, fun h => by cases h, by decide +kernel⟩
theorem ff_X5_9 : FF RX5 9 5 0 := ⟨_, _, _, rfl, by decide, by decide, zc5, us5, fl_X5_9⟩
theorem fp_X5_9 : FP RX5 9 5 0 true (.array .int) := ⟨_, _, _, tyX5, rfl, by decide, by decide, zc5, us5, fl_X5_9, tyX5_ok, nmX5, rfl, fun _ => rfl, by decide +kernel⟩
theorem ff_X7_36 : FF RX7 36 5 0 := ⟨_, _, _, rfl, by decide, by decide, zc5, us5, fl_X7_36⟩
theorem ff_X5_15 : FF RX5 15 5 1 := ⟨_, _, _, rfl, by decide, by decide, zc5, us5, fl_X5_15⟩
theorem fp_X5_15 : FP RX5 15 5 1 true (.array .int) := ⟨_, _, _, tyX5, rfl, by decide, by decide, zc5, us5, fl_X5_15, tyX5_ok, nmX5, rfl, fun _ => rfl, by decide +kernel⟩
theorem ff_X7_30 : FF RX7 30 5 1 := ⟨_, _, _, rfl, by decide, by decide, zc5, us5, fl_X7_30⟩
theorem ff_X5_18 : FF RX5 18 5 2 := ⟨_, _, _, rfl, by decide, by decide, zc5, us5, fl_X5_18⟩
theorem fp_X5_18 : FP RX5 18 5 2 true (.array .int) := ⟨_, _, _, tyX5, rfl, by decide, by decide, zc5, us5, fl_X5_18, tyX5_ok, nmX5, rfl, fun _ => rfl, by decide +kernel⟩
theorem ff_X5_21 : FF RX5 21 5 3 := ⟨_, _, _, rfl, by decide, by decide, zc5, us5, fl_X5_21⟩
theorem fp_X5_21 : FP RX5 21 5 3 false .int := ⟨_, _, _, tyX5, rfl, by decide, by decide, zc5, us5, fl_X5_21, tyX5_ok, nmX5, rfl, fun h => by cases h, by decide +kernel⟩
theorem ff_X5_25 : FF RX5 25 5 4 := ⟨_, _, _, rfl, by decide, by decide, zc5, us5, fl_X5_25⟩
theorem fp_X5_25 : FP RX5 25 5 4 false .int := ⟨_, _, _, tyX5, rfl, by decide, by decide, zc5, us5, fl_X5_25, tyX5_ok, nmX5, rfl, fun h => by cases h, by decide +kernel⟩
theorem ff_X5_28 : FF RX5 28 5 5 := ⟨_, _, _, rfl, by decide, by decide, zc5, us5, fl_X5_28⟩
theorem fp_X5_28 : FP RX5 28 5 5 false .int := ⟨_, _, _, tyX5, rfl, by decide, by decide, zc5, us5, fl_X5_28, tyX5_ok, nmX5, rfl, fun h => by cases h, by decide +kernel⟩
theorem ff_X1_11 : FF RX1 11 1 0 := ⟨_, _, _, rfl, by decide, by decide, zc1, us1, fl_X1_11⟩
theorem fp_X1_11 : FP RX1 11 1 0 true (.array (.object "DeckBalance$Plan")) := ⟨_, _, _, tyX1, rfl, by decide, by decide, zc1, us1, fl_X1_11, tyX1_ok, nmX1, rfl, fun _ => rfl, by decide +kernel⟩
theorem ff_X8_109 : FF RX8 109 1 0 := ⟨_, _, _, rfl, by decide, by decide, zc1, us1, fl_X8_109⟩
theorem ff_X1_19 : FF RX1 19 1 1 := ⟨_, _, _, rfl, by decide, by decide, zc1, us1, fl_X1_19⟩
theorem fp_X1_19 : FP RX1 19 1 1 true (.array (.array .int)) := ⟨_, _, _, tyX1, rfl, by decide, by decide, zc1, us1, fl_X1_19, tyX1_ok, nmX1, rfl, fun _ => rfl, by decide +kernel⟩
theorem ff_X8_136 : FF RX8 136 1 1 := ⟨_, _, _, rfl, by decide, by decide, zc1, us1, fl_X8_136⟩
theorem ff_X1_25 : FF RX1 25 1 2 := ⟨_, _, _, rfl, by decide, by decide, zc1, us1, fl_X1_25⟩
theorem fp_X1_25 : FP RX1 25 1 2 true (.object "DeckBalance$Mix") := ⟨_, _, _, tyX1, rfl, by decide, by decide, zc1, us1, fl_X1_25, tyX1_ok, nmX1, rfl, fun _ => rfl, by decide +kernel⟩
theorem ff_X8_150 : FF RX8 150 1 2 := ⟨_, _, _, rfl, by decide, by decide, zc1, us1, fl_X8_150⟩
theorem ff_X6_9 : FF RX6 9 6 0 := ⟨_, _, _, rfl, by decide, by decide, zc6, us6, fl_X6_9⟩
theorem fp_X6_9 : FP RX6 9 6 0 true (.array .int) := ⟨_, _, _, tyX6, rfl, by decide, by decide, zc6, us6, fl_X6_9, tyX6_ok, nmX6, rfl, fun _ => rfl, by decide +kernel⟩
theorem ff_X8_143 : FF RX8 143 6 0 := ⟨_, _, _, rfl, by decide, by decide, zc6, us6, fl_X8_143⟩
theorem ff_X6_15 : FF RX6 15 6 1 := ⟨_, _, _, rfl, by decide, by decide, zc6, us6, fl_X6_15⟩
theorem fp_X6_15 : FP RX6 15 6 1 false .int := ⟨_, _, _, tyX6, rfl, by decide, by decide, zc6, us6, fl_X6_15, tyX6_ok, nmX6, rfl, fun h => by cases h, by decide +kernel⟩
theorem ff_X8_140 : FF RX8 140 6 1 := ⟨_, _, _, rfl, by decide, by decide, zc6, us6, fl_X8_140⟩
theorem fp_X8_140 : FP RX8 140 6 1 false .int := ⟨_, _, _, tyX6, rfl, by decide, by decide, zc6, us6, fl_X8_140, tyX6_ok, nmX6, rfl, fun h => by cases h, by decide +kernel⟩
theorem ff_X8_10 : FF RX8 10 8 0 := ⟨_, _, _, rfl, by decide, by decide, zc8, us8, fl_X8_10⟩
theorem fp_X8_10 : FP RX8 10 8 0 true (.object "DeckBalance$CardBook") := ⟨_, _, _, tyX8, rfl, by decide, by decide, zc8, us8, fl_X8_10, tyX8_ok, nmX8, rfl, fun _ => rfl, by decide +kernel⟩
theorem ff_X8_18 : FF RX8 18 8 1 := ⟨_, _, _, rfl, by decide, by decide, zc8, us8, fl_X8_18⟩
theorem fp_X8_18 : FP RX8 18 8 1 true (.array (.object "DeckBalance$Deck")) := ⟨_, _, _, tyX8, rfl, by decide, by decide, zc8, us8, fl_X8_18, tyX8_ok, nmX8, rfl, fun _ => rfl, by decide +kernel⟩
theorem ff_X8_28 : FF RX8 28 8 2 := ⟨_, _, _, rfl, by decide, by decide, zc8, us8, fl_X8_28⟩
theorem fp_X8_28 : FP RX8 28 8 2 true (.object "DeckBalance$Game") := ⟨_, _, _, tyX8, rfl, by decide, by decide, zc8, us8, fl_X8_28, tyX8_ok, nmX8, rfl, fun _ => rfl, by decide +kernel⟩
theorem ff_X8_35 : FF RX8 35 8 3 := ⟨_, _, _, rfl, by decide, by decide, zc8, us8, fl_X8_35⟩
theorem fp_X8_35 : FP RX8 35 8 3 true (.object "DeckBalance$Contest") := ⟨_, _, _, tyX8, rfl, by decide, by decide, zc8, us8, fl_X8_35, tyX8_ok, nmX8, rfl, fun _ => rfl, by decide +kernel⟩
theorem ff_X8_39 : FF RX8 39 8 4 := ⟨_, _, _, rfl, by decide, by decide, zc8, us8, fl_X8_39⟩
theorem fp_X8_39 : FP RX8 39 8 4 true (.object "DeckBalance$Contest") := ⟨_, _, _, tyX8, rfl, by decide, by decide, zc8, us8, fl_X8_39, tyX8_ok, nmX8, rfl, fun _ => rfl, by decide +kernel⟩
theorem ff_X8_45 : FF RX8 45 8 5 := ⟨_, _, _, rfl, by decide, by decide, zc8, us8, fl_X8_45⟩
theorem fp_X8_45 : FP RX8 45 8 5 true (.object "DeckBalance$Rings") := ⟨_, _, _, tyX8, rfl, by decide, by decide, zc8, us8, fl_X8_45, tyX8_ok, nmX8, rfl, fun _ => rfl, by decide +kernel⟩
theorem ff_X8_52 : FF RX8 52 8 6 := ⟨_, _, _, rfl, by decide, by decide, zc8, us8, fl_X8_52⟩
theorem fp_X8_52 : FP RX8 52 8 6 true (.object "DeckBalance$Plan") := ⟨_, _, _, tyX8, rfl, by decide, by decide, zc8, us8, fl_X8_52, tyX8_ok, nmX8, rfl, fun _ => rfl, by decide +kernel⟩
theorem ff_X8_56 : FF RX8 56 8 7 := ⟨_, _, _, rfl, by decide, by decide, zc8, us8, fl_X8_56⟩
theorem fp_X8_56 : FP RX8 56 8 7 true (.array .int) := ⟨_, _, _, tyX8, rfl, by decide, by decide, zc8, us8, fl_X8_56, tyX8_ok, nmX8, rfl, fun _ => rfl, by decide +kernel⟩
theorem ff_X8_82 : FF RX8 82 8 8 := ⟨_, _, _, rfl, by decide, by decide, zc8, us8, fl_X8_82⟩
theorem fp_X8_82 : FP RX8 82 8 8 false .int := ⟨_, _, _, tyX8, rfl, by decide, by decide, zc8, us8, fl_X8_82, tyX8_ok, nmX8, rfl, fun h => by cases h, by decide +kernel⟩
theorem ff_X8_60 : FF RX8 60 8 9 := ⟨_, _, _, rfl, by decide, by decide, zc8, us8, fl_X8_60⟩
theorem fp_X8_60 : FP RX8 60 8 9 false .int := ⟨_, _, _, tyX8, rfl, by decide, by decide, zc8, us8, fl_X8_60, tyX8_ok, nmX8, rfl, fun h => by cases h, by decide +kernel⟩
theorem ff_X8_186 : FF RX8 186 8 10 := ⟨_, _, _, rfl, by decide, by decide, zc8, us8, fl_X8_186⟩
theorem fp_X8_186 : FP RX8 186 8 10 false .boolean := ⟨_, _, _, tyX8, rfl, by decide, by decide, zc8, us8, fl_X8_186, tyX8_ok, nmX8, rfl, fun h => by cases h, by decide +kernel⟩
theorem ff_X8_190 : FF RX8 190 8 11 := ⟨_, _, _, rfl, by decide, by decide, zc8, us8, fl_X8_190⟩
theorem fp_X8_190 : FP RX8 190 8 11 false .boolean := ⟨_, _, _, tyX8, rfl, by decide, by decide, zc8, us8, fl_X8_190, tyX8_ok, nmX8, rfl, fun h => by cases h, by decide +kernel⟩
theorem ff_X9_72 : FF RX9 72 9 0 := ⟨_, _, _, rfl, by decide, by decide, zc9, us9, fl_X9_72⟩
theorem fp_X9_72 : FP RX9 72 9 0 false .int := ⟨_, _, _, tyX9, rfl, by decide, by decide, zc9, us9, fl_X9_72, tyX9_ok, nmX9, rfl, fun h => by cases h, by decide +kernel⟩
theorem ff_X9_7 : FF RX9 7 9 1 := ⟨_, _, _, rfl, by decide, by decide, zc9, us9, fl_X9_7⟩
theorem fp_X9_7 : FP RX9 7 9 1 true (.array .int) := ⟨_, _, _, tyX9, rfl, by decide, by decide, zc9, us9, fl_X9_7, tyX9_ok, nmX9, rfl, fun _ => rfl, by decide +kernel⟩
theorem ff_X9_13 : FF RX9 13 9 2 := ⟨_, _, _, rfl, by decide, by decide, zc9, us9, fl_X9_13⟩
theorem fp_X9_13 : FP RX9 13 9 2 true (.array .int) := ⟨_, _, _, tyX9, rfl, by decide, by decide, zc9, us9, fl_X9_13, tyX9_ok, nmX9, rfl, fun _ => rfl, by decide +kernel⟩
theorem ff_X9_16 : FF RX9 16 9 3 := ⟨_, _, _, rfl, by decide, by decide, zc9, us9, fl_X9_16⟩
theorem fp_X9_16 : FP RX9 16 9 3 true (.array .int) := ⟨_, _, _, tyX9, rfl, by decide, by decide, zc9, us9, fl_X9_16, tyX9_ok, nmX9, rfl, fun _ => rfl, by decide +kernel⟩
theorem ff_X9_79 : FF RX9 79 9 4 := ⟨_, _, _, rfl, by decide, by decide, zc9, us9, fl_X9_79⟩
theorem fp_X9_79 : FP RX9 79 9 4 false .int := ⟨_, _, _, tyX9, rfl, by decide, by decide, zc9, us9, fl_X9_79, tyX9_ok, nmX9, rfl, fun h => by cases h, by decide +kernel⟩
theorem ff_X9_19 : FF RX9 19 9 5 := ⟨_, _, _, rfl, by decide, by decide, zc9, us9, fl_X9_19⟩
theorem fp_X9_19 : FP RX9 19 9 5 true (.array .int) := ⟨_, _, _, tyX9, rfl, by decide, by decide, zc9, us9, fl_X9_19, tyX9_ok, nmX9, rfl, fun _ => rfl, by decide +kernel⟩
theorem ff_X9_22 : FF RX9 22 9 6 := ⟨_, _, _, rfl, by decide, by decide, zc9, us9, fl_X9_22⟩
theorem fp_X9_22 : FP RX9 22 9 6 true (.array .int) := ⟨_, _, _, tyX9, rfl, by decide, by decide, zc9, us9, fl_X9_22, tyX9_ok, nmX9, rfl, fun _ => rfl, by decide +kernel⟩
theorem ff_X9_25 : FF RX9 25 9 7 := ⟨_, _, _, rfl, by decide, by decide, zc9, us9, fl_X9_25⟩
theorem fp_X9_25 : FP RX9 25 9 7 false .int := ⟨_, _, _, tyX9, rfl, by decide, by decide, zc9, us9, fl_X9_25, tyX9_ok, nmX9, rfl, fun h => by cases h, by decide +kernel⟩
theorem ff_X9_29 : FF RX9 29 9 8 := ⟨_, _, _, rfl, by decide, by decide, zc9, us9, fl_X9_29⟩
theorem fp_X9_29 : FP RX9 29 9 8 true (.array .int) := ⟨_, _, _, tyX9, rfl, by decide, by decide, zc9, us9, fl_X9_29, tyX9_ok, nmX9, rfl, fun _ => rfl, by decide +kernel⟩
theorem ff_X9_32 : FF RX9 32 9 9 := ⟨_, _, _, rfl, by decide, by decide, zc9, us9, fl_X9_32⟩
theorem fp_X9_32 : FP RX9 32 9 9 true (.array .int) := ⟨_, _, _, tyX9, rfl, by decide, by decide, zc9, us9, fl_X9_32, tyX9_ok, nmX9, rfl, fun _ => rfl, by decide +kernel⟩
theorem ff_X9_35 : FF RX9 35 9 10 := ⟨_, _, _, rfl, by decide, by decide, zc9, us9, fl_X9_35⟩
theorem fp_X9_35 : FP RX9 35 9 10 true (.array .int) := ⟨_, _, _, tyX9, rfl, by decide, by decide, zc9, us9, fl_X9_35, tyX9_ok, nmX9, rfl, fun _ => rfl, by decide +kernel⟩
theorem ff_X9_38 : FF RX9 38 9 11 := ⟨_, _, _, rfl, by decide, by decide, zc9, us9, fl_X9_38⟩
theorem fp_X9_38 : FP RX9 38 9 11 true (.array .int) := ⟨_, _, _, tyX9, rfl, by decide, by decide, zc9, us9, fl_X9_38, tyX9_ok, nmX9, rfl, fun _ => rfl, by decide +kernel⟩
theorem ff_X9_41 : FF RX9 41 9 12 := ⟨_, _, _, rfl, by decide, by decide, zc9, us9, fl_X9_41⟩
theorem fp_X9_41 : FP RX9 41 9 12 true (.array .int) := ⟨_, _, _, tyX9, rfl, by decide, by decide, zc9, us9, fl_X9_41, tyX9_ok, nmX9, rfl, fun _ => rfl, by decide +kernel⟩
theorem ff_X9_44 : FF RX9 44 9 13 := ⟨_, _, _, rfl, by decide, by decide, zc9, us9, fl_X9_44⟩
theorem fp_X9_44 : FP RX9 44 9 13 true (.array .int) := ⟨_, _, _, tyX9, rfl, by decide, by decide, zc9, us9, fl_X9_44, tyX9_ok, nmX9, rfl, fun _ => rfl, by decide +kernel⟩
theorem ff_X9_47 : FF RX9 47 9 14 := ⟨_, _, _, rfl, by decide, by decide, zc9, us9, fl_X9_47⟩
theorem fp_X9_47 : FP RX9 47 9 14 true (.array .int) := ⟨_, _, _, tyX9, rfl, by decide, by decide, zc9, us9, fl_X9_47, tyX9_ok, nmX9, rfl, fun _ => rfl, by decide +kernel⟩
theorem ff_X9_97 : FF RX9 97 9 15 := ⟨_, _, _, rfl, by decide, by decide, zc9, us9, fl_X9_97⟩
theorem fp_X9_97 : FP RX9 97 9 15 false .int := ⟨_, _, _, tyX9, rfl, by decide, by decide, zc9, us9, fl_X9_97, tyX9_ok, nmX9, rfl, fun h => by cases h, by decide +kernel⟩
theorem ff_X9_50 : FF RX9 50 9 16 := ⟨_, _, _, rfl, by decide, by decide, zc9, us9, fl_X9_50⟩
theorem fp_X9_50 : FP RX9 50 9 16 true (.array .int) := ⟨_, _, _, tyX9, rfl, by decide, by decide, zc9, us9, fl_X9_50, tyX9_ok, nmX9, rfl, fun _ => rfl, by decide +kernel⟩
theorem ff_X9_131 : FF RX9 131 9 17 := ⟨_, _, _, rfl, by decide, by decide, zc9, us9, fl_X9_131⟩
theorem fp_X9_131 : FP RX9 131 9 17 false .int := ⟨_, _, _, tyX9, rfl, by decide, by decide, zc9, us9, fl_X9_131, tyX9_ok, nmX9, rfl, fun h => by cases h, by decide +kernel⟩
theorem ff_X9_134 : FF RX9 134 9 18 := ⟨_, _, _, rfl, by decide, by decide, zc9, us9, fl_X9_134⟩
theorem fp_X9_134 : FP RX9 134 9 18 false .int := ⟨_, _, _, tyX9, rfl, by decide, by decide, zc9, us9, fl_X9_134, tyX9_ok, nmX9, rfl, fun h => by cases h, by decide +kernel⟩
theorem ff_X9_137 : FF RX9 137 9 19 := ⟨_, _, _, rfl, by decide, by decide, zc9, us9, fl_X9_137⟩
theorem fp_X9_137 : FP RX9 137 9 19 false .int := ⟨_, _, _, tyX9, rfl, by decide, by decide, zc9, us9, fl_X9_137, tyX9_ok, nmX9, rfl, fun h => by cases h, by decide +kernel⟩
theorem ff_X9_53 : FF RX9 53 9 20 := ⟨_, _, _, rfl, by decide, by decide, zc9, us9, fl_X9_53⟩
theorem fp_X9_53 : FP RX9 53 9 20 true (.array .long) := ⟨_, _, _, tyX9, rfl, by decide, by decide, zc9, us9, fl_X9_53, tyX9_ok, nmX9, rfl, fun _ => rfl, by decide +kernel⟩
theorem ff_X9_57 : FF RX9 57 9 21 := ⟨_, _, _, rfl, by decide, by decide, zc9, us9, fl_X9_57⟩
theorem fp_X9_57 : FP RX9 57 9 21 true (.array .long) := ⟨_, _, _, tyX9, rfl, by decide, by decide, zc9, us9, fl_X9_57, tyX9_ok, nmX9, rfl, fun _ => rfl, by decide +kernel⟩
theorem ff_X9_60 : FF RX9 60 9 22 := ⟨_, _, _, rfl, by decide, by decide, zc9, us9, fl_X9_60⟩
theorem fp_X9_60 : FP RX9 60 9 22 true (.array .long) := ⟨_, _, _, tyX9, rfl, by decide, by decide, zc9, us9, fl_X9_60, tyX9_ok, nmX9, rfl, fun _ => rfl, by decide +kernel⟩
theorem ff_X9_63 : FF RX9 63 9 23 := ⟨_, _, _, rfl, by decide, by decide, zc9, us9, fl_X9_63⟩
theorem fp_X9_63 : FP RX9 63 9 23 true (.array .long) := ⟨_, _, _, tyX9, rfl, by decide, by decide, zc9, us9, fl_X9_63, tyX9_ok, nmX9, rfl, fun _ => rfl, by decide +kernel⟩
theorem ff_X9_66 : FF RX9 66 9 24 := ⟨_, _, _, rfl, by decide, by decide, zc9, us9, fl_X9_66⟩
theorem fp_X9_66 : FP RX9 66 9 24 true (.array .long) := ⟨_, _, _, tyX9, rfl, by decide, by decide, zc9, us9, fl_X9_66, tyX9_ok, nmX9, rfl, fun _ => rfl, by decide +kernel⟩
theorem ff_X9_69 : FF RX9 69 9 25 := ⟨_, _, _, rfl, by decide, by decide, zc9, us9, fl_X9_69⟩
theorem fp_X9_69 : FP RX9 69 9 25 true (.array .int) := ⟨_, _, _, tyX9, rfl, by decide, by decide, zc9, us9, fl_X9_69, tyX9_ok, nmX9, rfl, fun _ => rfl, by decide +kernel⟩
theorem fc_L_9 : FC RL 9 yX8_init cX8_init 2 none 0 := ⟨wc_X8_init, ml_L_9, wi_X8, by decide +kernel⟩
theorem fc_X8_25 : FC RX8 25 yX3_init cX3_init 2 none 1 := ⟨wc_X3_init, ml_X8_25, wi_X3, by decide +kernel⟩
theorem fc_X8_34 : FC RX8 34 yX1_init cX1_init 2 none 0 := ⟨wc_X1_init, ml_X8_34, wi_X1, by decide +kernel⟩
theorem fc_L_13 : FC RL 13 yX8_card cX8_card 4 (some .int) 3 := ⟨wc_X8_card, ml_L_13, wi_X8, by decide +kernel⟩
theorem fc_X8_64 : FC RX8 64 yX8_isOutside cX8_isOutside 3 (some .boolean) 3 := ⟨wc_X8_isOutside, ml_X8_64, wi_X8, by decide +kernel⟩
theorem fc_X8_68 : FC RX8 68 yX0_enter cX0_enter 4 (some .int) 3 := ⟨wc_X0_enter, ml_X8_68, wi_X0, by decide +kernel⟩
theorem fc_L_18 : FC RL 18 yX8_power cX8_power 4 (some .int) 2 := ⟨wc_X8_power, ml_L_18, wi_X8, by decide +kernel⟩
theorem fc_X8_72 : FC RX8 72 yX8_isNoCard cX8_isNoCard 2 (some .boolean) 1 := ⟨wc_X8_isNoCard, ml_X8_72, wi_X8, by decide +kernel⟩
theorem fc_X8_79 : FC RX8 79 yX8_forgetTables cX8_forgetTables 1 none 0 := ⟨wc_X8_forgetTables, ml_X8_79, wi_X8, by decide +kernel⟩
theorem fc_L_23 : FC RL 23 yX8_deck cX8_deck 1 (some .int) 0 := ⟨wc_X8_deck, ml_L_23, wi_X8, by decide +kernel⟩
theorem fc_L_28 : FC RL 28 yX8_add cX8_add 3 (some .int) 2 := ⟨wc_X8_add, ml_L_28, wi_X8, by decide +kernel⟩
theorem fc_X8_85 : FC RX8 85 yX8_isNoDeck cX8_isNoDeck 2 (some .boolean) 1 := ⟨wc_X8_isNoDeck, ml_X8_85, wi_X8, by decide +kernel⟩
theorem fc_X8_88 : FC RX8 88 yX2_append cX2_append 2 (some .int) 1 := ⟨wc_X2_append, ml_X8_88, wi_X2, by decide +kernel⟩
theorem fc_L_32 : FC RL 32 yX8_drop cX8_drop 4 (some .int) 2 := ⟨wc_X8_drop, ml_L_32, wi_X8, by decide +kernel⟩
theorem fc_X8_92 : FC RX8 92 yX8_isNoPlace cX8_isNoPlace 3 (some .boolean) 2 := ⟨wc_X8_isNoPlace, ml_X8_92, wi_X8, by decide +kernel⟩
theorem fc_X8_96 : FC RX8 96 yX2_takeOut cX2_takeOut 4 (some .int) 1 := ⟨wc_X2_takeOut, ml_X8_96, wi_X2, by decide +kernel⟩
theorem fc_L_36 : FC RL 36 yX8_swap cX8_swap 4 (some .int) 3 := ⟨wc_X8_swap, ml_L_36, wi_X8, by decide +kernel⟩
theorem fc_X8_99 : FC RX8 99 yX2_exchange cX2_exchange 4 none 2 := ⟨wc_X2_exchange, ml_X8_99, wi_X2, by decide +kernel⟩
theorem fc_L_40 : FC RL 40 yX8_at cX8_at 3 (some .int) 2 := ⟨wc_X8_at, ml_L_40, wi_X8, by decide +kernel⟩
theorem fc_L_44 : FC RL 44 yX8_life cX8_life 3 (some .int) 1 := ⟨wc_X8_life, ml_L_44, wi_X8, by decide +kernel⟩
theorem fc_L_49 : FC RL 49 yX8_play cX8_play 3 (some .int) 2 := ⟨wc_X8_play, ml_L_49, wi_X8, by decide +kernel⟩
theorem fc_X8_106 : FC RX8 106 yX8_learnTables cX8_learnTables 3 none 0 := ⟨wc_X8_learnTables, ml_X8_106, wi_X8, by decide +kernel⟩
theorem fc_X8_193 : FC RX8 193 yX5_lay cX5_lay 5 none 3 := ⟨wc_X5_lay, ml_X8_193, wi_X5, by decide +kernel⟩
theorem fc_X5_31 : FC RX5 31 yX5_draw cX5_draw 3 none 2 := ⟨wc_X5_draw, ml_X5_31, wi_X5, by decide +kernel⟩
theorem fc_X5_35 : FC RX5 35 yJ9_min_7cf53 cJ9_min_7cf53 2 (some .int) 2 := ⟨wc_J9_min_7cf53, ml_X5_35, wi_J9, by decide +kernel⟩
theorem fc_X5_41 : FC RX5 41 yX5_playHand cX5_playHand 6 none 2 := ⟨wc_X5_playHand, ml_X5_41, wi_X5, by decide +kernel⟩
theorem fc_X5_53 : FC RX5 53 yX5_nextPlace cX5_nextPlace 5 (some .int) 2 := ⟨wc_X5_nextPlace, ml_X5_53, wi_X5, by decide +kernel⟩
theorem fc_X5_66 : FC RX5 66 yX0_isPlayedAhead cX0_isPlayedAhead 3 (some .boolean) 2 := ⟨wc_X0_isPlayedAhead, ml_X5_66, wi_X0, by decide +kernel⟩
theorem fc_X5_62 : FC RX5 62 yX5_putDown cX5_putDown 2 none 1 := ⟨wc_X5_putDown, ml_X5_62, wi_X5, by decide +kernel⟩
theorem fc_X8_197 : FC RX8 197 yX8_tableOf cX8_tableOf 3 (some .int) 2 := ⟨wc_X8_tableOf, ml_X8_197, wi_X8, by decide +kernel⟩
theorem fc_X8_113 : FC RX8 113 yX3_resultOf cX3_resultOf 5 (some .int) 3 := ⟨wc_X3_resultOf, ml_X8_113, wi_X3, by decide +kernel⟩
theorem fc_X3_25 : FC RX3 25 yX7_begin cX7_begin 2 none 1 := ⟨wc_X7_begin, ml_X3_25, wi_X7, by decide +kernel⟩
theorem fc_X3_33 : FC RX3 33 yX7_defeats cX7_defeats 7 (some .boolean) 4 := ⟨wc_X7_defeats, ml_X3_33, wi_X7, by decide +kernel⟩
theorem fc_X7_24 : FC RX7 24 yJ9_max_7cf53 cJ9_max_7cf53 2 (some .int) 2 := ⟨wc_J9_max_7cf53, ml_X7_24, wi_J9, by decide +kernel⟩
theorem fc_X7_39 : FC RX7 39 yX7_put cX7_put 4 none 3 := ⟨wc_X7_put, ml_X7_39, wi_X7, by decide +kernel⟩
theorem fc_X3_40 : FC RX3 40 yJ6_compare_7cf53 cJ6_compare_7cf53 2 (some .int) 2 := ⟨wc_J6_compare_7cf53, ml_X3_40, wi_J6, by decide +kernel⟩
theorem fc_X8_201 : FC RX8 201 yX1_enter cX1_enter 4 none 3 := ⟨wc_X1_enter, ml_X8_201, wi_X1, by decide +kernel⟩
theorem fc_X8_204 : FC RX8 204 yX6_find cX6_find 5 none 2 := ⟨wc_X6_find, ml_X8_204, wi_X6, by decide +kernel⟩
theorem fc_X6_19 : FC RX6 19 yX6_findThird cX6_findThird 6 none 4 := ⟨wc_X6_findThird, ml_X6_19, wi_X6, by decide +kernel⟩
theorem fc_L_53 : FC RL 53 yX8_told cX8_told 4 (some .int) 3 := ⟨wc_X8_told, ml_L_53, wi_X8, by decide +kernel⟩
theorem fc_L_57 : FC RL 57 yX8_table cX8_table 3 (some .int) 2 := ⟨wc_X8_table, ml_L_57, wi_X8, by decide +kernel⟩
theorem fc_L_61 : FC RL 61 yX8_rings cX8_rings 1 (some .int) 0 := ⟨wc_X8_rings, ml_L_61, wi_X8, by decide +kernel⟩
theorem fc_L_65 : FC RL 65 yX8_ring cX8_ring 3 (some .int) 2 := ⟨wc_X8_ring, ml_L_65, wi_X8, by decide +kernel⟩
theorem fc_L_69 : FC RL 69 yX8_share cX8_share 6 (some .long) 2 := ⟨wc_X8_share, ml_L_69, wi_X8, by decide +kernel⟩
theorem fc_X8_147 : FC RX8 147 yX8_learnMix cX8_learnMix 1 none 0 := ⟨wc_X8_learnMix, ml_X8_147, wi_X8, by decide +kernel⟩
theorem fc_X8_208 : FC RX8 208 yX4_find cX4_find 7 none 2 := ⟨wc_X4_find, ml_X8_208, wi_X4, by decide +kernel⟩
theorem fc_X4_28 : FC RX4 28 yX4_findMinors cX4_findMinors 6 none 1 := ⟨wc_X4_findMinors, ml_X4_28, wi_X4, by decide +kernel⟩
theorem fc_X4_32 : FC RX4 32 yJ6_bitCount_0f7a4 cJ6_bitCount_0f7a4 1 (some .int) 1 := ⟨wc_J6_bitCount_0f7a4, ml_X4_32, wi_J6, by decide +kernel⟩
theorem fc_X4_53 : FC RX4 53 yX4_minorOf cX4_minorOf 9 (some .int) 3 := ⟨wc_X4_minorOf, ml_X4_53, wi_X4, by decide +kernel⟩
theorem fc_X4_57 : FC RX4 57 yX4_leastOf cX4_leastOf 3 (some .int) 1 := ⟨wc_X4_leastOf, ml_X4_57, wi_X4, by decide +kernel⟩
theorem fc_X4_60 : FC RX4 60 yX4_isIn cX4_isIn 2 (some .boolean) 2 := ⟨wc_X4_isIn, ml_X4_60, wi_X4, by decide +kernel⟩
theorem fc_X4_38 : FC RX4 38 yX4_tryCorner cX4_tryCorner 7 (some .boolean) 2 := ⟨wc_X4_tryCorner, ml_X4_38, wi_X4, by decide +kernel⟩
theorem fc_X4_66 : FC RX4 66 yX4_turnSigns cX4_turnSigns 2 none 0 := ⟨wc_X4_turnSigns, ml_X4_66, wi_X4, by decide +kernel⟩
theorem fc_X4_42 : FC RX4 42 yX4_isHolding cX4_isHolding 5 (some .boolean) 1 := ⟨wc_X4_isHolding, ml_X4_42, wi_X4, by decide +kernel⟩
theorem fc_X4_46 : FC RX4 46 yX4_isGreater cX4_isGreater 3 (some .boolean) 0 := ⟨wc_X4_isGreater, ml_X4_46, wi_X4, by decide +kernel⟩
theorem fc_X4_50 : FC RX4 50 yX4_takeTried cX4_takeTried 2 none 0 := ⟨wc_X4_takeTried, ml_X4_50, wi_X4, by decide +kernel⟩
theorem fc_X8_162 : FC RX8 162 yX8_greatestDivisor cX8_greatestDivisor 6 (some .int) 2 := ⟨wc_X8_greatestDivisor, ml_X8_162, wi_X8, by decide +kernel⟩
theorem fc_L_74 : FC RL 74 yX8_live cX8_live 3 (some .int) 0 := ⟨wc_X8_live, ml_L_74, wi_X8, by decide +kernel⟩
theorem fc_L_78 : FC RL 78 yX8_standing cX8_standing 2 (some .int) 1 := ⟨wc_X8_standing, ml_L_78, wi_X8, by decide +kernel⟩
theorem fc_X8_166 : FC RX8 166 yX8_sumOf cX8_sumOf 4 (some .int) 1 := ⟨wc_X8_sumOf, ml_X8_166, wi_X8, by decide +kernel⟩
theorem fc_L_82 : FC RL 82 yX8_worth cX8_worth 3 (some .int) 2 := ⟨wc_X8_worth, ml_L_82, wi_X8, by decide +kernel⟩
theorem fc_X8_170 : FC RX8 170 yX2_firstPlaceOf cX2_firstPlaceOf 3 (some .int) 1 := ⟨wc_X2_firstPlaceOf, ml_X8_170, wi_X2, by decide +kernel⟩
theorem fc_X8_173 : FC RX8 173 yX8_learnTablesWithout cX8_learnTablesWithout 4 none 2 := ⟨wc_X8_learnTablesWithout, ml_X8_173, wi_X8, by decide +kernel⟩
theorem fc_L_86 : FC RL 86 yX8_idle cX8_idle 4 (some .int) 2 := ⟨wc_X8_idle, ml_L_86, wi_X8, by decide +kernel⟩
theorem fc_L_90 : FC RL 90 yX8_remedy cX8_remedy 7 (some .int) 2 := ⟨wc_X8_remedy, ml_L_90, wi_X8, by decide +kernel⟩
theorem fc_X8_177 : FC RX8 177 yX8_isMixWithin cX8_isMixWithin 6 (some .boolean) 4 := ⟨wc_X8_isMixWithin, ml_X8_177, wi_X8, by decide +kernel⟩
theorem fc_X8_209 : FC RX8 209 yX8_learnTrialTables cX8_learnTrialTables 5 none 1 := ⟨wc_X8_learnTrialTables, ml_X8_209, wi_X8, by decide +kernel⟩
theorem fc_X8_220 : FC RX8 220 yX8_hasCard cX8_hasCard 3 (some .boolean) 2 := ⟨wc_X8_hasCard, ml_X8_220, wi_X8, by decide +kernel⟩
theorem fc_X8_223 : FC RX8 223 yX8_trialPlan cX8_trialPlan 3 (some (.object "DeckBalance$Plan")) 2 := ⟨wc_X8_trialPlan, ml_X8_223, wi_X8, by decide +kernel⟩
theorem fc_X8_213 : FC RX8 213 yX1_hasTablesOf cX1_hasTablesOf 5 (some .boolean) 2 := ⟨wc_X1_hasTablesOf, ml_X8_213, wi_X1, by decide +kernel⟩
theorem fc_X8_217 : FC RX8 217 yX4_isWithin cX4_isWithin 4 (some .boolean) 2 := ⟨wc_X4_isWithin, ml_X8_217, wi_X4, by decide +kernel⟩
theorem fc_L_94 : FC RL 94 yX8_count cX8_count 2 (some .int) 1 := ⟨wc_X8_count, ml_L_94, wi_X8, by decide +kernel⟩
theorem fc_X8_181 : FC RX8 181 yX8_cardsInDecks cX8_cardsInDecks 3 (some .int) 0 := ⟨wc_X8_cardsInDecks, ml_X8_181, wi_X8, by decide +kernel⟩
theorem fc_L_12 : FC RL 12 yX9_init cX9_init 1 none 0 := ⟨wc_X9_init, ml_L_12, wi_X9, by decide +kernel⟩
theorem fc_L_17 : FC RL 17 yX9_card cX9_card 4 (some .int) 3 := ⟨wc_X9_card, ml_L_17, wi_X9, by decide +kernel⟩
theorem fc_X9_75 : FC RX9 75 yX9_in cX9_in 3 (some .boolean) 3 := ⟨wc_X9_in, ml_X9_75, wi_X9, by decide +kernel⟩
theorem fc_L_22 : FC RL 22 yX9_power cX9_power 4 (some .int) 2 := ⟨wc_X9_power, ml_L_22, wi_X9, by decide +kernel⟩
theorem fc_X9_82 : FC RX9 82 yX9_isCard cX9_isCard 2 (some .boolean) 1 := ⟨wc_X9_isCard, ml_X9_82, wi_X9, by decide +kernel⟩
theorem fc_L_27 : FC RL 27 yX9_deck cX9_deck 1 (some .int) 0 := ⟨wc_X9_deck, ml_L_27, wi_X9, by decide +kernel⟩
theorem fc_L_31 : FC RL 31 yX9_add cX9_add 3 (some .int) 2 := ⟨wc_X9_add, ml_L_31, wi_X9, by decide +kernel⟩
theorem fc_X9_86 : FC RX9 86 yX9_isDeck cX9_isDeck 2 (some .boolean) 1 := ⟨wc_X9_isDeck, ml_X9_86, wi_X9, by decide +kernel⟩
theorem fc_L_35 : FC RL 35 yX9_drop cX9_drop 4 (some .int) 2 := ⟨wc_X9_drop, ml_L_35, wi_X9, by decide +kernel⟩
theorem fc_X9_89 : FC RX9 89 yX9_isPlace cX9_isPlace 3 (some .boolean) 2 := ⟨wc_X9_isPlace, ml_X9_89, wi_X9, by decide +kernel⟩
theorem fc_X9_93 : FC RX9 93 yX9_dropAt cX9_dropAt 4 none 2 := ⟨wc_X9_dropAt, ml_X9_93, wi_X9, by decide +kernel⟩
theorem fc_L_39 : FC RL 39 yX9_swap cX9_swap 5 (some .int) 3 := ⟨wc_X9_swap, ml_L_39, wi_X9, by decide +kernel⟩
theorem fc_L_43 : FC RL 43 yX9_at cX9_at 3 (some .int) 2 := ⟨wc_X9_at, ml_L_43, wi_X9, by decide +kernel⟩
theorem fc_L_48 : FC RL 48 yX9_life cX9_life 3 (some .int) 1 := ⟨wc_X9_life, ml_L_48, wi_X9, by decide +kernel⟩
theorem fc_L_52 : FC RL 52 yX9_play cX9_play 3 (some .int) 2 := ⟨wc_X9_play, ml_L_52, wi_X9, by decide +kernel⟩
theorem fc_X9_118 : FC RX9 118 yX9_result cX9_result 3 (some .int) 2 := ⟨wc_X9_result, ml_X9_118, wi_X9, by decide +kernel⟩
theorem fc_X9_115 : FC RX9 115 yX9_game cX9_game 4 none 2 := ⟨wc_X9_game, ml_X9_115, wi_X9, by decide +kernel⟩
theorem fc_X9_104 : FC RX9 104 yX9_isOver cX9_isOver 1 (some .boolean) 0 := ⟨wc_X9_isOver, ml_X9_104, wi_X9, by decide +kernel⟩
theorem fc_X9_111 : FC RX9 111 yX9_move cX9_move 6 none 1 := ⟨wc_X9_move, ml_X9_111, wi_X9, by decide +kernel⟩
theorem fc_X9_100 : FC RX9 100 yX9_nextCard cX9_nextCard 6 (some .int) 2 := ⟨wc_X9_nextCard, ml_X9_100, wi_X9, by decide +kernel⟩
theorem fc_X9_108 : FC RX9 108 yX9_playCard cX9_playCard 3 none 2 := ⟨wc_X9_playCard, ml_X9_108, wi_X9, by decide +kernel⟩
theorem fc_L_56 : FC RL 56 yX9_told cX9_told 4 (some .int) 3 := ⟨wc_X9_told, ml_L_56, wi_X9, by decide +kernel⟩
theorem fc_L_60 : FC RL 60 yX9_table cX9_table 3 (some .int) 2 := ⟨wc_X9_table, ml_L_60, wi_X9, by decide +kernel⟩
theorem fc_X9_122 : FC RX9 122 yX9_tableOf cX9_tableOf 3 (some .int) 2 := ⟨wc_X9_tableOf, ml_X9_122, wi_X9, by decide +kernel⟩
theorem fc_L_64 : FC RL 64 yX9_rings cX9_rings 1 (some .int) 0 := ⟨wc_X9_rings, ml_L_64, wi_X9, by decide +kernel⟩
theorem fc_X9_140 : FC RX9 140 yX9_findRings cX9_findRings 6 (some .int) 1 := ⟨wc_X9_findRings, ml_X9_140, wi_X9, by decide +kernel⟩
theorem fc_X9_125 : FC RX9 125 yX9_layTables cX9_layTables 3 none 0 := ⟨wc_X9_layTables, ml_X9_125, wi_X9, by decide +kernel⟩
theorem fc_X9_128 : FC RX9 128 yX9_beats cX9_beats 3 (some .boolean) 2 := ⟨wc_X9_beats, ml_X9_128, wi_X9, by decide +kernel⟩
theorem fc_L_68 : FC RL 68 yX9_ring cX9_ring 3 (some .int) 2 := ⟨wc_X9_ring, ml_L_68, wi_X9, by decide +kernel⟩
theorem fc_L_73 : FC RL 73 yX9_share cX9_share 3 (some .long) 2 := ⟨wc_X9_share, ml_L_73, wi_X9, by decide +kernel⟩
theorem fc_X9_174 : FC RX9 174 yX9_findMix cX9_findMix 3 none 0 := ⟨wc_X9_findMix, ml_X9_174, wi_X9, by decide +kernel⟩
theorem fc_X9_157 : FC RX9 157 yX9_ones cX9_ones 3 (some .int) 1 := ⟨wc_X9_ones, ml_X9_157, wi_X9, by decide +kernel⟩
theorem fc_X9_160 : FC RX9 160 yX9_layBounds cX9_layBounds 5 none 1 := ⟨wc_X9_layBounds, ml_X9_160, wi_X9, by decide +kernel⟩
theorem fc_X9_163 : FC RX9 163 yX9_solve cX9_solve 8 (some .boolean) 0 := ⟨wc_X9_solve, ml_X9_163, wi_X9, by decide +kernel⟩
theorem fc_X9_148 : FC RX9 148 yX9_changeRows cX9_changeRows 6 none 2 := ⟨wc_X9_changeRows, ml_X9_148, wi_X9, by decide +kernel⟩
theorem fc_X9_151 : FC RX9 151 yX9_clearRow cX9_clearRow 11 none 3 := ⟨wc_X9_clearRow, ml_X9_151, wi_X9, by decide +kernel⟩
theorem fc_X9_144 : FC RX9 144 yX9_divisor cX9_divisor 10 (some .long) 2 := ⟨wc_X9_divisor, ml_X9_144, wi_X9, by decide +kernel⟩
theorem fc_X9_166 : FC RX9 166 yX9_holds cX9_holds 8 (some .boolean) 0 := ⟨wc_X9_holds, ml_X9_166, wi_X9, by decide +kernel⟩
theorem fc_X9_169 : FC RX9 169 yX9_isGreater cX9_isGreater 4 (some .boolean) 0 := ⟨wc_X9_isGreater, ml_X9_169, wi_X9, by decide +kernel⟩
theorem fc_L_77 : FC RL 77 yX9_live cX9_live 3 (some .int) 0 := ⟨wc_X9_live, ml_L_77, wi_X9, by decide +kernel⟩
theorem fc_L_81 : FC RL 81 yX9_standing cX9_standing 2 (some .int) 1 := ⟨wc_X9_standing, ml_L_81, wi_X9, by decide +kernel⟩
theorem fc_X9_177 : FC RX9 177 yX9_standingOf cX9_standingOf 4 (some .int) 1 := ⟨wc_X9_standingOf, ml_X9_177, wi_X9, by decide +kernel⟩
theorem fc_L_85 : FC RL 85 yX9_worth cX9_worth 6 (some .int) 2 := ⟨wc_X9_worth, ml_L_85, wi_X9, by decide +kernel⟩
theorem fc_X9_180 : FC RX9 180 yX9_placeOf cX9_placeOf 4 (some .int) 2 := ⟨wc_X9_placeOf, ml_X9_180, wi_X9, by decide +kernel⟩
theorem fc_X9_183 : FC RX9 183 yX9_putBack cX9_putBack 5 none 3 := ⟨wc_X9_putBack, ml_X9_183, wi_X9, by decide +kernel⟩
theorem fc_L_89 : FC RL 89 yX9_idle cX9_idle 6 (some .int) 2 := ⟨wc_X9_idle, ml_L_89, wi_X9, by decide +kernel⟩
theorem fc_L_93 : FC RL 93 yX9_remedy cX9_remedy 9 (some .int) 2 := ⟨wc_X9_remedy, ml_L_93, wi_X9, by decide +kernel⟩
theorem fc_X9_186 : FC RX9 186 yX9_isRemedied cX9_isRemedied 5 (some .boolean) 2 := ⟨wc_X9_isRemedied, ml_X9_186, wi_X9, by decide +kernel⟩
theorem fc_L_97 : FC RL 97 yX9_count cX9_count 4 (some .int) 1 := ⟨wc_X9_count, ml_L_97, wi_X9, by decide +kernel⟩
end
