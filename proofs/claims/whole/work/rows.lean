section
-- ===== PART A: goes FIRST, ahead of the names: the tables' words, and 'selects' of the private methods out of them =====
/-- a private method of a class that the tables say can be made, by its rows of tables_1 -/
def lw_okq (q : MethodName × Nat) : Prop := (q.1.cls ≠ "java/lang/invoke/MethodHandle" ∧ q.1.cls ≠ "java/lang/invoke/VarHandle") ∧ Cond.instantiable q.1.cls q.2 ∈ tables_1 ∧ Cond.privateMethod q.1 ∈ tables_1 ∧ Cond.instanceMethod q.1 ∈ tables_1
theorem lw_p0 : lw_okq (⟨"DeckBalance", "isNoCard", "(I)Z"⟩, 12) := ⟨⟨by decide +kernel, by decide +kernel⟩, List.mem_of_getElem? (i := 14) (by decide +kernel), List.mem_of_getElem? (i := 254) (by decide +kernel), List.mem_of_getElem? (i := 255) (by decide +kernel)⟩
theorem lw_p1 : lw_okq (⟨"DeckBalance", "forgetTables", "()V"⟩, 12) := ⟨⟨by decide +kernel, by decide +kernel⟩, List.mem_of_getElem? (i := 14) (by decide +kernel), List.mem_of_getElem? (i := 258) (by decide +kernel), List.mem_of_getElem? (i := 259) (by decide +kernel)⟩
theorem lw_p2 : lw_okq (⟨"DeckBalance", "isNoDeck", "(I)Z"⟩, 12) := ⟨⟨by decide +kernel, by decide +kernel⟩, List.mem_of_getElem? (i := 14) (by decide +kernel), List.mem_of_getElem? (i := 270) (by decide +kernel), List.mem_of_getElem? (i := 271) (by decide +kernel)⟩
theorem lw_p3 : lw_okq (⟨"DeckBalance", "isNoPlace", "(II)Z"⟩, 12) := ⟨⟨by decide +kernel, by decide +kernel⟩, List.mem_of_getElem? (i := 14) (by decide +kernel), List.mem_of_getElem? (i := 282) (by decide +kernel), List.mem_of_getElem? (i := 283) (by decide +kernel)⟩
theorem lw_p4 : lw_okq (⟨"DeckBalance", "learnTables", "()V"⟩, 12) := ⟨⟨by decide +kernel, by decide +kernel⟩, List.mem_of_getElem? (i := 14) (by decide +kernel), List.mem_of_getElem? (i := 310) (by decide +kernel), List.mem_of_getElem? (i := 311) (by decide +kernel)⟩
theorem lw_p5 : lw_okq (⟨"DeckBalance$Plan", "draw", "(LDeckBalance$Deck;I)V"⟩, 6) := ⟨⟨by decide +kernel, by decide +kernel⟩, List.mem_of_getElem? (i := 145) (by decide +kernel), List.mem_of_getElem? (i := 318) (by decide +kernel), List.mem_of_getElem? (i := 319) (by decide +kernel)⟩
theorem lw_p6 : lw_okq (⟨"DeckBalance$Plan", "playHand", "(LDeckBalance$CardBook;I)V"⟩, 6) := ⟨⟨by decide +kernel, by decide +kernel⟩, List.mem_of_getElem? (i := 145) (by decide +kernel), List.mem_of_getElem? (i := 325) (by decide +kernel), List.mem_of_getElem? (i := 326) (by decide +kernel)⟩
theorem lw_p7 : lw_okq (⟨"DeckBalance$Plan", "nextPlace", "(LDeckBalance$CardBook;I)I"⟩, 6) := ⟨⟨by decide +kernel, by decide +kernel⟩, List.mem_of_getElem? (i := 145) (by decide +kernel), List.mem_of_getElem? (i := 329) (by decide +kernel), List.mem_of_getElem? (i := 330) (by decide +kernel)⟩
theorem lw_p8 : lw_okq (⟨"DeckBalance$Plan", "putDown", "(I)V"⟩, 6) := ⟨⟨by decide +kernel, by decide +kernel⟩, List.mem_of_getElem? (i := 145) (by decide +kernel), List.mem_of_getElem? (i := 337) (by decide +kernel), List.mem_of_getElem? (i := 338) (by decide +kernel)⟩
theorem lw_p9 : lw_okq (⟨"DeckBalance", "tableOf", "(LDeckBalance$Plan;LDeckBalance$Plan;)I"⟩, 12) := ⟨⟨by decide +kernel, by decide +kernel⟩, List.mem_of_getElem? (i := 14) (by decide +kernel), List.mem_of_getElem? (i := 341) (by decide +kernel), List.mem_of_getElem? (i := 342) (by decide +kernel)⟩
theorem lw_p10 : lw_okq (⟨"DeckBalance$Side", "put", "(LDeckBalance$Side;ILDeckBalance$CardBook;)V"⟩, 4) := ⟨⟨by decide +kernel, by decide +kernel⟩, List.mem_of_getElem? (i := 71) (by decide +kernel), List.mem_of_getElem? (i := 360) (by decide +kernel), List.mem_of_getElem? (i := 361) (by decide +kernel)⟩
theorem lw_p11 : lw_okq (⟨"DeckBalance$Rings", "findThird", "([[IIII)V"⟩, 2) := ⟨⟨by decide +kernel, by decide +kernel⟩, List.mem_of_getElem? (i := 185) (by decide +kernel), List.mem_of_getElem? (i := 375) (by decide +kernel), List.mem_of_getElem? (i := 376) (by decide +kernel)⟩
theorem lw_p12 : lw_okq (⟨"DeckBalance", "learnMix", "()V"⟩, 12) := ⟨⟨by decide +kernel, by decide +kernel⟩, List.mem_of_getElem? (i := 14) (by decide +kernel), List.mem_of_getElem? (i := 401) (by decide +kernel), List.mem_of_getElem? (i := 402) (by decide +kernel)⟩
theorem lw_p13 : lw_okq (⟨"DeckBalance$Mix", "findMinors", "([[I)V"⟩, 6) := ⟨⟨by decide +kernel, by decide +kernel⟩, List.mem_of_getElem? (i := 119) (by decide +kernel), List.mem_of_getElem? (i := 409) (by decide +kernel), List.mem_of_getElem? (i := 410) (by decide +kernel)⟩
theorem lw_p14 : lw_okq (⟨"DeckBalance$Mix", "minorOf", "([[III)I"⟩, 6) := ⟨⟨by decide +kernel, by decide +kernel⟩, List.mem_of_getElem? (i := 119) (by decide +kernel), List.mem_of_getElem? (i := 419) (by decide +kernel), List.mem_of_getElem? (i := 420) (by decide +kernel)⟩
theorem lw_p15 : lw_okq (⟨"DeckBalance$Mix", "leastOf", "(I)I"⟩, 6) := ⟨⟨by decide +kernel, by decide +kernel⟩, List.mem_of_getElem? (i := 119) (by decide +kernel), List.mem_of_getElem? (i := 423) (by decide +kernel), List.mem_of_getElem? (i := 424) (by decide +kernel)⟩
def lw_privs_1 : List (MethodName × Nat) := [(⟨"DeckBalance", "isNoCard", "(I)Z"⟩, 12), (⟨"DeckBalance", "forgetTables", "()V"⟩, 12), (⟨"DeckBalance", "isNoDeck", "(I)Z"⟩, 12), (⟨"DeckBalance", "isNoPlace", "(II)Z"⟩, 12), (⟨"DeckBalance", "learnTables", "()V"⟩, 12), (⟨"DeckBalance$Plan", "draw", "(LDeckBalance$Deck;I)V"⟩, 6), (⟨"DeckBalance$Plan", "playHand", "(LDeckBalance$CardBook;I)V"⟩, 6), (⟨"DeckBalance$Plan", "nextPlace", "(LDeckBalance$CardBook;I)I"⟩, 6), (⟨"DeckBalance$Plan", "putDown", "(I)V"⟩, 6), (⟨"DeckBalance", "tableOf", "(LDeckBalance$Plan;LDeckBalance$Plan;)I"⟩, 12), (⟨"DeckBalance$Side", "put", "(LDeckBalance$Side;ILDeckBalance$CardBook;)V"⟩, 4), (⟨"DeckBalance$Rings", "findThird", "([[IIII)V"⟩, 2), (⟨"DeckBalance", "learnMix", "()V"⟩, 12), (⟨"DeckBalance$Mix", "findMinors", "([[I)V"⟩, 6), (⟨"DeckBalance$Mix", "minorOf", "([[III)I"⟩, 6), (⟨"DeckBalance$Mix", "leastOf", "(I)I"⟩, 6)]
theorem lw_r1 : ∀ q ∈ lw_privs_1, lw_okq q := List.forall_mem_cons.mpr ⟨lw_p0, List.forall_mem_cons.mpr ⟨lw_p1, List.forall_mem_cons.mpr ⟨lw_p2, List.forall_mem_cons.mpr ⟨lw_p3, List.forall_mem_cons.mpr ⟨lw_p4, List.forall_mem_cons.mpr ⟨lw_p5, List.forall_mem_cons.mpr ⟨lw_p6, List.forall_mem_cons.mpr ⟨lw_p7, List.forall_mem_cons.mpr ⟨lw_p8, List.forall_mem_cons.mpr ⟨lw_p9, List.forall_mem_cons.mpr ⟨lw_p10, List.forall_mem_cons.mpr ⟨lw_p11, List.forall_mem_cons.mpr ⟨lw_p12, List.forall_mem_cons.mpr ⟨lw_p13, List.forall_mem_cons.mpr ⟨lw_p14, List.forall_mem_cons.mpr ⟨lw_p15, fun _ h => absurd h List.not_mem_nil⟩⟩⟩⟩⟩⟩⟩⟩⟩⟩⟩⟩⟩⟩⟩⟩
theorem lw_p16 : lw_okq (⟨"DeckBalance$Mix", "tryCorner", "(II)Z"⟩, 6) := ⟨⟨by decide +kernel, by decide +kernel⟩, List.mem_of_getElem? (i := 119) (by decide +kernel), List.mem_of_getElem? (i := 430) (by decide +kernel), List.mem_of_getElem? (i := 431) (by decide +kernel)⟩
theorem lw_p17 : lw_okq (⟨"DeckBalance$Mix", "turnSigns", "()V"⟩, 6) := ⟨⟨by decide +kernel, by decide +kernel⟩, List.mem_of_getElem? (i := 119) (by decide +kernel), List.mem_of_getElem? (i := 434) (by decide +kernel), List.mem_of_getElem? (i := 435) (by decide +kernel)⟩
theorem lw_p18 : lw_okq (⟨"DeckBalance$Mix", "isHolding", "([[I)Z"⟩, 6) := ⟨⟨by decide +kernel, by decide +kernel⟩, List.mem_of_getElem? (i := 119) (by decide +kernel), List.mem_of_getElem? (i := 438) (by decide +kernel), List.mem_of_getElem? (i := 439) (by decide +kernel)⟩
theorem lw_p19 : lw_okq (⟨"DeckBalance$Mix", "isGreater", "()Z"⟩, 6) := ⟨⟨by decide +kernel, by decide +kernel⟩, List.mem_of_getElem? (i := 119) (by decide +kernel), List.mem_of_getElem? (i := 442) (by decide +kernel), List.mem_of_getElem? (i := 443) (by decide +kernel)⟩
theorem lw_p20 : lw_okq (⟨"DeckBalance$Mix", "takeTried", "()V"⟩, 6) := ⟨⟨by decide +kernel, by decide +kernel⟩, List.mem_of_getElem? (i := 119) (by decide +kernel), List.mem_of_getElem? (i := 446) (by decide +kernel), List.mem_of_getElem? (i := 447) (by decide +kernel)⟩
theorem lw_p21 : lw_okq (⟨"DeckBalance", "sumOf", "([I)I"⟩, 12) := ⟨⟨by decide +kernel, by decide +kernel⟩, List.mem_of_getElem? (i := 14) (by decide +kernel), List.mem_of_getElem? (i := 461) (by decide +kernel), List.mem_of_getElem? (i := 462) (by decide +kernel)⟩
theorem lw_p22 : lw_okq (⟨"DeckBalance", "learnTablesWithout", "(II)V"⟩, 12) := ⟨⟨by decide +kernel, by decide +kernel⟩, List.mem_of_getElem? (i := 14) (by decide +kernel), List.mem_of_getElem? (i := 473) (by decide +kernel), List.mem_of_getElem? (i := 474) (by decide +kernel)⟩
theorem lw_p23 : lw_okq (⟨"DeckBalance", "isMixWithin", "(IIII)Z"⟩, 12) := ⟨⟨by decide +kernel, by decide +kernel⟩, List.mem_of_getElem? (i := 14) (by decide +kernel), List.mem_of_getElem? (i := 485) (by decide +kernel), List.mem_of_getElem? (i := 486) (by decide +kernel)⟩
theorem lw_p24 : lw_okq (⟨"DeckBalance", "learnTrialTables", "(I)V"⟩, 12) := ⟨⟨by decide +kernel, by decide +kernel⟩, List.mem_of_getElem? (i := 14) (by decide +kernel), List.mem_of_getElem? (i := 489) (by decide +kernel), List.mem_of_getElem? (i := 490) (by decide +kernel)⟩
theorem lw_p25 : lw_okq (⟨"DeckBalance", "hasCard", "(II)Z"⟩, 12) := ⟨⟨by decide +kernel, by decide +kernel⟩, List.mem_of_getElem? (i := 14) (by decide +kernel), List.mem_of_getElem? (i := 493) (by decide +kernel), List.mem_of_getElem? (i := 494) (by decide +kernel)⟩
theorem lw_p26 : lw_okq (⟨"DeckBalance", "trialPlan", "(II)LDeckBalance$Plan;"⟩, 12) := ⟨⟨by decide +kernel, by decide +kernel⟩, List.mem_of_getElem? (i := 14) (by decide +kernel), List.mem_of_getElem? (i := 497) (by decide +kernel), List.mem_of_getElem? (i := 498) (by decide +kernel)⟩
theorem lw_p27 : lw_okq (⟨"DeckBalance", "cardsInDecks", "()I"⟩, 12) := ⟨⟨by decide +kernel, by decide +kernel⟩, List.mem_of_getElem? (i := 14) (by decide +kernel), List.mem_of_getElem? (i := 513) (by decide +kernel), List.mem_of_getElem? (i := 514) (by decide +kernel)⟩
theorem lw_p28 : lw_okq (⟨"DeckBalanceModel", "isCard", "(I)Z"⟩, 26) := ⟨⟨by decide +kernel, by decide +kernel⟩, List.mem_of_getElem? (i := 517) (by decide +kernel), List.mem_of_getElem? (i := 614) (by decide +kernel), List.mem_of_getElem? (i := 615) (by decide +kernel)⟩
theorem lw_p29 : lw_okq (⟨"DeckBalanceModel", "isDeck", "(I)Z"⟩, 26) := ⟨⟨by decide +kernel, by decide +kernel⟩, List.mem_of_getElem? (i := 517) (by decide +kernel), List.mem_of_getElem? (i := 626) (by decide +kernel), List.mem_of_getElem? (i := 627) (by decide +kernel)⟩
theorem lw_p30 : lw_okq (⟨"DeckBalanceModel", "isPlace", "(II)Z"⟩, 26) := ⟨⟨by decide +kernel, by decide +kernel⟩, List.mem_of_getElem? (i := 517) (by decide +kernel), List.mem_of_getElem? (i := 634) (by decide +kernel), List.mem_of_getElem? (i := 635) (by decide +kernel)⟩
theorem lw_p31 : lw_okq (⟨"DeckBalanceModel", "dropAt", "(II)V"⟩, 26) := ⟨⟨by decide +kernel, by decide +kernel⟩, List.mem_of_getElem? (i := 517) (by decide +kernel), List.mem_of_getElem? (i := 638) (by decide +kernel), List.mem_of_getElem? (i := 639) (by decide +kernel)⟩
def lw_privs_2 : List (MethodName × Nat) := [(⟨"DeckBalance$Mix", "tryCorner", "(II)Z"⟩, 6), (⟨"DeckBalance$Mix", "turnSigns", "()V"⟩, 6), (⟨"DeckBalance$Mix", "isHolding", "([[I)Z"⟩, 6), (⟨"DeckBalance$Mix", "isGreater", "()Z"⟩, 6), (⟨"DeckBalance$Mix", "takeTried", "()V"⟩, 6), (⟨"DeckBalance", "sumOf", "([I)I"⟩, 12), (⟨"DeckBalance", "learnTablesWithout", "(II)V"⟩, 12), (⟨"DeckBalance", "isMixWithin", "(IIII)Z"⟩, 12), (⟨"DeckBalance", "learnTrialTables", "(I)V"⟩, 12), (⟨"DeckBalance", "hasCard", "(II)Z"⟩, 12), (⟨"DeckBalance", "trialPlan", "(II)LDeckBalance$Plan;"⟩, 12), (⟨"DeckBalance", "cardsInDecks", "()I"⟩, 12), (⟨"DeckBalanceModel", "isCard", "(I)Z"⟩, 26), (⟨"DeckBalanceModel", "isDeck", "(I)Z"⟩, 26), (⟨"DeckBalanceModel", "isPlace", "(II)Z"⟩, 26), (⟨"DeckBalanceModel", "dropAt", "(II)V"⟩, 26)]
theorem lw_r2 : ∀ q ∈ lw_privs_2, lw_okq q := List.forall_mem_cons.mpr ⟨lw_p16, List.forall_mem_cons.mpr ⟨lw_p17, List.forall_mem_cons.mpr ⟨lw_p18, List.forall_mem_cons.mpr ⟨lw_p19, List.forall_mem_cons.mpr ⟨lw_p20, List.forall_mem_cons.mpr ⟨lw_p21, List.forall_mem_cons.mpr ⟨lw_p22, List.forall_mem_cons.mpr ⟨lw_p23, List.forall_mem_cons.mpr ⟨lw_p24, List.forall_mem_cons.mpr ⟨lw_p25, List.forall_mem_cons.mpr ⟨lw_p26, List.forall_mem_cons.mpr ⟨lw_p27, List.forall_mem_cons.mpr ⟨lw_p28, List.forall_mem_cons.mpr ⟨lw_p29, List.forall_mem_cons.mpr ⟨lw_p30, List.forall_mem_cons.mpr ⟨lw_p31, fun _ h => absurd h List.not_mem_nil⟩⟩⟩⟩⟩⟩⟩⟩⟩⟩⟩⟩⟩⟩⟩⟩
theorem lw_p32 : lw_okq (⟨"DeckBalanceModel", "result", "(II)I"⟩, 26) := ⟨⟨by decide +kernel, by decide +kernel⟩, List.mem_of_getElem? (i := 517) (by decide +kernel), List.mem_of_getElem? (i := 658) (by decide +kernel), List.mem_of_getElem? (i := 659) (by decide +kernel)⟩
theorem lw_p33 : lw_okq (⟨"DeckBalanceModel", "game", "(II)V"⟩, 26) := ⟨⟨by decide +kernel, by decide +kernel⟩, List.mem_of_getElem? (i := 517) (by decide +kernel), List.mem_of_getElem? (i := 662) (by decide +kernel), List.mem_of_getElem? (i := 663) (by decide +kernel)⟩
theorem lw_p34 : lw_okq (⟨"DeckBalanceModel", "isOver", "()Z"⟩, 26) := ⟨⟨by decide +kernel, by decide +kernel⟩, List.mem_of_getElem? (i := 517) (by decide +kernel), List.mem_of_getElem? (i := 666) (by decide +kernel), List.mem_of_getElem? (i := 667) (by decide +kernel)⟩
theorem lw_p35 : lw_okq (⟨"DeckBalanceModel", "move", "(I)V"⟩, 26) := ⟨⟨by decide +kernel, by decide +kernel⟩, List.mem_of_getElem? (i := 517) (by decide +kernel), List.mem_of_getElem? (i := 670) (by decide +kernel), List.mem_of_getElem? (i := 671) (by decide +kernel)⟩
theorem lw_p36 : lw_okq (⟨"DeckBalanceModel", "nextCard", "(II)I"⟩, 26) := ⟨⟨by decide +kernel, by decide +kernel⟩, List.mem_of_getElem? (i := 517) (by decide +kernel), List.mem_of_getElem? (i := 674) (by decide +kernel), List.mem_of_getElem? (i := 675) (by decide +kernel)⟩
theorem lw_p37 : lw_okq (⟨"DeckBalanceModel", "playCard", "(II)V"⟩, 26) := ⟨⟨by decide +kernel, by decide +kernel⟩, List.mem_of_getElem? (i := 517) (by decide +kernel), List.mem_of_getElem? (i := 678) (by decide +kernel), List.mem_of_getElem? (i := 679) (by decide +kernel)⟩
theorem lw_p38 : lw_okq (⟨"DeckBalanceModel", "tableOf", "(II)I"⟩, 26) := ⟨⟨by decide +kernel, by decide +kernel⟩, List.mem_of_getElem? (i := 517) (by decide +kernel), List.mem_of_getElem? (i := 691) (by decide +kernel), List.mem_of_getElem? (i := 692) (by decide +kernel)⟩
theorem lw_p39 : lw_okq (⟨"DeckBalanceModel", "findRings", "(I)I"⟩, 26) := ⟨⟨by decide +kernel, by decide +kernel⟩, List.mem_of_getElem? (i := 517) (by decide +kernel), List.mem_of_getElem? (i := 699) (by decide +kernel), List.mem_of_getElem? (i := 700) (by decide +kernel)⟩
theorem lw_p40 : lw_okq (⟨"DeckBalanceModel", "layTables", "()V"⟩, 26) := ⟨⟨by decide +kernel, by decide +kernel⟩, List.mem_of_getElem? (i := 517) (by decide +kernel), List.mem_of_getElem? (i := 703) (by decide +kernel), List.mem_of_getElem? (i := 704) (by decide +kernel)⟩
theorem lw_p41 : lw_okq (⟨"DeckBalanceModel", "beats", "(II)Z"⟩, 26) := ⟨⟨by decide +kernel, by decide +kernel⟩, List.mem_of_getElem? (i := 517) (by decide +kernel), List.mem_of_getElem? (i := 707) (by decide +kernel), List.mem_of_getElem? (i := 708) (by decide +kernel)⟩
theorem lw_p42 : lw_okq (⟨"DeckBalanceModel", "findMix", "()V"⟩, 26) := ⟨⟨by decide +kernel, by decide +kernel⟩, List.mem_of_getElem? (i := 517) (by decide +kernel), List.mem_of_getElem? (i := 720) (by decide +kernel), List.mem_of_getElem? (i := 721) (by decide +kernel)⟩
theorem lw_p43 : lw_okq (⟨"DeckBalanceModel", "layBounds", "(I)V"⟩, 26) := ⟨⟨by decide +kernel, by decide +kernel⟩, List.mem_of_getElem? (i := 517) (by decide +kernel), List.mem_of_getElem? (i := 728) (by decide +kernel), List.mem_of_getElem? (i := 729) (by decide +kernel)⟩
theorem lw_p44 : lw_okq (⟨"DeckBalanceModel", "solve", "()Z"⟩, 26) := ⟨⟨by decide +kernel, by decide +kernel⟩, List.mem_of_getElem? (i := 517) (by decide +kernel), List.mem_of_getElem? (i := 732) (by decide +kernel), List.mem_of_getElem? (i := 733) (by decide +kernel)⟩
theorem lw_p45 : lw_okq (⟨"DeckBalanceModel", "changeRows", "(II)V"⟩, 26) := ⟨⟨by decide +kernel, by decide +kernel⟩, List.mem_of_getElem? (i := 517) (by decide +kernel), List.mem_of_getElem? (i := 736) (by decide +kernel), List.mem_of_getElem? (i := 737) (by decide +kernel)⟩
theorem lw_p46 : lw_okq (⟨"DeckBalanceModel", "clearRow", "(III)V"⟩, 26) := ⟨⟨by decide +kernel, by decide +kernel⟩, List.mem_of_getElem? (i := 517) (by decide +kernel), List.mem_of_getElem? (i := 740) (by decide +kernel), List.mem_of_getElem? (i := 741) (by decide +kernel)⟩
theorem lw_p47 : lw_okq (⟨"DeckBalanceModel", "holds", "()Z"⟩, 26) := ⟨⟨by decide +kernel, by decide +kernel⟩, List.mem_of_getElem? (i := 517) (by decide +kernel), List.mem_of_getElem? (i := 747) (by decide +kernel), List.mem_of_getElem? (i := 748) (by decide +kernel)⟩
def lw_privs_3 : List (MethodName × Nat) := [(⟨"DeckBalanceModel", "result", "(II)I"⟩, 26), (⟨"DeckBalanceModel", "game", "(II)V"⟩, 26), (⟨"DeckBalanceModel", "isOver", "()Z"⟩, 26), (⟨"DeckBalanceModel", "move", "(I)V"⟩, 26), (⟨"DeckBalanceModel", "nextCard", "(II)I"⟩, 26), (⟨"DeckBalanceModel", "playCard", "(II)V"⟩, 26), (⟨"DeckBalanceModel", "tableOf", "(II)I"⟩, 26), (⟨"DeckBalanceModel", "findRings", "(I)I"⟩, 26), (⟨"DeckBalanceModel", "layTables", "()V"⟩, 26), (⟨"DeckBalanceModel", "beats", "(II)Z"⟩, 26), (⟨"DeckBalanceModel", "findMix", "()V"⟩, 26), (⟨"DeckBalanceModel", "layBounds", "(I)V"⟩, 26), (⟨"DeckBalanceModel", "solve", "()Z"⟩, 26), (⟨"DeckBalanceModel", "changeRows", "(II)V"⟩, 26), (⟨"DeckBalanceModel", "clearRow", "(III)V"⟩, 26), (⟨"DeckBalanceModel", "holds", "()Z"⟩, 26)]
theorem lw_r3 : ∀ q ∈ lw_privs_3, lw_okq q := List.forall_mem_cons.mpr ⟨lw_p32, List.forall_mem_cons.mpr ⟨lw_p33, List.forall_mem_cons.mpr ⟨lw_p34, List.forall_mem_cons.mpr ⟨lw_p35, List.forall_mem_cons.mpr ⟨lw_p36, List.forall_mem_cons.mpr ⟨lw_p37, List.forall_mem_cons.mpr ⟨lw_p38, List.forall_mem_cons.mpr ⟨lw_p39, List.forall_mem_cons.mpr ⟨lw_p40, List.forall_mem_cons.mpr ⟨lw_p41, List.forall_mem_cons.mpr ⟨lw_p42, List.forall_mem_cons.mpr ⟨lw_p43, List.forall_mem_cons.mpr ⟨lw_p44, List.forall_mem_cons.mpr ⟨lw_p45, List.forall_mem_cons.mpr ⟨lw_p46, List.forall_mem_cons.mpr ⟨lw_p47, fun _ h => absurd h List.not_mem_nil⟩⟩⟩⟩⟩⟩⟩⟩⟩⟩⟩⟩⟩⟩⟩⟩
theorem lw_p48 : lw_okq (⟨"DeckBalanceModel", "isGreater", "()Z"⟩, 26) := ⟨⟨by decide +kernel, by decide +kernel⟩, List.mem_of_getElem? (i := 517) (by decide +kernel), List.mem_of_getElem? (i := 751) (by decide +kernel), List.mem_of_getElem? (i := 752) (by decide +kernel)⟩
theorem lw_p49 : lw_okq (⟨"DeckBalanceModel", "standingOf", "(I)I"⟩, 26) := ⟨⟨by decide +kernel, by decide +kernel⟩, List.mem_of_getElem? (i := 517) (by decide +kernel), List.mem_of_getElem? (i := 763) (by decide +kernel), List.mem_of_getElem? (i := 764) (by decide +kernel)⟩
theorem lw_p50 : lw_okq (⟨"DeckBalanceModel", "placeOf", "(II)I"⟩, 26) := ⟨⟨by decide +kernel, by decide +kernel⟩, List.mem_of_getElem? (i := 517) (by decide +kernel), List.mem_of_getElem? (i := 771) (by decide +kernel), List.mem_of_getElem? (i := 772) (by decide +kernel)⟩
theorem lw_p51 : lw_okq (⟨"DeckBalanceModel", "putBack", "(III)V"⟩, 26) := ⟨⟨by decide +kernel, by decide +kernel⟩, List.mem_of_getElem? (i := 517) (by decide +kernel), List.mem_of_getElem? (i := 775) (by decide +kernel), List.mem_of_getElem? (i := 776) (by decide +kernel)⟩
theorem lw_p52 : lw_okq (⟨"DeckBalanceModel", "isRemedied", "(II)Z"⟩, 26) := ⟨⟨by decide +kernel, by decide +kernel⟩, List.mem_of_getElem? (i := 517) (by decide +kernel), List.mem_of_getElem? (i := 787) (by decide +kernel), List.mem_of_getElem? (i := 788) (by decide +kernel)⟩
def lw_privs_4 : List (MethodName × Nat) := [(⟨"DeckBalanceModel", "isGreater", "()Z"⟩, 26), (⟨"DeckBalanceModel", "standingOf", "(I)I"⟩, 26), (⟨"DeckBalanceModel", "placeOf", "(II)I"⟩, 26), (⟨"DeckBalanceModel", "putBack", "(III)V"⟩, 26), (⟨"DeckBalanceModel", "isRemedied", "(II)Z"⟩, 26)]
theorem lw_r4 : ∀ q ∈ lw_privs_4, lw_okq q := List.forall_mem_cons.mpr ⟨lw_p48, List.forall_mem_cons.mpr ⟨lw_p49, List.forall_mem_cons.mpr ⟨lw_p50, List.forall_mem_cons.mpr ⟨lw_p51, List.forall_mem_cons.mpr ⟨lw_p52, fun _ h => absurd h List.not_mem_nil⟩⟩⟩⟩⟩
def lw_privs : List (MethodName × Nat) := lw_privs_1 ++ (lw_privs_2 ++ (lw_privs_3 ++ (lw_privs_4)))
def lw_tbl : List Cond := k2_sels lw_privs ++ tables_1
theorem lw_privs_ok : ∀ q ∈ lw_privs, lw_okq q := by
  show ∀ q ∈ lw_privs_1 ++ (lw_privs_2 ++ (lw_privs_3 ++ (lw_privs_4))), lw_okq q
  exact List.forall_mem_append.mpr ⟨lw_r1, List.forall_mem_append.mpr ⟨lw_r2, List.forall_mem_append.mpr ⟨lw_r3, lw_r4⟩⟩⟩
-- ===== end of PART A; then your names; then what follows =====
end
section
/-! ===== BEGIN printed: names, fields, word lists, decode rows ===== -/
def RX0 : String := "DeckBalance$CardBook"
def TX0 : u_T := fun k => match k with
  | 0 => ("DeckBalance$CardBook", "sorts", "[I", true)
  | 1 => ("DeckBalance$CardBook", "costs", "[I", true)
  | 2 => ("DeckBalance$CardBook", "powers", "[I", true)
  | _ => ("DeckBalance$CardBook", "size", "I", false)
def tyX0 : Nat → FieldType := fun k => match k with
  | 0 => .array .int
  | 1 => .array .int
  | 2 => .array .int
  | _ => .int
abbrev wsX00 : List Cond := u_ws RX0 TX0 4
theorem nmX0 : ∀ a, a < 4 → ∀ b, b < 4 → a ≠ b → (TX0 a).2.1 ≠ (TX0 b).2.1 := by decide +kernel
theorem tyX0_ok : ∀ k, k < 4 → parseFieldDescriptor (TX0 k).2.2.1 = some (tyX0 k) := by decide +kernel
abbrev cX0_init : ByteArray := prog_2_method_1_code
def yX0_init : MethodName := ⟨RX0, "<init>", "()V"⟩
abbrev cX0_enter : ByteArray := prog_2_method_2_code
def yX0_enter : MethodName := ⟨RX0, "enter", "(III)I"⟩
abbrev cX0_isPlayedAhead : ByteArray := prog_2_method_3_code
def yX0_isPlayedAhead : MethodName := ⟨RX0, "isPlayedAhead", "(II)Z"⟩
def RX1 : String := "DeckBalance$Contest"
def TX1 : u_T := fun k => match k with
  | 0 => ("DeckBalance$Contest", "plans", "[LDeckBalance$Plan;", true)
  | 1 => ("DeckBalance$Contest", "tables", "[[I", true)
  | _ => ("DeckBalance$Contest", "mix", "LDeckBalance$Mix;", true)
def tyX1 : Nat → FieldType := fun k => match k with
  | 0 => .array (.object "DeckBalance$Plan")
  | 1 => .array (.array .int)
  | _ => .object "DeckBalance$Mix"
abbrev wsX10 : List Cond := u_ws RX1 TX1 3
theorem nmX1 : ∀ a, a < 3 → ∀ b, b < 3 → a ≠ b → (TX1 a).2.1 ≠ (TX1 b).2.1 := by decide +kernel
theorem tyX1_ok : ∀ k, k < 3 → parseFieldDescriptor (TX1 k).2.2.1 = some (tyX1 k) := by decide +kernel
abbrev cX1_init : ByteArray := prog_3_method_1_code
def yX1_init : MethodName := ⟨RX1, "<init>", "()V"⟩
abbrev cX1_enter : ByteArray := prog_3_method_2_code
def yX1_enter : MethodName := ⟨RX1, "enter", "(III)V"⟩
abbrev cX1_hasTablesOf : ByteArray := prog_3_method_3_code
def yX1_hasTablesOf : MethodName := ⟨RX1, "hasTablesOf", "(LDeckBalance$Contest;I)Z"⟩
def RX2 : String := "DeckBalance$Deck"
def TX2 : u_T := fun k => match k with
  | 0 => ("DeckBalance$Deck", "cards", "[I", true)
  | _ => ("DeckBalance$Deck", "size", "I", false)
def tyX2 : Nat → FieldType := fun k => match k with
  | 0 => .array .int
  | _ => .int
abbrev wsX20 : List Cond := u_ws RX2 TX2 2
theorem nmX2 : ∀ a, a < 2 → ∀ b, b < 2 → a ≠ b → (TX2 a).2.1 ≠ (TX2 b).2.1 := by decide +kernel
theorem tyX2_ok : ∀ k, k < 2 → parseFieldDescriptor (TX2 k).2.2.1 = some (tyX2 k) := by decide +kernel
abbrev cX2_init : ByteArray := prog_4_method_1_code
def yX2_init : MethodName := ⟨RX2, "<init>", "()V"⟩
abbrev cX2_append : ByteArray := prog_4_method_2_code
def yX2_append : MethodName := ⟨RX2, "append", "(I)I"⟩
abbrev cX2_takeOut : ByteArray := prog_4_method_3_code
def yX2_takeOut : MethodName := ⟨RX2, "takeOut", "(I)I"⟩
abbrev cX2_exchange : ByteArray := prog_4_method_4_code
def yX2_exchange : MethodName := ⟨RX2, "exchange", "(II)V"⟩
abbrev cX2_firstPlaceOf : ByteArray := prog_4_method_5_code
def yX2_firstPlaceOf : MethodName := ⟨RX2, "firstPlaceOf", "(I)I"⟩
def RX3 : String := "DeckBalance$Game"
def TX3 : u_T := fun k => match k with
  | 0 => ("DeckBalance$Game", "first", "LDeckBalance$Side;", true)
  | 1 => ("DeckBalance$Game", "second", "LDeckBalance$Side;", true)
  | 2 => ("DeckBalance$Game", "turn", "I", false)
  | _ => ("DeckBalance$Game", "book", "LDeckBalance$CardBook;", true)
def tyX3 : Nat → FieldType := fun k => match k with
  | 0 => .object "DeckBalance$Side"
  | 1 => .object "DeckBalance$Side"
  | 2 => .int
  | _ => .object "DeckBalance$CardBook"
abbrev wsX30 : List Cond := u_ws RX3 TX3 4
theorem nmX3 : ∀ a, a < 4 → ∀ b, b < 4 → a ≠ b → (TX3 a).2.1 ≠ (TX3 b).2.1 := by decide +kernel
theorem tyX3_ok : ∀ k, k < 4 → parseFieldDescriptor (TX3 k).2.2.1 = some (tyX3 k) := by decide +kernel
abbrev cX3_init : ByteArray := prog_5_method_1_code
def yX3_init : MethodName := ⟨RX3, "<init>", "(LDeckBalance$CardBook;)V"⟩
abbrev cX3_resultOf : ByteArray := prog_5_method_2_code
def yX3_resultOf : MethodName := ⟨RX3, "resultOf", "(LDeckBalance$Plan;LDeckBalance$Plan;I)I"⟩
def RX4 : String := "DeckBalance$Mix"
def TX4 : u_T := fun k => match k with
  | 0 => ("DeckBalance$Mix", "parts", "[I", true)
  | 1 => ("DeckBalance$Mix", "whole", "I", false)
  | 2 => ("DeckBalance$Mix", "tried", "[I", true)
  | 3 => ("DeckBalance$Mix", "triedWhole", "I", false)
  | 4 => ("DeckBalance$Mix", "minors", "[I", true)
  | _ => ("DeckBalance$Mix", "size", "I", false)
def tyX4 : Nat → FieldType := fun k => match k with
  | 0 => .array .int
  | 1 => .int
  | 2 => .array .int
  | 3 => .int
  | 4 => .array .int
  | _ => .int
abbrev wsX40 : List Cond := u_ws RX4 TX4 6
theorem nmX4 : ∀ a, a < 6 → ∀ b, b < 6 → a ≠ b → (TX4 a).2.1 ≠ (TX4 b).2.1 := by decide +kernel
theorem tyX4_ok : ∀ k, k < 6 → parseFieldDescriptor (TX4 k).2.2.1 = some (tyX4 k) := by decide +kernel
abbrev cX4_init : ByteArray := prog_6_method_1_code
def yX4_init : MethodName := ⟨RX4, "<init>", "()V"⟩
abbrev cX4_find : ByteArray := prog_6_method_2_code
def yX4_find : MethodName := ⟨RX4, "find", "([[II)V"⟩
abbrev cX4_isWithin : ByteArray := prog_6_method_3_code
def yX4_isWithin : MethodName := ⟨RX4, "isWithin", "(II)Z"⟩
abbrev cX4_findMinors : ByteArray := prog_6_method_4_code
def yX4_findMinors : MethodName := ⟨RX4, "findMinors", "([[I)V"⟩
abbrev cX4_minorOf : ByteArray := prog_6_method_5_code
def yX4_minorOf : MethodName := ⟨RX4, "minorOf", "([[III)I"⟩
abbrev cX4_leastOf : ByteArray := prog_6_method_6_code
def yX4_leastOf : MethodName := ⟨RX4, "leastOf", "(I)I"⟩
abbrev cX4_isIn : ByteArray := prog_6_method_7_code
def yX4_isIn : MethodName := ⟨RX4, "isIn", "(II)Z"⟩
abbrev cX4_tryCorner : ByteArray := prog_6_method_8_code
def yX4_tryCorner : MethodName := ⟨RX4, "tryCorner", "(II)Z"⟩
abbrev cX4_turnSigns : ByteArray := prog_6_method_9_code
def yX4_turnSigns : MethodName := ⟨RX4, "turnSigns", "()V"⟩
abbrev cX4_isHolding : ByteArray := prog_6_method_10_code
def yX4_isHolding : MethodName := ⟨RX4, "isHolding", "([[I)Z"⟩
abbrev cX4_isGreater : ByteArray := prog_6_method_11_code
def yX4_isGreater : MethodName := ⟨RX4, "isGreater", "()Z"⟩
abbrev cX4_takeTried : ByteArray := prog_6_method_12_code
def yX4_takeTried : MethodName := ⟨RX4, "takeTried", "()V"⟩
def RX5 : String := "DeckBalance$Plan"
def TX5 : u_T := fun k => match k with
  | 0 => ("DeckBalance$Plan", "order", "[I", true)
  | 1 => ("DeckBalance$Plan", "ends", "[I", true)
  | 2 => ("DeckBalance$Plan", "hand", "[I", true)
  | 3 => ("DeckBalance$Plan", "handSize", "I", false)
  | 4 => ("DeckBalance$Plan", "drawn", "I", false)
  | _ => ("DeckBalance$Plan", "played", "I", false)
def tyX5 : Nat → FieldType := fun k => match k with
  | 0 => .array .int
  | 1 => .array .int
  | 2 => .array .int
  | 3 => .int
  | 4 => .int
  | _ => .int
abbrev wsX50 : List Cond := u_ws RX5 TX5 6
theorem nmX5 : ∀ a, a < 6 → ∀ b, b < 6 → a ≠ b → (TX5 a).2.1 ≠ (TX5 b).2.1 := by decide +kernel
theorem tyX5_ok : ∀ k, k < 6 → parseFieldDescriptor (TX5 k).2.2.1 = some (tyX5 k) := by decide +kernel
abbrev cX5_init : ByteArray := prog_7_method_1_code
def yX5_init : MethodName := ⟨RX5, "<init>", "()V"⟩
abbrev cX5_lay : ByteArray := prog_7_method_2_code
def yX5_lay : MethodName := ⟨RX5, "lay", "(LDeckBalance$CardBook;LDeckBalance$Deck;I)V"⟩
abbrev cX5_draw : ByteArray := prog_7_method_3_code
def yX5_draw : MethodName := ⟨RX5, "draw", "(LDeckBalance$Deck;I)V"⟩
abbrev cX5_playHand : ByteArray := prog_7_method_4_code
def yX5_playHand : MethodName := ⟨RX5, "playHand", "(LDeckBalance$CardBook;I)V"⟩
abbrev cX5_nextPlace : ByteArray := prog_7_method_5_code
def yX5_nextPlace : MethodName := ⟨RX5, "nextPlace", "(LDeckBalance$CardBook;I)I"⟩
abbrev cX5_putDown : ByteArray := prog_7_method_6_code
def yX5_putDown : MethodName := ⟨RX5, "putDown", "(I)V"⟩
def RX6 : String := "DeckBalance$Rings"
def TX6 : u_T := fun k => match k with
  | 0 => ("DeckBalance$Rings", "decks", "[I", true)
  | _ => ("DeckBalance$Rings", "size", "I", false)
def tyX6 : Nat → FieldType := fun k => match k with
  | 0 => .array .int
  | _ => .int
abbrev wsX60 : List Cond := u_ws RX6 TX6 2
theorem nmX6 : ∀ a, a < 2 → ∀ b, b < 2 → a ≠ b → (TX6 a).2.1 ≠ (TX6 b).2.1 := by decide +kernel
theorem tyX6_ok : ∀ k, k < 2 → parseFieldDescriptor (TX6 k).2.2.1 = some (tyX6 k) := by decide +kernel
abbrev cX6_init : ByteArray := prog_8_method_1_code
def yX6_init : MethodName := ⟨RX6, "<init>", "()V"⟩
abbrev cX6_find : ByteArray := prog_8_method_2_code
def yX6_find : MethodName := ⟨RX6, "find", "([[II)V"⟩
abbrev cX6_findThird : ByteArray := prog_8_method_3_code
def yX6_findThird : MethodName := ⟨RX6, "findThird", "([[IIII)V"⟩
def RX7 : String := "DeckBalance$Side"
def TX7 : u_T := fun k => match k with
  | 0 => ("DeckBalance$Side", "life", "I", false)
  | 1 => ("DeckBalance$Side", "played", "I", false)
  | 2 => ("DeckBalance$Side", "attack", "I", false)
  | _ => ("DeckBalance$Side", "wall", "I", false)
def tyX7 : Nat → FieldType := fun k => match k with
  | 0 => .int
  | 1 => .int
  | 2 => .int
  | _ => .int
abbrev wsX70 : List Cond := u_ws RX7 TX7 4
theorem nmX7 : ∀ a, a < 4 → ∀ b, b < 4 → a ≠ b → (TX7 a).2.1 ≠ (TX7 b).2.1 := by decide +kernel
theorem tyX7_ok : ∀ k, k < 4 → parseFieldDescriptor (TX7 k).2.2.1 = some (tyX7 k) := by decide +kernel
abbrev cX7_init : ByteArray := prog_9_method_1_code
def yX7_init : MethodName := ⟨RX7, "<init>", "()V"⟩
abbrev cX7_begin : ByteArray := prog_9_method_2_code
def yX7_begin : MethodName := ⟨RX7, "begin", "(I)V"⟩
abbrev cX7_defeats : ByteArray := prog_9_method_3_code
def yX7_defeats : MethodName := ⟨RX7, "defeats", "(LDeckBalance$Side;LDeckBalance$Plan;LDeckBalance$CardBook;I)Z"⟩
abbrev cX7_put : ByteArray := prog_9_method_4_code
def yX7_put : MethodName := ⟨RX7, "put", "(LDeckBalance$Side;ILDeckBalance$CardBook;)V"⟩
def RX8 : String := "DeckBalance"
def TX8 : u_T := fun k => match k with
  | 0 => ("DeckBalance", "book", "LDeckBalance$CardBook;", true)
  | 1 => ("DeckBalance", "decks", "[LDeckBalance$Deck;", true)
  | 2 => ("DeckBalance", "game", "LDeckBalance$Game;", true)
  | 3 => ("DeckBalance", "now", "LDeckBalance$Contest;", true)
  | 4 => ("DeckBalance", "trial", "LDeckBalance$Contest;", true)
  | 5 => ("DeckBalance", "found", "LDeckBalance$Rings;", true)
  | 6 => ("DeckBalance", "lessened", "LDeckBalance$Plan;", true)
  | 7 => ("DeckBalance", "lessenedTables", "[I", true)
  | 8 => ("DeckBalance", "deckCount", "I", false)
  | 9 => ("DeckBalance", "startLife", "I", false)
  | 10 => ("DeckBalance", "tablesKnown", "Z", false)
  | _ => ("DeckBalance", "mixKnown", "Z", false)
def tyX8 : Nat → FieldType := fun k => match k with
  | 0 => .object "DeckBalance$CardBook"
  | 1 => .array (.object "DeckBalance$Deck")
  | 2 => .object "DeckBalance$Game"
  | 3 => .object "DeckBalance$Contest"
  | 4 => .object "DeckBalance$Contest"
  | 5 => .object "DeckBalance$Rings"
  | 6 => .object "DeckBalance$Plan"
  | 7 => .array .int
  | 8 => .int
  | 9 => .int
  | 10 => .boolean
  | _ => .boolean
abbrev wsX80 : List Cond := u_ws RX8 TX8 12
theorem nmX8 : ∀ a, a < 12 → ∀ b, b < 12 → a ≠ b → (TX8 a).2.1 ≠ (TX8 b).2.1 := by decide +kernel
theorem tyX8_ok : ∀ k, k < 12 → parseFieldDescriptor (TX8 k).2.2.1 = some (tyX8 k) := by decide +kernel
abbrev cX8_init : ByteArray := prog_1_method_1_code
def yX8_init : MethodName := ⟨RX8, "<init>", "()V"⟩
abbrev cX8_card : ByteArray := prog_1_method_2_code
def yX8_card : MethodName := ⟨RX8, "card", "(III)I"⟩
abbrev cX8_power : ByteArray := prog_1_method_3_code
def yX8_power : MethodName := ⟨RX8, "power", "(II)I"⟩
abbrev cX8_deck : ByteArray := prog_1_method_4_code
def yX8_deck : MethodName := ⟨RX8, "deck", "()I"⟩
abbrev cX8_add : ByteArray := prog_1_method_5_code
def yX8_add : MethodName := ⟨RX8, "add", "(II)I"⟩
abbrev cX8_drop : ByteArray := prog_1_method_6_code
def yX8_drop : MethodName := ⟨RX8, "drop", "(II)I"⟩
abbrev cX8_swap : ByteArray := prog_1_method_7_code
def yX8_swap : MethodName := ⟨RX8, "swap", "(III)I"⟩
abbrev cX8_at : ByteArray := prog_1_method_8_code
def yX8_at : MethodName := ⟨RX8, "at", "(II)I"⟩
abbrev cX8_life : ByteArray := prog_1_method_9_code
def yX8_life : MethodName := ⟨RX8, "life", "(I)I"⟩
abbrev cX8_play : ByteArray := prog_1_method_10_code
def yX8_play : MethodName := ⟨RX8, "play", "(II)I"⟩
abbrev cX8_told : ByteArray := prog_1_method_11_code
def yX8_told : MethodName := ⟨RX8, "told", "(III)I"⟩
abbrev cX8_table : ByteArray := prog_1_method_12_code
def yX8_table : MethodName := ⟨RX8, "table", "(II)I"⟩
abbrev cX8_rings : ByteArray := prog_1_method_13_code
def yX8_rings : MethodName := ⟨RX8, "rings", "()I"⟩
abbrev cX8_ring : ByteArray := prog_1_method_14_code
def yX8_ring : MethodName := ⟨RX8, "ring", "(II)I"⟩
abbrev cX8_share : ByteArray := prog_1_method_15_code
def yX8_share : MethodName := ⟨RX8, "share", "(II)J"⟩
abbrev cX8_live : ByteArray := prog_1_method_16_code
def yX8_live : MethodName := ⟨RX8, "live", "()I"⟩
abbrev cX8_standing : ByteArray := prog_1_method_17_code
def yX8_standing : MethodName := ⟨RX8, "standing", "(I)I"⟩
abbrev cX8_worth : ByteArray := prog_1_method_18_code
def yX8_worth : MethodName := ⟨RX8, "worth", "(II)I"⟩
abbrev cX8_idle : ByteArray := prog_1_method_19_code
def yX8_idle : MethodName := ⟨RX8, "idle", "(II)I"⟩
abbrev cX8_remedy : ByteArray := prog_1_method_20_code
def yX8_remedy : MethodName := ⟨RX8, "remedy", "(II)I"⟩
abbrev cX8_count : ByteArray := prog_1_method_21_code
def yX8_count : MethodName := ⟨RX8, "count", "(I)I"⟩
abbrev cX8_isOutside : ByteArray := prog_1_method_22_code
def yX8_isOutside : MethodName := ⟨RX8, "isOutside", "(III)Z"⟩
abbrev cX8_isNoCard : ByteArray := prog_1_method_23_code
def yX8_isNoCard : MethodName := ⟨RX8, "isNoCard", "(I)Z"⟩
abbrev cX8_isNoDeck : ByteArray := prog_1_method_24_code
def yX8_isNoDeck : MethodName := ⟨RX8, "isNoDeck", "(I)Z"⟩
abbrev cX8_isNoPlace : ByteArray := prog_1_method_25_code
def yX8_isNoPlace : MethodName := ⟨RX8, "isNoPlace", "(II)Z"⟩
abbrev cX8_cardsInDecks : ByteArray := prog_1_method_26_code
def yX8_cardsInDecks : MethodName := ⟨RX8, "cardsInDecks", "()I"⟩
abbrev cX8_sumOf : ByteArray := prog_1_method_27_code
def yX8_sumOf : MethodName := ⟨RX8, "sumOf", "([I)I"⟩
abbrev cX8_greatestDivisor : ByteArray := prog_1_method_28_code
def yX8_greatestDivisor : MethodName := ⟨RX8, "greatestDivisor", "(II)I"⟩
abbrev cX8_forgetTables : ByteArray := prog_1_method_29_code
def yX8_forgetTables : MethodName := ⟨RX8, "forgetTables", "()V"⟩
abbrev cX8_learnTables : ByteArray := prog_1_method_30_code
def yX8_learnTables : MethodName := ⟨RX8, "learnTables", "()V"⟩
abbrev cX8_learnMix : ByteArray := prog_1_method_31_code
def yX8_learnMix : MethodName := ⟨RX8, "learnMix", "()V"⟩
abbrev cX8_tableOf : ByteArray := prog_1_method_32_code
def yX8_tableOf : MethodName := ⟨RX8, "tableOf", "(LDeckBalance$Plan;LDeckBalance$Plan;)I"⟩
abbrev cX8_learnTablesWithout : ByteArray := prog_1_method_33_code
def yX8_learnTablesWithout : MethodName := ⟨RX8, "learnTablesWithout", "(II)V"⟩
abbrev cX8_isMixWithin : ByteArray := prog_1_method_34_code
def yX8_isMixWithin : MethodName := ⟨RX8, "isMixWithin", "(IIII)Z"⟩
abbrev cX8_learnTrialTables : ByteArray := prog_1_method_35_code
def yX8_learnTrialTables : MethodName := ⟨RX8, "learnTrialTables", "(I)V"⟩
abbrev cX8_trialPlan : ByteArray := prog_1_method_36_code
def yX8_trialPlan : MethodName := ⟨RX8, "trialPlan", "(II)LDeckBalance$Plan;"⟩
abbrev cX8_hasCard : ByteArray := prog_1_method_37_code
def yX8_hasCard : MethodName := ⟨RX8, "hasCard", "(II)Z"⟩
def RX9 : String := "DeckBalanceModel"
def TX9 : u_T := fun k => match k with
  | 0 => ("DeckBalanceModel", "cards", "I", false)
  | 1 => ("DeckBalanceModel", "sort", "[I", true)
  | 2 => ("DeckBalanceModel", "cost", "[I", true)
  | 3 => ("DeckBalanceModel", "power", "[I", true)
  | 4 => ("DeckBalanceModel", "decks", "I", false)
  | 5 => ("DeckBalanceModel", "many", "[I", true)
  | 6 => ("DeckBalanceModel", "deck", "[I", true)
  | 7 => ("DeckBalanceModel", "life", "I", false)
  | 8 => ("DeckBalanceModel", "plays", "[I", true)
  | 9 => ("DeckBalanceModel", "lives", "[I", true)
  | 10 => ("DeckBalanceModel", "drawn", "[I", true)
  | 11 => ("DeckBalanceModel", "fight", "[I", true)
  | 12 => ("DeckBalanceModel", "wall", "[I", true)
  | 13 => ("DeckBalanceModel", "played", "[I", true)
  | 14 => ("DeckBalanceModel", "hand", "[I", true)
  | 15 => ("DeckBalanceModel", "turn", "I", false)
  | 16 => ("DeckBalanceModel", "tables", "[I", true)
  | 17 => ("DeckBalanceModel", "ringA", "I", false)
  | 18 => ("DeckBalanceModel", "ringB", "I", false)
  | 19 => ("DeckBalanceModel", "ringC", "I", false)
  | 20 => ("DeckBalanceModel", "rows", "[J", true)
  | 21 => ("DeckBalanceModel", "up", "[J", true)
  | 22 => ("DeckBalanceModel", "below", "[J", true)
  | 23 => ("DeckBalanceModel", "bestUp", "[J", true)
  | 24 => ("DeckBalanceModel", "bestBelow", "[J", true)
  | _ => ("DeckBalanceModel", "before", "[I", true)
def tyX9 : Nat → FieldType := fun k => match k with
  | 0 => .int
  | 1 => .array .int
  | 2 => .array .int
  | 3 => .array .int
  | 4 => .int
  | 5 => .array .int
  | 6 => .array .int
  | 7 => .int
  | 8 => .array .int
  | 9 => .array .int
  | 10 => .array .int
  | 11 => .array .int
  | 12 => .array .int
  | 13 => .array .int
  | 14 => .array .int
  | 15 => .int
  | 16 => .array .int
  | 17 => .int
  | 18 => .int
  | 19 => .int
  | 20 => .array .long
  | 21 => .array .long
  | 22 => .array .long
  | 23 => .array .long
  | 24 => .array .long
  | _ => .array .int
abbrev wsX90 : List Cond := u_ws RX9 TX9 26
theorem nmX9 : ∀ a, a < 26 → ∀ b, b < 26 → a ≠ b → (TX9 a).2.1 ≠ (TX9 b).2.1 := by decide +kernel
theorem tyX9_ok : ∀ k, k < 26 → parseFieldDescriptor (TX9 k).2.2.1 = some (tyX9 k) := by decide +kernel
abbrev cX9_init : ByteArray := prog_11_method_1_code
def yX9_init : MethodName := ⟨RX9, "<init>", "()V"⟩
abbrev cX9_in : ByteArray := prog_11_method_2_code
def yX9_in : MethodName := ⟨RX9, "in", "(III)Z"⟩
abbrev cX9_isCard : ByteArray := prog_11_method_4_code
def yX9_isCard : MethodName := ⟨RX9, "isCard", "(I)Z"⟩
abbrev cX9_isDeck : ByteArray := prog_11_method_5_code
def yX9_isDeck : MethodName := ⟨RX9, "isDeck", "(I)Z"⟩
abbrev cX9_card : ByteArray := prog_11_method_6_code
def yX9_card : MethodName := ⟨RX9, "card", "(III)I"⟩
abbrev cX9_power : ByteArray := prog_11_method_7_code
def yX9_power : MethodName := ⟨RX9, "power", "(II)I"⟩
abbrev cX9_deck : ByteArray := prog_11_method_8_code
def yX9_deck : MethodName := ⟨RX9, "deck", "()I"⟩
abbrev cX9_add : ByteArray := prog_11_method_9_code
def yX9_add : MethodName := ⟨RX9, "add", "(II)I"⟩
abbrev cX9_isPlace : ByteArray := prog_11_method_10_code
def yX9_isPlace : MethodName := ⟨RX9, "isPlace", "(II)Z"⟩
abbrev cX9_dropAt : ByteArray := prog_11_method_11_code
def yX9_dropAt : MethodName := ⟨RX9, "dropAt", "(II)V"⟩
abbrev cX9_drop : ByteArray := prog_11_method_12_code
def yX9_drop : MethodName := ⟨RX9, "drop", "(II)I"⟩
abbrev cX9_swap : ByteArray := prog_11_method_13_code
def yX9_swap : MethodName := ⟨RX9, "swap", "(III)I"⟩
abbrev cX9_at : ByteArray := prog_11_method_14_code
def yX9_at : MethodName := ⟨RX9, "at", "(II)I"⟩
abbrev cX9_life : ByteArray := prog_11_method_15_code
def yX9_life : MethodName := ⟨RX9, "life", "(I)I"⟩
abbrev cX9_isOver : ByteArray := prog_11_method_16_code
def yX9_isOver : MethodName := ⟨RX9, "isOver", "()Z"⟩
abbrev cX9_nextCard : ByteArray := prog_11_method_17_code
def yX9_nextCard : MethodName := ⟨RX9, "nextCard", "(II)I"⟩
abbrev cX9_playCard : ByteArray := prog_11_method_18_code
def yX9_playCard : MethodName := ⟨RX9, "playCard", "(II)V"⟩
abbrev cX9_move : ByteArray := prog_11_method_19_code
def yX9_move : MethodName := ⟨RX9, "move", "(I)V"⟩
abbrev cX9_game : ByteArray := prog_11_method_20_code
def yX9_game : MethodName := ⟨RX9, "game", "(II)V"⟩
abbrev cX9_result : ByteArray := prog_11_method_21_code
def yX9_result : MethodName := ⟨RX9, "result", "(II)I"⟩
abbrev cX9_play : ByteArray := prog_11_method_22_code
def yX9_play : MethodName := ⟨RX9, "play", "(II)I"⟩
abbrev cX9_told : ByteArray := prog_11_method_23_code
def yX9_told : MethodName := ⟨RX9, "told", "(III)I"⟩
abbrev cX9_tableOf : ByteArray := prog_11_method_24_code
def yX9_tableOf : MethodName := ⟨RX9, "tableOf", "(II)I"⟩
abbrev cX9_table : ByteArray := prog_11_method_25_code
def yX9_table : MethodName := ⟨RX9, "table", "(II)I"⟩
abbrev cX9_layTables : ByteArray := prog_11_method_26_code
def yX9_layTables : MethodName := ⟨RX9, "layTables", "()V"⟩
abbrev cX9_beats : ByteArray := prog_11_method_27_code
def yX9_beats : MethodName := ⟨RX9, "beats", "(II)Z"⟩
abbrev cX9_findRings : ByteArray := prog_11_method_28_code
def yX9_findRings : MethodName := ⟨RX9, "findRings", "(I)I"⟩
abbrev cX9_rings : ByteArray := prog_11_method_29_code
def yX9_rings : MethodName := ⟨RX9, "rings", "()I"⟩
abbrev cX9_ring : ByteArray := prog_11_method_30_code
def yX9_ring : MethodName := ⟨RX9, "ring", "(II)I"⟩
abbrev cX9_divisor : ByteArray := prog_11_method_31_code
def yX9_divisor : MethodName := ⟨RX9, "divisor", "(JJ)J"⟩
abbrev cX9_layBounds : ByteArray := prog_11_method_32_code
def yX9_layBounds : MethodName := ⟨RX9, "layBounds", "(I)V"⟩
abbrev cX9_changeRows : ByteArray := prog_11_method_33_code
def yX9_changeRows : MethodName := ⟨RX9, "changeRows", "(II)V"⟩
abbrev cX9_clearRow : ByteArray := prog_11_method_34_code
def yX9_clearRow : MethodName := ⟨RX9, "clearRow", "(III)V"⟩
abbrev cX9_solve : ByteArray := prog_11_method_35_code
def yX9_solve : MethodName := ⟨RX9, "solve", "()Z"⟩
abbrev cX9_holds : ByteArray := prog_11_method_36_code
def yX9_holds : MethodName := ⟨RX9, "holds", "()Z"⟩
abbrev cX9_isGreater : ByteArray := prog_11_method_37_code
def yX9_isGreater : MethodName := ⟨RX9, "isGreater", "()Z"⟩
abbrev cX9_ones : ByteArray := prog_11_method_38_code
def yX9_ones : MethodName := ⟨RX9, "ones", "(I)I"⟩
abbrev cX9_findMix : ByteArray := prog_11_method_39_code
def yX9_findMix : MethodName := ⟨RX9, "findMix", "()V"⟩
abbrev cX9_share : ByteArray := prog_11_method_40_code
def yX9_share : MethodName := ⟨RX9, "share", "(II)J"⟩
abbrev cX9_live : ByteArray := prog_11_method_41_code
def yX9_live : MethodName := ⟨RX9, "live", "()I"⟩
abbrev cX9_standingOf : ByteArray := prog_11_method_42_code
def yX9_standingOf : MethodName := ⟨RX9, "standingOf", "(I)I"⟩
abbrev cX9_standing : ByteArray := prog_11_method_43_code
def yX9_standing : MethodName := ⟨RX9, "standing", "(I)I"⟩
abbrev cX9_placeOf : ByteArray := prog_11_method_44_code
def yX9_placeOf : MethodName := ⟨RX9, "placeOf", "(II)I"⟩
abbrev cX9_putBack : ByteArray := prog_11_method_45_code
def yX9_putBack : MethodName := ⟨RX9, "putBack", "(III)V"⟩
abbrev cX9_worth : ByteArray := prog_11_method_46_code
def yX9_worth : MethodName := ⟨RX9, "worth", "(II)I"⟩
abbrev cX9_idle : ByteArray := prog_11_method_47_code
def yX9_idle : MethodName := ⟨RX9, "idle", "(II)I"⟩
abbrev cX9_isRemedied : ByteArray := prog_11_method_48_code
def yX9_isRemedied : MethodName := ⟨RX9, "isRemedied", "(II)Z"⟩
abbrev cX9_remedy : ByteArray := prog_11_method_49_code
def yX9_remedy : MethodName := ⟨RX9, "remedy", "(II)I"⟩
abbrev cX9_count : ByteArray := prog_11_method_50_code
def yX9_count : MethodName := ⟨RX9, "count", "(I)I"⟩
def RJ6 : String := "java/lang/Integer"
def TJ6 : u_T := fun k => match k with
  | _ => ("", "", "", false)
def tyJ6 : Nat → FieldType := fun k => match k with
  | _ => .int
abbrev wsJ60 : List Cond := u_ws RJ6 TJ6 0
theorem nmJ6 : ∀ a, a < 0 → ∀ b, b < 0 → a ≠ b → (TJ6 a).2.1 ≠ (TJ6 b).2.1 := by decide +kernel
theorem tyJ6_ok : ∀ k, k < 0 → parseFieldDescriptor (TJ6 k).2.2.1 = some (tyJ6 k) := by decide +kernel
abbrev cJ6_compare_7cf53 : ByteArray := prog_12_method_40_code
def yJ6_compare_7cf53 : MethodName := ⟨RJ6, "compare", "(II)I"⟩
abbrev cJ6_bitCount_0f7a4 : ByteArray := prog_12_method_49_code
def yJ6_bitCount_0f7a4 : MethodName := ⟨RJ6, "bitCount", "(I)I"⟩
def RJ9 : String := "java/lang/Math"
def TJ9 : u_T := fun k => match k with
  | _ => ("", "", "", false)
def tyJ9 : Nat → FieldType := fun k => match k with
  | _ => .int
abbrev wsJ90 : List Cond := u_ws RJ9 TJ9 0
theorem nmJ9 : ∀ a, a < 0 → ∀ b, b < 0 → a ≠ b → (TJ9 a).2.1 ≠ (TJ9 b).2.1 := by decide +kernel
theorem tyJ9_ok : ∀ k, k < 0 → parseFieldDescriptor (TJ9 k).2.2.1 = some (tyJ9 k) := by decide +kernel
abbrev cJ9_max_7cf53 : ByteArray := prog_13_method_65_code
def yJ9_max_7cf53 : MethodName := ⟨RJ9, "max", "(II)I"⟩
abbrev cJ9_min_7cf53 : ByteArray := prog_13_method_69_code
def yJ9_min_7cf53 : MethodName := ⟨RJ9, "min", "(II)I"⟩
def RL : String := "DeckBalanceLaw"
abbrev cL_law : ByteArray := code
def yL_law : MethodName := ⟨RL, "law", "([I)Z"⟩
abbrev vwCl : List vw_C := [(RX0, TX0, 4), (RX1, TX1, 3), (RX2, TX2, 2), (RX3, TX3, 4), (RX4, TX4, 6), (RX5, TX5, 6), (RX6, TX6, 2), (RX7, TX7, 4), (RX8, TX8, 12), (RX9, TX9, 26)]
end
section
/-! the tables' good words, and where each that is used stands -/
def wsL : List Cond := lw_tbl.filter goodWord
theorem wsL_tbl : ∀ w ∈ wsL, w ∈ lw_tbl := fun _ h => (List.mem_filter.mp h).1
theorem wsL_good : ∀ w ∈ wsL, goodWord w = true := fun _ h => (List.mem_filter.mp h).2
theorem in_T {w : Cond} (i : Nat) (h : tables_1[i]? = some w) (g : goodWord w = true) : w ∈ wsL := List.mem_filter.mpr ⟨List.mem_append_right _ (List.mem_of_getElem? h), g⟩
theorem in_S {w : Cond} (i : Nat) (h : (k2_sels lw_privs)[i]? = some w) (g : goodWord w = true) : w ∈ wsL := List.mem_filter.mpr ⟨List.mem_append_left _ (List.mem_of_getElem? h), g⟩
theorem us0 : ∀ w ∈ u_ws RX0 TX0 4, w ∈ wsL := by
  intro w hw
  obtain ⟨k, hk, rfl⟩ := List.mem_map.mp hw
  have hk := List.mem_range.mp hk
  match k, hk with
  | 0, _ => exact in_T 36 (by decide +kernel) (by decide +kernel)
  | 1, _ => exact in_T 38 (by decide +kernel) (by decide +kernel)
  | 2, _ => exact in_T 40 (by decide +kernel) (by decide +kernel)
  | 3, _ => exact in_T 42 (by decide +kernel) (by decide +kernel)
  | k + 4, hk => exact absurd hk (by omega)
theorem us1 : ∀ w ∈ u_ws RX1 TX1 3, w ∈ wsL := by
  intro w hw
  obtain ⟨k, hk, rfl⟩ := List.mem_map.mp hw
  have hk := List.mem_range.mp hk
  match k, hk with
  | 0, _ => exact in_T 177 (by decide +kernel) (by decide +kernel)
  | 1, _ => exact in_T 179 (by decide +kernel) (by decide +kernel)
  | 2, _ => exact in_T 181 (by decide +kernel) (by decide +kernel)
  | k + 3, hk => exact absurd hk (by omega)
theorem us2 : ∀ w ∈ u_ws RX2 TX2 2, w ∈ wsL := by
  intro w hw
  obtain ⟨k, hk, rfl⟩ := List.mem_map.mp hw
  have hk := List.mem_range.mp hk
  match k, hk with
  | 0, _ => exact in_T 59 (by decide +kernel) (by decide +kernel)
  | 1, _ => exact in_T 61 (by decide +kernel) (by decide +kernel)
  | k + 2, hk => exact absurd hk (by omega)
theorem us3 : ∀ w ∈ u_ws RX3 TX3 4, w ∈ wsL := by
  intro w hw
  obtain ⟨k, hk, rfl⟩ := List.mem_map.mp hw
  have hk := List.mem_range.mp hk
  match k, hk with
  | 0, _ => exact in_T 99 (by decide +kernel) (by decide +kernel)
  | 1, _ => exact in_T 101 (by decide +kernel) (by decide +kernel)
  | 2, _ => exact in_T 103 (by decide +kernel) (by decide +kernel)
  | 3, _ => exact in_T 105 (by decide +kernel) (by decide +kernel)
  | k + 4, hk => exact absurd hk (by omega)
theorem us4 : ∀ w ∈ u_ws RX4 TX4 6, w ∈ wsL := by
  intro w hw
  obtain ⟨k, hk, rfl⟩ := List.mem_map.mp hw
  have hk := List.mem_range.mp hk
  match k, hk with
  | 0, _ => exact in_T 132 (by decide +kernel) (by decide +kernel)
  | 1, _ => exact in_T 134 (by decide +kernel) (by decide +kernel)
  | 2, _ => exact in_T 136 (by decide +kernel) (by decide +kernel)
  | 3, _ => exact in_T 138 (by decide +kernel) (by decide +kernel)
  | 4, _ => exact in_T 140 (by decide +kernel) (by decide +kernel)
  | 5, _ => exact in_T 142 (by decide +kernel) (by decide +kernel)
  | k + 6, hk => exact absurd hk (by omega)
theorem us5 : ∀ w ∈ u_ws RX5 TX5 6, w ∈ wsL := by
  intro w hw
  obtain ⟨k, hk, rfl⟩ := List.mem_map.mp hw
  have hk := List.mem_range.mp hk
  match k, hk with
  | 0, _ => exact in_T 158 (by decide +kernel) (by decide +kernel)
  | 1, _ => exact in_T 160 (by decide +kernel) (by decide +kernel)
  | 2, _ => exact in_T 162 (by decide +kernel) (by decide +kernel)
  | 3, _ => exact in_T 164 (by decide +kernel) (by decide +kernel)
  | 4, _ => exact in_T 166 (by decide +kernel) (by decide +kernel)
  | 5, _ => exact in_T 168 (by decide +kernel) (by decide +kernel)
  | k + 6, hk => exact absurd hk (by omega)
theorem us6 : ∀ w ∈ u_ws RX6 TX6 2, w ∈ wsL := by
  intro w hw
  obtain ⟨k, hk, rfl⟩ := List.mem_map.mp hw
  have hk := List.mem_range.mp hk
  match k, hk with
  | 0, _ => exact in_T 194 (by decide +kernel) (by decide +kernel)
  | 1, _ => exact in_T 196 (by decide +kernel) (by decide +kernel)
  | k + 2, hk => exact absurd hk (by omega)
theorem us7 : ∀ w ∈ u_ws RX7 TX7 4, w ∈ wsL := by
  intro w hw
  obtain ⟨k, hk, rfl⟩ := List.mem_map.mp hw
  have hk := List.mem_range.mp hk
  match k, hk with
  | 0, _ => exact in_T 83 (by decide +kernel) (by decide +kernel)
  | 1, _ => exact in_T 85 (by decide +kernel) (by decide +kernel)
  | 2, _ => exact in_T 87 (by decide +kernel) (by decide +kernel)
  | 3, _ => exact in_T 89 (by decide +kernel) (by decide +kernel)
  | k + 4, hk => exact absurd hk (by omega)
theorem us8 : ∀ w ∈ u_ws RX8 TX8 12, w ∈ wsL := by
  intro w hw
  obtain ⟨k, hk, rfl⟩ := List.mem_map.mp hw
  have hk := List.mem_range.mp hk
  match k, hk with
  | 0, _ => exact in_T 213 (by decide +kernel) (by decide +kernel)
  | 1, _ => exact in_T 215 (by decide +kernel) (by decide +kernel)
  | 2, _ => exact in_T 217 (by decide +kernel) (by decide +kernel)
  | 3, _ => exact in_T 219 (by decide +kernel) (by decide +kernel)
  | 4, _ => exact in_T 221 (by decide +kernel) (by decide +kernel)
  | 5, _ => exact in_T 223 (by decide +kernel) (by decide +kernel)
  | 6, _ => exact in_T 225 (by decide +kernel) (by decide +kernel)
  | 7, _ => exact in_T 227 (by decide +kernel) (by decide +kernel)
  | 8, _ => exact in_T 229 (by decide +kernel) (by decide +kernel)
  | 9, _ => exact in_T 231 (by decide +kernel) (by decide +kernel)
  | 10, _ => exact in_T 233 (by decide +kernel) (by decide +kernel)
  | 11, _ => exact in_T 235 (by decide +kernel) (by decide +kernel)
  | k + 12, hk => exact absurd hk (by omega)
theorem us9 : ∀ w ∈ u_ws RX9 TX9 26, w ∈ wsL := by
  intro w hw
  obtain ⟨k, hk, rfl⟩ := List.mem_map.mp hw
  have hk := List.mem_range.mp hk
  match k, hk with
  | 0, _ => exact in_T 548 (by decide +kernel) (by decide +kernel)
  | 1, _ => exact in_T 550 (by decide +kernel) (by decide +kernel)
  | 2, _ => exact in_T 552 (by decide +kernel) (by decide +kernel)
  | 3, _ => exact in_T 554 (by decide +kernel) (by decide +kernel)
  | 4, _ => exact in_T 556 (by decide +kernel) (by decide +kernel)
  | 5, _ => exact in_T 558 (by decide +kernel) (by decide +kernel)
  | 6, _ => exact in_T 560 (by decide +kernel) (by decide +kernel)
  | 7, _ => exact in_T 562 (by decide +kernel) (by decide +kernel)
  | 8, _ => exact in_T 564 (by decide +kernel) (by decide +kernel)
  | 9, _ => exact in_T 566 (by decide +kernel) (by decide +kernel)
  | 10, _ => exact in_T 568 (by decide +kernel) (by decide +kernel)
  | 11, _ => exact in_T 570 (by decide +kernel) (by decide +kernel)
  | 12, _ => exact in_T 572 (by decide +kernel) (by decide +kernel)
  | 13, _ => exact in_T 574 (by decide +kernel) (by decide +kernel)
  | 14, _ => exact in_T 576 (by decide +kernel) (by decide +kernel)
  | 15, _ => exact in_T 578 (by decide +kernel) (by decide +kernel)
  | 16, _ => exact in_T 580 (by decide +kernel) (by decide +kernel)
  | 17, _ => exact in_T 582 (by decide +kernel) (by decide +kernel)
  | 18, _ => exact in_T 584 (by decide +kernel) (by decide +kernel)
  | 19, _ => exact in_T 586 (by decide +kernel) (by decide +kernel)
  | 20, _ => exact in_T 588 (by decide +kernel) (by decide +kernel)
  | 21, _ => exact in_T 590 (by decide +kernel) (by decide +kernel)
  | 22, _ => exact in_T 592 (by decide +kernel) (by decide +kernel)
  | 23, _ => exact in_T 594 (by decide +kernel) (by decide +kernel)
  | 24, _ => exact in_T 596 (by decide +kernel) (by decide +kernel)
  | 25, _ => exact in_T 598 (by decide +kernel) (by decide +kernel)
  | k + 26, hk => exact absurd hk (by omega)
theorem fl_X0_9 : Cond.fieldLink RX0 9 (TX0 0).1 (TX0 0).2.1 (TX0 0).2.2.1 ∈ wsL := in_T 27 (by decide +kernel) (by decide +kernel)
theorem fl_X7_43 : Cond.fieldLink RX7 43 (TX0 0).1 (TX0 0).2.1 (TX0 0).2.2.1 ∈ wsL := in_T 28 (by decide +kernel) (by decide +kernel)
theorem fl_X0_15 : Cond.fieldLink RX0 15 (TX0 1).1 (TX0 1).2.1 (TX0 1).2.2.1 ∈ wsL := in_T 29 (by decide +kernel) (by decide +kernel)
theorem fl_X5_57 : Cond.fieldLink RX5 57 (TX0 1).1 (TX0 1).2.1 (TX0 1).2.2.1 ∈ wsL := in_T 30 (by decide +kernel) (by decide +kernel)
theorem fl_X0_18 : Cond.fieldLink RX0 18 (TX0 2).1 (TX0 2).2.1 (TX0 2).2.2.1 ∈ wsL := in_T 31 (by decide +kernel) (by decide +kernel)
theorem fl_X8_76 : Cond.fieldLink RX8 76 (TX0 2).1 (TX0 2).2.1 (TX0 2).2.2.1 ∈ wsL := in_T 32 (by decide +kernel) (by decide +kernel)
theorem fl_X7_48 : Cond.fieldLink RX7 48 (TX0 2).1 (TX0 2).2.1 (TX0 2).2.2.1 ∈ wsL := in_T 33 (by decide +kernel) (by decide +kernel)
theorem fl_X0_21 : Cond.fieldLink RX0 21 (TX0 3).1 (TX0 3).2.1 (TX0 3).2.2.1 ∈ wsL := in_T 34 (by decide +kernel) (by decide +kernel)
theorem fl_X8_176 : Cond.fieldLink RX8 176 (TX0 3).1 (TX0 3).2.1 (TX0 3).2.2.1 ∈ wsL := in_T 35 (by decide +kernel) (by decide +kernel)
theorem fl_X2_9 : Cond.fieldLink RX2 9 (TX2 0).1 (TX2 0).2.1 (TX2 0).2.2.1 ∈ wsL := in_T 53 (by decide +kernel) (by decide +kernel)
theorem fl_X5_50 : Cond.fieldLink RX5 50 (TX2 0).1 (TX2 0).2.1 (TX2 0).2.2.1 ∈ wsL := in_T 54 (by decide +kernel) (by decide +kernel)
theorem fl_X8_103 : Cond.fieldLink RX8 103 (TX2 0).1 (TX2 0).2.1 (TX2 0).2.2.1 ∈ wsL := in_T 55 (by decide +kernel) (by decide +kernel)
theorem fl_X2_15 : Cond.fieldLink RX2 15 (TX2 1).1 (TX2 1).2.1 (TX2 1).2.2.1 ∈ wsL := in_T 56 (by decide +kernel) (by decide +kernel)
theorem fl_X5_45 : Cond.fieldLink RX5 45 (TX2 1).1 (TX2 1).2.1 (TX2 1).2.2.1 ∈ wsL := in_T 57 (by decide +kernel) (by decide +kernel)
theorem fl_X8_185 : Cond.fieldLink RX8 185 (TX2 1).1 (TX2 1).2.1 (TX2 1).2.2.1 ∈ wsL := in_T 58 (by decide +kernel) (by decide +kernel)
theorem fl_X7_9 : Cond.fieldLink RX7 9 (TX7 0).1 (TX7 0).2.1 (TX7 0).2.2.1 ∈ wsL := in_T 76 (by decide +kernel) (by decide +kernel)
theorem fl_X3_37 : Cond.fieldLink RX3 37 (TX7 0).1 (TX7 0).2.1 (TX7 0).2.2.1 ∈ wsL := in_T 77 (by decide +kernel) (by decide +kernel)
theorem fl_X8_125 : Cond.fieldLink RX8 125 (TX7 0).1 (TX7 0).2.1 (TX7 0).2.2.1 ∈ wsL := in_T 78 (by decide +kernel) (by decide +kernel)
theorem fl_X7_15 : Cond.fieldLink RX7 15 (TX7 1).1 (TX7 1).2.1 (TX7 1).2.2.1 ∈ wsL := in_T 79 (by decide +kernel) (by decide +kernel)
theorem fl_X8_133 : Cond.fieldLink RX8 133 (TX7 1).1 (TX7 1).2.1 (TX7 1).2.2.1 ∈ wsL := in_T 80 (by decide +kernel) (by decide +kernel)
theorem fl_X7_18 : Cond.fieldLink RX7 18 (TX7 2).1 (TX7 2).2.1 (TX7 2).2.2.1 ∈ wsL := in_T 81 (by decide +kernel) (by decide +kernel)
theorem fl_X7_21 : Cond.fieldLink RX7 21 (TX7 3).1 (TX7 3).2.1 (TX7 3).2.2.1 ∈ wsL := in_T 82 (by decide +kernel) (by decide +kernel)
theorem fl_X3_12 : Cond.fieldLink RX3 12 (TX3 0).1 (TX3 0).2.1 (TX3 0).2.2.1 ∈ wsL := in_T 92 (by decide +kernel) (by decide +kernel)
theorem fl_X8_121 : Cond.fieldLink RX8 121 (TX3 0).1 (TX3 0).2.1 (TX3 0).2.2.1 ∈ wsL := in_T 93 (by decide +kernel) (by decide +kernel)
theorem fl_X3_18 : Cond.fieldLink RX3 18 (TX3 1).1 (TX3 1).2.1 (TX3 1).2.2.1 ∈ wsL := in_T 94 (by decide +kernel) (by decide +kernel)
theorem fl_X8_130 : Cond.fieldLink RX8 130 (TX3 1).1 (TX3 1).2.1 (TX3 1).2.2.1 ∈ wsL := in_T 95 (by decide +kernel) (by decide +kernel)
theorem fl_X3_29 : Cond.fieldLink RX3 29 (TX3 2).1 (TX3 2).2.1 (TX3 2).2.2.1 ∈ wsL := in_T 96 (by decide +kernel) (by decide +kernel)
theorem fl_X8_118 : Cond.fieldLink RX8 118 (TX3 2).1 (TX3 2).2.1 (TX3 2).2.2.1 ∈ wsL := in_T 97 (by decide +kernel) (by decide +kernel)
theorem fl_X3_21 : Cond.fieldLink RX3 21 (TX3 3).1 (TX3 3).2.1 (TX3 3).2.2.1 ∈ wsL := in_T 98 (by decide +kernel) (by decide +kernel)
theorem fl_X4_9 : Cond.fieldLink RX4 9 (TX4 0).1 (TX4 0).2.1 (TX4 0).2.2.1 ∈ wsL := in_T 124 (by decide +kernel) (by decide +kernel)
theorem fl_X8_154 : Cond.fieldLink RX8 154 (TX4 0).1 (TX4 0).2.1 (TX4 0).2.2.1 ∈ wsL := in_T 125 (by decide +kernel) (by decide +kernel)
theorem fl_X4_25 : Cond.fieldLink RX4 25 (TX4 1).1 (TX4 1).2.1 (TX4 1).2.2.1 ∈ wsL := in_T 126 (by decide +kernel) (by decide +kernel)
theorem fl_X8_159 : Cond.fieldLink RX8 159 (TX4 1).1 (TX4 1).2.1 (TX4 1).2.2.1 ∈ wsL := in_T 127 (by decide +kernel) (by decide +kernel)
theorem fl_X4_15 : Cond.fieldLink RX4 15 (TX4 2).1 (TX4 2).2.1 (TX4 2).2.2.1 ∈ wsL := in_T 128 (by decide +kernel) (by decide +kernel)
theorem fl_X4_63 : Cond.fieldLink RX4 63 (TX4 3).1 (TX4 3).2.1 (TX4 3).2.2.1 ∈ wsL := in_T 129 (by decide +kernel) (by decide +kernel)
theorem fl_X4_18 : Cond.fieldLink RX4 18 (TX4 4).1 (TX4 4).2.1 (TX4 4).2.2.1 ∈ wsL := in_T 130 (by decide +kernel) (by decide +kernel)
theorem fl_X4_21 : Cond.fieldLink RX4 21 (TX4 5).1 (TX4 5).2.1 (TX4 5).2.2.1 ∈ wsL := in_T 131 (by decide +kernel) (by decide +kernel)
theorem fl_X5_9 : Cond.fieldLink RX5 9 (TX5 0).1 (TX5 0).2.1 (TX5 0).2.2.1 ∈ wsL := in_T 150 (by decide +kernel) (by decide +kernel)
theorem fl_X7_36 : Cond.fieldLink RX7 36 (TX5 0).1 (TX5 0).2.1 (TX5 0).2.2.1 ∈ wsL := in_T 151 (by decide +kernel) (by decide +kernel)
theorem fl_X5_15 : Cond.fieldLink RX5 15 (TX5 1).1 (TX5 1).2.1 (TX5 1).2.2.1 ∈ wsL := in_T 152 (by decide +kernel) (by decide +kernel)
theorem fl_X7_30 : Cond.fieldLink RX7 30 (TX5 1).1 (TX5 1).2.1 (TX5 1).2.2.1 ∈ wsL := in_T 153 (by decide +kernel) (by decide +kernel)
theorem fl_X5_18 : Cond.fieldLink RX5 18 (TX5 2).1 (TX5 2).2.1 (TX5 2).2.2.1 ∈ wsL := in_T 154 (by decide +kernel) (by decide +kernel)
theorem fl_X5_21 : Cond.fieldLink RX5 21 (TX5 3).1 (TX5 3).2.1 (TX5 3).2.2.1 ∈ wsL := in_T 155 (by decide +kernel) (by decide +kernel)
theorem fl_X5_25 : Cond.fieldLink RX5 25 (TX5 4).1 (TX5 4).2.1 (TX5 4).2.2.1 ∈ wsL := in_T 156 (by decide +kernel) (by decide +kernel)
theorem fl_X5_28 : Cond.fieldLink RX5 28 (TX5 5).1 (TX5 5).2.1 (TX5 5).2.2.1 ∈ wsL := in_T 157 (by decide +kernel) (by decide +kernel)
theorem fl_X1_11 : Cond.fieldLink RX1 11 (TX1 0).1 (TX1 0).2.1 (TX1 0).2.2.1 ∈ wsL := in_T 171 (by decide +kernel) (by decide +kernel)
theorem fl_X8_109 : Cond.fieldLink RX8 109 (TX1 0).1 (TX1 0).2.1 (TX1 0).2.2.1 ∈ wsL := in_T 172 (by decide +kernel) (by decide +kernel)
theorem fl_X1_19 : Cond.fieldLink RX1 19 (TX1 1).1 (TX1 1).2.1 (TX1 1).2.2.1 ∈ wsL := in_T 173 (by decide +kernel) (by decide +kernel)
theorem fl_X8_136 : Cond.fieldLink RX8 136 (TX1 1).1 (TX1 1).2.1 (TX1 1).2.2.1 ∈ wsL := in_T 174 (by decide +kernel) (by decide +kernel)
theorem fl_X1_25 : Cond.fieldLink RX1 25 (TX1 2).1 (TX1 2).2.1 (TX1 2).2.2.1 ∈ wsL := in_T 175 (by decide +kernel) (by decide +kernel)
theorem fl_X8_150 : Cond.fieldLink RX8 150 (TX1 2).1 (TX1 2).2.1 (TX1 2).2.2.1 ∈ wsL := in_T 176 (by decide +kernel) (by decide +kernel)
theorem fl_X6_9 : Cond.fieldLink RX6 9 (TX6 0).1 (TX6 0).2.1 (TX6 0).2.2.1 ∈ wsL := in_T 190 (by decide +kernel) (by decide +kernel)
theorem fl_X8_143 : Cond.fieldLink RX8 143 (TX6 0).1 (TX6 0).2.1 (TX6 0).2.2.1 ∈ wsL := in_T 191 (by decide +kernel) (by decide +kernel)
theorem fl_X6_15 : Cond.fieldLink RX6 15 (TX6 1).1 (TX6 1).2.1 (TX6 1).2.2.1 ∈ wsL := in_T 192 (by decide +kernel) (by decide +kernel)
theorem fl_X8_140 : Cond.fieldLink RX8 140 (TX6 1).1 (TX6 1).2.1 (TX6 1).2.2.1 ∈ wsL := in_T 193 (by decide +kernel) (by decide +kernel)
theorem fl_X8_10 : Cond.fieldLink RX8 10 (TX8 0).1 (TX8 0).2.1 (TX8 0).2.2.1 ∈ wsL := in_T 201 (by decide +kernel) (by decide +kernel)
theorem fl_X8_18 : Cond.fieldLink RX8 18 (TX8 1).1 (TX8 1).2.1 (TX8 1).2.2.1 ∈ wsL := in_T 202 (by decide +kernel) (by decide +kernel)
theorem fl_X8_28 : Cond.fieldLink RX8 28 (TX8 2).1 (TX8 2).2.1 (TX8 2).2.2.1 ∈ wsL := in_T 203 (by decide +kernel) (by decide +kernel)
theorem fl_X8_35 : Cond.fieldLink RX8 35 (TX8 3).1 (TX8 3).2.1 (TX8 3).2.2.1 ∈ wsL := in_T 204 (by decide +kernel) (by decide +kernel)
theorem fl_X8_39 : Cond.fieldLink RX8 39 (TX8 4).1 (TX8 4).2.1 (TX8 4).2.2.1 ∈ wsL := in_T 205 (by decide +kernel) (by decide +kernel)
theorem fl_X8_45 : Cond.fieldLink RX8 45 (TX8 5).1 (TX8 5).2.1 (TX8 5).2.2.1 ∈ wsL := in_T 206 (by decide +kernel) (by decide +kernel)
theorem fl_X8_52 : Cond.fieldLink RX8 52 (TX8 6).1 (TX8 6).2.1 (TX8 6).2.2.1 ∈ wsL := in_T 207 (by decide +kernel) (by decide +kernel)
theorem fl_X8_56 : Cond.fieldLink RX8 56 (TX8 7).1 (TX8 7).2.1 (TX8 7).2.2.1 ∈ wsL := in_T 208 (by decide +kernel) (by decide +kernel)
theorem fl_X8_82 : Cond.fieldLink RX8 82 (TX8 8).1 (TX8 8).2.1 (TX8 8).2.2.1 ∈ wsL := in_T 209 (by decide +kernel) (by decide +kernel)
theorem fl_X8_60 : Cond.fieldLink RX8 60 (TX8 9).1 (TX8 9).2.1 (TX8 9).2.2.1 ∈ wsL := in_T 210 (by decide +kernel) (by decide +kernel)
theorem fl_X8_186 : Cond.fieldLink RX8 186 (TX8 10).1 (TX8 10).2.1 (TX8 10).2.2.1 ∈ wsL := in_T 211 (by decide +kernel) (by decide +kernel)
theorem fl_X8_190 : Cond.fieldLink RX8 190 (TX8 11).1 (TX8 11).2.1 (TX8 11).2.2.1 ∈ wsL := in_T 212 (by decide +kernel) (by decide +kernel)
theorem fl_X9_72 : Cond.fieldLink RX9 72 (TX9 0).1 (TX9 0).2.1 (TX9 0).2.2.1 ∈ wsL := in_T 522 (by decide +kernel) (by decide +kernel)
theorem fl_X9_7 : Cond.fieldLink RX9 7 (TX9 1).1 (TX9 1).2.1 (TX9 1).2.2.1 ∈ wsL := in_T 523 (by decide +kernel) (by decide +kernel)
theorem fl_X9_13 : Cond.fieldLink RX9 13 (TX9 2).1 (TX9 2).2.1 (TX9 2).2.2.1 ∈ wsL := in_T 524 (by decide +kernel) (by decide +kernel)
theorem fl_X9_16 : Cond.fieldLink RX9 16 (TX9 3).1 (TX9 3).2.1 (TX9 3).2.2.1 ∈ wsL := in_T 525 (by decide +kernel) (by decide +kernel)
theorem fl_X9_79 : Cond.fieldLink RX9 79 (TX9 4).1 (TX9 4).2.1 (TX9 4).2.2.1 ∈ wsL := in_T 526 (by decide +kernel) (by decide +kernel)
theorem fl_X9_19 : Cond.fieldLink RX9 19 (TX9 5).1 (TX9 5).2.1 (TX9 5).2.2.1 ∈ wsL := in_T 527 (by decide +kernel) (by decide +kernel)
theorem fl_X9_22 : Cond.fieldLink RX9 22 (TX9 6).1 (TX9 6).2.1 (TX9 6).2.2.1 ∈ wsL := in_T 528 (by decide +kernel) (by decide +kernel)
theorem fl_X9_25 : Cond.fieldLink RX9 25 (TX9 7).1 (TX9 7).2.1 (TX9 7).2.2.1 ∈ wsL := in_T 529 (by decide +kernel) (by decide +kernel)
theorem fl_X9_29 : Cond.fieldLink RX9 29 (TX9 8).1 (TX9 8).2.1 (TX9 8).2.2.1 ∈ wsL := in_T 530 (by decide +kernel) (by decide +kernel)
theorem fl_X9_32 : Cond.fieldLink RX9 32 (TX9 9).1 (TX9 9).2.1 (TX9 9).2.2.1 ∈ wsL := in_T 531 (by decide +kernel) (by decide +kernel)
theorem fl_X9_35 : Cond.fieldLink RX9 35 (TX9 10).1 (TX9 10).2.1 (TX9 10).2.2.1 ∈ wsL := in_T 532 (by decide +kernel) (by decide +kernel)
theorem fl_X9_38 : Cond.fieldLink RX9 38 (TX9 11).1 (TX9 11).2.1 (TX9 11).2.2.1 ∈ wsL := in_T 533 (by decide +kernel) (by decide +kernel)
theorem fl_X9_41 : Cond.fieldLink RX9 41 (TX9 12).1 (TX9 12).2.1 (TX9 12).2.2.1 ∈ wsL := in_T 534 (by decide +kernel) (by decide +kernel)
theorem fl_X9_44 : Cond.fieldLink RX9 44 (TX9 13).1 (TX9 13).2.1 (TX9 13).2.2.1 ∈ wsL := in_T 535 (by decide +kernel) (by decide +kernel)
theorem fl_X9_47 : Cond.fieldLink RX9 47 (TX9 14).1 (TX9 14).2.1 (TX9 14).2.2.1 ∈ wsL := in_T 536 (by decide +kernel) (by decide +kernel)
theorem fl_X9_97 : Cond.fieldLink RX9 97 (TX9 15).1 (TX9 15).2.1 (TX9 15).2.2.1 ∈ wsL := in_T 537 (by decide +kernel) (by decide +kernel)
theorem fl_X9_50 : Cond.fieldLink RX9 50 (TX9 16).1 (TX9 16).2.1 (TX9 16).2.2.1 ∈ wsL := in_T 538 (by decide +kernel) (by decide +kernel)
theorem fl_X9_131 : Cond.fieldLink RX9 131 (TX9 17).1 (TX9 17).2.1 (TX9 17).2.2.1 ∈ wsL := in_T 539 (by decide +kernel) (by decide +kernel)
theorem fl_X9_134 : Cond.fieldLink RX9 134 (TX9 18).1 (TX9 18).2.1 (TX9 18).2.2.1 ∈ wsL := in_T 540 (by decide +kernel) (by decide +kernel)
theorem fl_X9_137 : Cond.fieldLink RX9 137 (TX9 19).1 (TX9 19).2.1 (TX9 19).2.2.1 ∈ wsL := in_T 541 (by decide +kernel) (by decide +kernel)
theorem fl_X9_53 : Cond.fieldLink RX9 53 (TX9 20).1 (TX9 20).2.1 (TX9 20).2.2.1 ∈ wsL := in_T 542 (by decide +kernel) (by decide +kernel)
theorem fl_X9_57 : Cond.fieldLink RX9 57 (TX9 21).1 (TX9 21).2.1 (TX9 21).2.2.1 ∈ wsL := in_T 543 (by decide +kernel) (by decide +kernel)
theorem fl_X9_60 : Cond.fieldLink RX9 60 (TX9 22).1 (TX9 22).2.1 (TX9 22).2.2.1 ∈ wsL := in_T 544 (by decide +kernel) (by decide +kernel)
theorem fl_X9_63 : Cond.fieldLink RX9 63 (TX9 23).1 (TX9 23).2.1 (TX9 23).2.2.1 ∈ wsL := in_T 545 (by decide +kernel) (by decide +kernel)
theorem fl_X9_66 : Cond.fieldLink RX9 66 (TX9 24).1 (TX9 24).2.1 (TX9 24).2.2.1 ∈ wsL := in_T 546 (by decide +kernel) (by decide +kernel)
theorem fl_X9_69 : Cond.fieldLink RX9 69 (TX9 25).1 (TX9 25).2.1 (TX9 25).2.2.1 ∈ wsL := in_T 547 (by decide +kernel) (by decide +kernel)
theorem wi_L : Cond.initialized RL ∈ wsL := in_T 0 (by decide +kernel) (by decide +kernel)
theorem wi_X8 : Cond.initialized RX8 ∈ wsL := in_T 1 (by decide +kernel) (by decide +kernel)
theorem wi_X0 : Cond.initialized RX0 ∈ wsL := in_T 2 (by decide +kernel) (by decide +kernel)
theorem wi_X2 : Cond.initialized RX2 ∈ wsL := in_T 3 (by decide +kernel) (by decide +kernel)
theorem wi_X3 : Cond.initialized RX3 ∈ wsL := in_T 4 (by decide +kernel) (by decide +kernel)
theorem wi_X7 : Cond.initialized RX7 ∈ wsL := in_T 5 (by decide +kernel) (by decide +kernel)
theorem wi_X1 : Cond.initialized RX1 ∈ wsL := in_T 6 (by decide +kernel) (by decide +kernel)
theorem wi_X4 : Cond.initialized RX4 ∈ wsL := in_T 7 (by decide +kernel) (by decide +kernel)
theorem wi_X5 : Cond.initialized RX5 ∈ wsL := in_T 8 (by decide +kernel) (by decide +kernel)
theorem wi_X6 : Cond.initialized RX6 ∈ wsL := in_T 9 (by decide +kernel) (by decide +kernel)
theorem wi_X9 : Cond.initialized RX9 ∈ wsL := in_T 10 (by decide +kernel) (by decide +kernel)
theorem wi_J9 : Cond.initialized RJ9 ∈ wsL := in_T 11 (by decide +kernel) (by decide +kernel)
theorem wi_J6 : Cond.initialized RJ6 ∈ wsL := in_T 12 (by decide +kernel) (by decide +kernel)
theorem wc_X0_init : Cond.code yX0_init cX0_init 1 none ∈ wsL := in_T 25 (by decide +kernel) (by decide +kernel)
theorem wm_X0_init : Cond.instanceMethod yX0_init ∈ wsL := in_T 24 (by decide +kernel) (by decide +kernel)
theorem wc_X0_enter : Cond.code yX0_enter cX0_enter 4 (some .int) ∈ wsL := in_T 248 (by decide +kernel) (by decide +kernel)
theorem wm_X0_enter : Cond.instanceMethod yX0_enter ∈ wsL := in_T 246 (by decide +kernel) (by decide +kernel)
theorem ws_X0_enter : Cond.selects yX0_enter.cls yX0_enter yX0_enter ∈ wsL := in_T 247 (by decide +kernel) (by decide +kernel)
theorem wc_X0_isPlayedAhead : Cond.code yX0_isPlayedAhead cX0_isPlayedAhead 3 (some .boolean) ∈ wsL := in_T 335 (by decide +kernel) (by decide +kernel)
theorem wm_X0_isPlayedAhead : Cond.instanceMethod yX0_isPlayedAhead ∈ wsL := in_T 333 (by decide +kernel) (by decide +kernel)
theorem ws_X0_isPlayedAhead : Cond.selects yX0_isPlayedAhead.cls yX0_isPlayedAhead yX0_isPlayedAhead ∈ wsL := in_T 334 (by decide +kernel) (by decide +kernel)
theorem wc_X1_init : Cond.code yX1_init cX1_init 2 none ∈ wsL := in_T 112 (by decide +kernel) (by decide +kernel)
theorem wm_X1_init : Cond.instanceMethod yX1_init ∈ wsL := in_T 111 (by decide +kernel) (by decide +kernel)
theorem wc_X1_enter : Cond.code yX1_enter cX1_enter 4 none ∈ wsL := in_T 369 (by decide +kernel) (by decide +kernel)
theorem wm_X1_enter : Cond.instanceMethod yX1_enter ∈ wsL := in_T 367 (by decide +kernel) (by decide +kernel)
theorem ws_X1_enter : Cond.selects yX1_enter.cls yX1_enter yX1_enter ∈ wsL := in_T 368 (by decide +kernel) (by decide +kernel)
theorem wc_X1_hasTablesOf : Cond.code yX1_hasTablesOf cX1_hasTablesOf 5 (some .boolean) ∈ wsL := in_T 503 (by decide +kernel) (by decide +kernel)
theorem wm_X1_hasTablesOf : Cond.instanceMethod yX1_hasTablesOf ∈ wsL := in_T 501 (by decide +kernel) (by decide +kernel)
theorem ws_X1_hasTablesOf : Cond.selects yX1_hasTablesOf.cls yX1_hasTablesOf yX1_hasTablesOf ∈ wsL := in_T 502 (by decide +kernel) (by decide +kernel)
theorem wc_X2_init : Cond.code yX2_init cX2_init 1 none ∈ wsL := in_T 51 (by decide +kernel) (by decide +kernel)
theorem wm_X2_init : Cond.instanceMethod yX2_init ∈ wsL := in_T 50 (by decide +kernel) (by decide +kernel)
theorem wc_X2_append : Cond.code yX2_append cX2_append 2 (some .int) ∈ wsL := in_T 276 (by decide +kernel) (by decide +kernel)
theorem wm_X2_append : Cond.instanceMethod yX2_append ∈ wsL := in_T 274 (by decide +kernel) (by decide +kernel)
theorem ws_X2_append : Cond.selects yX2_append.cls yX2_append yX2_append ∈ wsL := in_T 275 (by decide +kernel) (by decide +kernel)
theorem wc_X2_takeOut : Cond.code yX2_takeOut cX2_takeOut 4 (some .int) ∈ wsL := in_T 288 (by decide +kernel) (by decide +kernel)
theorem wm_X2_takeOut : Cond.instanceMethod yX2_takeOut ∈ wsL := in_T 286 (by decide +kernel) (by decide +kernel)
theorem ws_X2_takeOut : Cond.selects yX2_takeOut.cls yX2_takeOut yX2_takeOut ∈ wsL := in_T 287 (by decide +kernel) (by decide +kernel)
theorem wc_X2_exchange : Cond.code yX2_exchange cX2_exchange 4 none ∈ wsL := in_T 296 (by decide +kernel) (by decide +kernel)
theorem wm_X2_exchange : Cond.instanceMethod yX2_exchange ∈ wsL := in_T 294 (by decide +kernel) (by decide +kernel)
theorem ws_X2_exchange : Cond.selects yX2_exchange.cls yX2_exchange yX2_exchange ∈ wsL := in_T 295 (by decide +kernel) (by decide +kernel)
theorem wc_X2_firstPlaceOf : Cond.code yX2_firstPlaceOf cX2_firstPlaceOf 3 (some .int) ∈ wsL := in_T 471 (by decide +kernel) (by decide +kernel)
theorem wm_X2_firstPlaceOf : Cond.instanceMethod yX2_firstPlaceOf ∈ wsL := in_T 469 (by decide +kernel) (by decide +kernel)
theorem ws_X2_firstPlaceOf : Cond.selects yX2_firstPlaceOf.cls yX2_firstPlaceOf yX2_firstPlaceOf ∈ wsL := in_T 470 (by decide +kernel) (by decide +kernel)
theorem wc_X3_init : Cond.code yX3_init cX3_init 2 none ∈ wsL := in_T 68 (by decide +kernel) (by decide +kernel)
theorem wm_X3_init : Cond.instanceMethod yX3_init ∈ wsL := in_T 67 (by decide +kernel) (by decide +kernel)
theorem wc_X3_resultOf : Cond.code yX3_resultOf cX3_resultOf 5 (some .int) ∈ wsL := in_T 347 (by decide +kernel) (by decide +kernel)
theorem wm_X3_resultOf : Cond.instanceMethod yX3_resultOf ∈ wsL := in_T 345 (by decide +kernel) (by decide +kernel)
theorem ws_X3_resultOf : Cond.selects yX3_resultOf.cls yX3_resultOf yX3_resultOf ∈ wsL := in_T 346 (by decide +kernel) (by decide +kernel)
theorem wc_X4_init : Cond.code yX4_init cX4_init 1 none ∈ wsL := in_T 122 (by decide +kernel) (by decide +kernel)
theorem wm_X4_init : Cond.instanceMethod yX4_init ∈ wsL := in_T 121 (by decide +kernel) (by decide +kernel)
theorem wc_X4_find : Cond.code yX4_find cX4_find 7 none ∈ wsL := in_T 407 (by decide +kernel) (by decide +kernel)
theorem wm_X4_find : Cond.instanceMethod yX4_find ∈ wsL := in_T 405 (by decide +kernel) (by decide +kernel)
theorem ws_X4_find : Cond.selects yX4_find.cls yX4_find yX4_find ∈ wsL := in_T 406 (by decide +kernel) (by decide +kernel)
theorem wc_X4_isWithin : Cond.code yX4_isWithin cX4_isWithin 4 (some .boolean) ∈ wsL := in_T 507 (by decide +kernel) (by decide +kernel)
theorem wm_X4_isWithin : Cond.instanceMethod yX4_isWithin ∈ wsL := in_T 505 (by decide +kernel) (by decide +kernel)
theorem ws_X4_isWithin : Cond.selects yX4_isWithin.cls yX4_isWithin yX4_isWithin ∈ wsL := in_T 506 (by decide +kernel) (by decide +kernel)
theorem wc_X4_findMinors : Cond.code yX4_findMinors cX4_findMinors 6 none ∈ wsL := in_T 411 (by decide +kernel) (by decide +kernel)
theorem wm_X4_findMinors : Cond.instanceMethod yX4_findMinors ∈ wsL := in_T 410 (by decide +kernel) (by decide +kernel)
theorem ws_X4_findMinors : Cond.selects yX4_findMinors.cls yX4_findMinors yX4_findMinors ∈ wsL := in_S 13 (by decide +kernel) (by decide +kernel)
theorem wc_X4_minorOf : Cond.code yX4_minorOf cX4_minorOf 9 (some .int) ∈ wsL := in_T 421 (by decide +kernel) (by decide +kernel)
theorem wm_X4_minorOf : Cond.instanceMethod yX4_minorOf ∈ wsL := in_T 420 (by decide +kernel) (by decide +kernel)
theorem ws_X4_minorOf : Cond.selects yX4_minorOf.cls yX4_minorOf yX4_minorOf ∈ wsL := in_S 14 (by decide +kernel) (by decide +kernel)
theorem wc_X4_leastOf : Cond.code yX4_leastOf cX4_leastOf 3 (some .int) ∈ wsL := in_T 425 (by decide +kernel) (by decide +kernel)
theorem wm_X4_leastOf : Cond.instanceMethod yX4_leastOf ∈ wsL := in_T 424 (by decide +kernel) (by decide +kernel)
theorem ws_X4_leastOf : Cond.selects yX4_leastOf.cls yX4_leastOf yX4_leastOf ∈ wsL := in_S 15 (by decide +kernel) (by decide +kernel)
theorem wc_X4_isIn : Cond.code yX4_isIn cX4_isIn 2 (some .boolean) ∈ wsL := in_T 428 (by decide +kernel) (by decide +kernel)
theorem wt_X4_isIn : Cond.static yX4_isIn ∈ wsL := in_T 427 (by decide +kernel) (by decide +kernel)
theorem wc_X4_tryCorner : Cond.code yX4_tryCorner cX4_tryCorner 7 (some .boolean) ∈ wsL := in_T 432 (by decide +kernel) (by decide +kernel)
theorem wm_X4_tryCorner : Cond.instanceMethod yX4_tryCorner ∈ wsL := in_T 431 (by decide +kernel) (by decide +kernel)
theorem ws_X4_tryCorner : Cond.selects yX4_tryCorner.cls yX4_tryCorner yX4_tryCorner ∈ wsL := in_S 16 (by decide +kernel) (by decide +kernel)
theorem wc_X4_turnSigns : Cond.code yX4_turnSigns cX4_turnSigns 2 none ∈ wsL := in_T 436 (by decide +kernel) (by decide +kernel)
theorem wm_X4_turnSigns : Cond.instanceMethod yX4_turnSigns ∈ wsL := in_T 435 (by decide +kernel) (by decide +kernel)
theorem ws_X4_turnSigns : Cond.selects yX4_turnSigns.cls yX4_turnSigns yX4_turnSigns ∈ wsL := in_S 17 (by decide +kernel) (by decide +kernel)
theorem wc_X4_isHolding : Cond.code yX4_isHolding cX4_isHolding 5 (some .boolean) ∈ wsL := in_T 440 (by decide +kernel) (by decide +kernel)
theorem wm_X4_isHolding : Cond.instanceMethod yX4_isHolding ∈ wsL := in_T 439 (by decide +kernel) (by decide +kernel)
theorem ws_X4_isHolding : Cond.selects yX4_isHolding.cls yX4_isHolding yX4_isHolding ∈ wsL := in_S 18 (by decide +kernel) (by decide +kernel)
theorem wc_X4_isGreater : Cond.code yX4_isGreater cX4_isGreater 3 (some .boolean) ∈ wsL := in_T 444 (by decide +kernel) (by decide +kernel)
theorem wm_X4_isGreater : Cond.instanceMethod yX4_isGreater ∈ wsL := in_T 443 (by decide +kernel) (by decide +kernel)
theorem ws_X4_isGreater : Cond.selects yX4_isGreater.cls yX4_isGreater yX4_isGreater ∈ wsL := in_S 19 (by decide +kernel) (by decide +kernel)
theorem wc_X4_takeTried : Cond.code yX4_takeTried cX4_takeTried 2 none ∈ wsL := in_T 448 (by decide +kernel) (by decide +kernel)
theorem wm_X4_takeTried : Cond.instanceMethod yX4_takeTried ∈ wsL := in_T 447 (by decide +kernel) (by decide +kernel)
theorem ws_X4_takeTried : Cond.selects yX4_takeTried.cls yX4_takeTried yX4_takeTried ∈ wsL := in_S 20 (by decide +kernel) (by decide +kernel)
theorem wc_X5_init : Cond.code yX5_init cX5_init 1 none ∈ wsL := in_T 148 (by decide +kernel) (by decide +kernel)
theorem wm_X5_init : Cond.instanceMethod yX5_init ∈ wsL := in_T 147 (by decide +kernel) (by decide +kernel)
theorem wc_X5_lay : Cond.code yX5_lay cX5_lay 5 none ∈ wsL := in_T 316 (by decide +kernel) (by decide +kernel)
theorem wm_X5_lay : Cond.instanceMethod yX5_lay ∈ wsL := in_T 314 (by decide +kernel) (by decide +kernel)
theorem ws_X5_lay : Cond.selects yX5_lay.cls yX5_lay yX5_lay ∈ wsL := in_T 315 (by decide +kernel) (by decide +kernel)
theorem wc_X5_draw : Cond.code yX5_draw cX5_draw 3 none ∈ wsL := in_T 320 (by decide +kernel) (by decide +kernel)
theorem wm_X5_draw : Cond.instanceMethod yX5_draw ∈ wsL := in_T 319 (by decide +kernel) (by decide +kernel)
theorem ws_X5_draw : Cond.selects yX5_draw.cls yX5_draw yX5_draw ∈ wsL := in_S 5 (by decide +kernel) (by decide +kernel)
theorem wc_X5_playHand : Cond.code yX5_playHand cX5_playHand 6 none ∈ wsL := in_T 327 (by decide +kernel) (by decide +kernel)
theorem wm_X5_playHand : Cond.instanceMethod yX5_playHand ∈ wsL := in_T 326 (by decide +kernel) (by decide +kernel)
theorem ws_X5_playHand : Cond.selects yX5_playHand.cls yX5_playHand yX5_playHand ∈ wsL := in_S 6 (by decide +kernel) (by decide +kernel)
theorem wc_X5_nextPlace : Cond.code yX5_nextPlace cX5_nextPlace 5 (some .int) ∈ wsL := in_T 331 (by decide +kernel) (by decide +kernel)
theorem wm_X5_nextPlace : Cond.instanceMethod yX5_nextPlace ∈ wsL := in_T 330 (by decide +kernel) (by decide +kernel)
theorem ws_X5_nextPlace : Cond.selects yX5_nextPlace.cls yX5_nextPlace yX5_nextPlace ∈ wsL := in_S 7 (by decide +kernel) (by decide +kernel)
theorem wc_X5_putDown : Cond.code yX5_putDown cX5_putDown 2 none ∈ wsL := in_T 339 (by decide +kernel) (by decide +kernel)
theorem wm_X5_putDown : Cond.instanceMethod yX5_putDown ∈ wsL := in_T 338 (by decide +kernel) (by decide +kernel)
theorem ws_X5_putDown : Cond.selects yX5_putDown.cls yX5_putDown yX5_putDown ∈ wsL := in_S 8 (by decide +kernel) (by decide +kernel)
theorem wc_X6_init : Cond.code yX6_init cX6_init 1 none ∈ wsL := in_T 188 (by decide +kernel) (by decide +kernel)
theorem wm_X6_init : Cond.instanceMethod yX6_init ∈ wsL := in_T 187 (by decide +kernel) (by decide +kernel)
theorem wc_X6_find : Cond.code yX6_find cX6_find 5 none ∈ wsL := in_T 373 (by decide +kernel) (by decide +kernel)
theorem wm_X6_find : Cond.instanceMethod yX6_find ∈ wsL := in_T 371 (by decide +kernel) (by decide +kernel)
theorem ws_X6_find : Cond.selects yX6_find.cls yX6_find yX6_find ∈ wsL := in_T 372 (by decide +kernel) (by decide +kernel)
theorem wc_X6_findThird : Cond.code yX6_findThird cX6_findThird 6 none ∈ wsL := in_T 377 (by decide +kernel) (by decide +kernel)
theorem wm_X6_findThird : Cond.instanceMethod yX6_findThird ∈ wsL := in_T 376 (by decide +kernel) (by decide +kernel)
theorem ws_X6_findThird : Cond.selects yX6_findThird.cls yX6_findThird yX6_findThird ∈ wsL := in_S 11 (by decide +kernel) (by decide +kernel)
theorem wc_X7_init : Cond.code yX7_init cX7_init 1 none ∈ wsL := in_T 74 (by decide +kernel) (by decide +kernel)
theorem wm_X7_init : Cond.instanceMethod yX7_init ∈ wsL := in_T 73 (by decide +kernel) (by decide +kernel)
theorem wc_X7_begin : Cond.code yX7_begin cX7_begin 2 none ∈ wsL := in_T 351 (by decide +kernel) (by decide +kernel)
theorem wm_X7_begin : Cond.instanceMethod yX7_begin ∈ wsL := in_T 349 (by decide +kernel) (by decide +kernel)
theorem ws_X7_begin : Cond.selects yX7_begin.cls yX7_begin yX7_begin ∈ wsL := in_T 350 (by decide +kernel) (by decide +kernel)
theorem wc_X7_defeats : Cond.code yX7_defeats cX7_defeats 7 (some .boolean) ∈ wsL := in_T 355 (by decide +kernel) (by decide +kernel)
theorem wm_X7_defeats : Cond.instanceMethod yX7_defeats ∈ wsL := in_T 353 (by decide +kernel) (by decide +kernel)
theorem ws_X7_defeats : Cond.selects yX7_defeats.cls yX7_defeats yX7_defeats ∈ wsL := in_T 354 (by decide +kernel) (by decide +kernel)
theorem wc_X7_put : Cond.code yX7_put cX7_put 4 none ∈ wsL := in_T 362 (by decide +kernel) (by decide +kernel)
theorem wm_X7_put : Cond.instanceMethod yX7_put ∈ wsL := in_T 361 (by decide +kernel) (by decide +kernel)
theorem ws_X7_put : Cond.selects yX7_put.cls yX7_put yX7_put ∈ wsL := in_S 10 (by decide +kernel) (by decide +kernel)
theorem wc_X8_init : Cond.code yX8_init cX8_init 2 none ∈ wsL := in_T 17 (by decide +kernel) (by decide +kernel)
theorem wm_X8_init : Cond.instanceMethod yX8_init ∈ wsL := in_T 16 (by decide +kernel) (by decide +kernel)
theorem wc_X8_card : Cond.code yX8_card cX8_card 4 (some .int) ∈ wsL := in_T 241 (by decide +kernel) (by decide +kernel)
theorem wm_X8_card : Cond.instanceMethod yX8_card ∈ wsL := in_T 239 (by decide +kernel) (by decide +kernel)
theorem ws_X8_card : Cond.selects yX8_card.cls yX8_card yX8_card ∈ wsL := in_T 240 (by decide +kernel) (by decide +kernel)
theorem wc_X8_power : Cond.code yX8_power cX8_power 4 (some .int) ∈ wsL := in_T 252 (by decide +kernel) (by decide +kernel)
theorem wm_X8_power : Cond.instanceMethod yX8_power ∈ wsL := in_T 250 (by decide +kernel) (by decide +kernel)
theorem ws_X8_power : Cond.selects yX8_power.cls yX8_power yX8_power ∈ wsL := in_T 251 (by decide +kernel) (by decide +kernel)
theorem wc_X8_deck : Cond.code yX8_deck cX8_deck 1 (some .int) ∈ wsL := in_T 264 (by decide +kernel) (by decide +kernel)
theorem wm_X8_deck : Cond.instanceMethod yX8_deck ∈ wsL := in_T 262 (by decide +kernel) (by decide +kernel)
theorem ws_X8_deck : Cond.selects yX8_deck.cls yX8_deck yX8_deck ∈ wsL := in_T 263 (by decide +kernel) (by decide +kernel)
theorem wc_X8_add : Cond.code yX8_add cX8_add 3 (some .int) ∈ wsL := in_T 268 (by decide +kernel) (by decide +kernel)
theorem wm_X8_add : Cond.instanceMethod yX8_add ∈ wsL := in_T 266 (by decide +kernel) (by decide +kernel)
theorem ws_X8_add : Cond.selects yX8_add.cls yX8_add yX8_add ∈ wsL := in_T 267 (by decide +kernel) (by decide +kernel)
theorem wc_X8_drop : Cond.code yX8_drop cX8_drop 4 (some .int) ∈ wsL := in_T 280 (by decide +kernel) (by decide +kernel)
theorem wm_X8_drop : Cond.instanceMethod yX8_drop ∈ wsL := in_T 278 (by decide +kernel) (by decide +kernel)
theorem ws_X8_drop : Cond.selects yX8_drop.cls yX8_drop yX8_drop ∈ wsL := in_T 279 (by decide +kernel) (by decide +kernel)
theorem wc_X8_swap : Cond.code yX8_swap cX8_swap 4 (some .int) ∈ wsL := in_T 292 (by decide +kernel) (by decide +kernel)
theorem wm_X8_swap : Cond.instanceMethod yX8_swap ∈ wsL := in_T 290 (by decide +kernel) (by decide +kernel)
theorem ws_X8_swap : Cond.selects yX8_swap.cls yX8_swap yX8_swap ∈ wsL := in_T 291 (by decide +kernel) (by decide +kernel)
theorem wc_X8_at : Cond.code yX8_at cX8_at 3 (some .int) ∈ wsL := in_T 300 (by decide +kernel) (by decide +kernel)
theorem wm_X8_at : Cond.instanceMethod yX8_at ∈ wsL := in_T 298 (by decide +kernel) (by decide +kernel)
theorem ws_X8_at : Cond.selects yX8_at.cls yX8_at yX8_at ∈ wsL := in_T 299 (by decide +kernel) (by decide +kernel)
theorem wc_X8_life : Cond.code yX8_life cX8_life 3 (some .int) ∈ wsL := in_T 304 (by decide +kernel) (by decide +kernel)
theorem wm_X8_life : Cond.instanceMethod yX8_life ∈ wsL := in_T 302 (by decide +kernel) (by decide +kernel)
theorem ws_X8_life : Cond.selects yX8_life.cls yX8_life yX8_life ∈ wsL := in_T 303 (by decide +kernel) (by decide +kernel)
theorem wc_X8_play : Cond.code yX8_play cX8_play 3 (some .int) ∈ wsL := in_T 308 (by decide +kernel) (by decide +kernel)
theorem wm_X8_play : Cond.instanceMethod yX8_play ∈ wsL := in_T 306 (by decide +kernel) (by decide +kernel)
theorem ws_X8_play : Cond.selects yX8_play.cls yX8_play yX8_play ∈ wsL := in_T 307 (by decide +kernel) (by decide +kernel)
theorem wc_X8_told : Cond.code yX8_told cX8_told 4 (some .int) ∈ wsL := in_T 381 (by decide +kernel) (by decide +kernel)
theorem wm_X8_told : Cond.instanceMethod yX8_told ∈ wsL := in_T 379 (by decide +kernel) (by decide +kernel)
theorem ws_X8_told : Cond.selects yX8_told.cls yX8_told yX8_told ∈ wsL := in_T 380 (by decide +kernel) (by decide +kernel)
theorem wc_X8_table : Cond.code yX8_table cX8_table 3 (some .int) ∈ wsL := in_T 386 (by decide +kernel) (by decide +kernel)
theorem wm_X8_table : Cond.instanceMethod yX8_table ∈ wsL := in_T 384 (by decide +kernel) (by decide +kernel)
theorem ws_X8_table : Cond.selects yX8_table.cls yX8_table yX8_table ∈ wsL := in_T 385 (by decide +kernel) (by decide +kernel)
theorem wc_X8_rings : Cond.code yX8_rings cX8_rings 1 (some .int) ∈ wsL := in_T 390 (by decide +kernel) (by decide +kernel)
theorem wm_X8_rings : Cond.instanceMethod yX8_rings ∈ wsL := in_T 388 (by decide +kernel) (by decide +kernel)
theorem ws_X8_rings : Cond.selects yX8_rings.cls yX8_rings yX8_rings ∈ wsL := in_T 389 (by decide +kernel) (by decide +kernel)
theorem wc_X8_ring : Cond.code yX8_ring cX8_ring 3 (some .int) ∈ wsL := in_T 394 (by decide +kernel) (by decide +kernel)
theorem wm_X8_ring : Cond.instanceMethod yX8_ring ∈ wsL := in_T 392 (by decide +kernel) (by decide +kernel)
theorem ws_X8_ring : Cond.selects yX8_ring.cls yX8_ring yX8_ring ∈ wsL := in_T 393 (by decide +kernel) (by decide +kernel)
theorem wc_X8_share : Cond.code yX8_share cX8_share 6 (some .long) ∈ wsL := in_T 398 (by decide +kernel) (by decide +kernel)
theorem wm_X8_share : Cond.instanceMethod yX8_share ∈ wsL := in_T 396 (by decide +kernel) (by decide +kernel)
theorem ws_X8_share : Cond.selects yX8_share.cls yX8_share yX8_share ∈ wsL := in_T 397 (by decide +kernel) (by decide +kernel)
theorem wc_X8_live : Cond.code yX8_live cX8_live 3 (some .int) ∈ wsL := in_T 455 (by decide +kernel) (by decide +kernel)
theorem wm_X8_live : Cond.instanceMethod yX8_live ∈ wsL := in_T 453 (by decide +kernel) (by decide +kernel)
theorem ws_X8_live : Cond.selects yX8_live.cls yX8_live yX8_live ∈ wsL := in_T 454 (by decide +kernel) (by decide +kernel)
theorem wc_X8_standing : Cond.code yX8_standing cX8_standing 2 (some .int) ∈ wsL := in_T 459 (by decide +kernel) (by decide +kernel)
theorem wm_X8_standing : Cond.instanceMethod yX8_standing ∈ wsL := in_T 457 (by decide +kernel) (by decide +kernel)
theorem ws_X8_standing : Cond.selects yX8_standing.cls yX8_standing yX8_standing ∈ wsL := in_T 458 (by decide +kernel) (by decide +kernel)
theorem wc_X8_worth : Cond.code yX8_worth cX8_worth 3 (some .int) ∈ wsL := in_T 467 (by decide +kernel) (by decide +kernel)
theorem wm_X8_worth : Cond.instanceMethod yX8_worth ∈ wsL := in_T 465 (by decide +kernel) (by decide +kernel)
theorem ws_X8_worth : Cond.selects yX8_worth.cls yX8_worth yX8_worth ∈ wsL := in_T 466 (by decide +kernel) (by decide +kernel)
theorem wc_X8_idle : Cond.code yX8_idle cX8_idle 4 (some .int) ∈ wsL := in_T 479 (by decide +kernel) (by decide +kernel)
theorem wm_X8_idle : Cond.instanceMethod yX8_idle ∈ wsL := in_T 477 (by decide +kernel) (by decide +kernel)
theorem ws_X8_idle : Cond.selects yX8_idle.cls yX8_idle yX8_idle ∈ wsL := in_T 478 (by decide +kernel) (by decide +kernel)
theorem wc_X8_remedy : Cond.code yX8_remedy cX8_remedy 7 (some .int) ∈ wsL := in_T 483 (by decide +kernel) (by decide +kernel)
theorem wm_X8_remedy : Cond.instanceMethod yX8_remedy ∈ wsL := in_T 481 (by decide +kernel) (by decide +kernel)
theorem ws_X8_remedy : Cond.selects yX8_remedy.cls yX8_remedy yX8_remedy ∈ wsL := in_T 482 (by decide +kernel) (by decide +kernel)
theorem wc_X8_count : Cond.code yX8_count cX8_count 2 (some .int) ∈ wsL := in_T 511 (by decide +kernel) (by decide +kernel)
theorem wm_X8_count : Cond.instanceMethod yX8_count ∈ wsL := in_T 509 (by decide +kernel) (by decide +kernel)
theorem ws_X8_count : Cond.selects yX8_count.cls yX8_count yX8_count ∈ wsL := in_T 510 (by decide +kernel) (by decide +kernel)
theorem wc_X8_isOutside : Cond.code yX8_isOutside cX8_isOutside 3 (some .boolean) ∈ wsL := in_T 244 (by decide +kernel) (by decide +kernel)
theorem wt_X8_isOutside : Cond.static yX8_isOutside ∈ wsL := in_T 243 (by decide +kernel) (by decide +kernel)
theorem wc_X8_isNoCard : Cond.code yX8_isNoCard cX8_isNoCard 2 (some .boolean) ∈ wsL := in_T 256 (by decide +kernel) (by decide +kernel)
theorem wm_X8_isNoCard : Cond.instanceMethod yX8_isNoCard ∈ wsL := in_T 255 (by decide +kernel) (by decide +kernel)
theorem ws_X8_isNoCard : Cond.selects yX8_isNoCard.cls yX8_isNoCard yX8_isNoCard ∈ wsL := in_S 0 (by decide +kernel) (by decide +kernel)
theorem wc_X8_isNoDeck : Cond.code yX8_isNoDeck cX8_isNoDeck 2 (some .boolean) ∈ wsL := in_T 272 (by decide +kernel) (by decide +kernel)
theorem wm_X8_isNoDeck : Cond.instanceMethod yX8_isNoDeck ∈ wsL := in_T 271 (by decide +kernel) (by decide +kernel)
theorem ws_X8_isNoDeck : Cond.selects yX8_isNoDeck.cls yX8_isNoDeck yX8_isNoDeck ∈ wsL := in_S 2 (by decide +kernel) (by decide +kernel)
theorem wc_X8_isNoPlace : Cond.code yX8_isNoPlace cX8_isNoPlace 3 (some .boolean) ∈ wsL := in_T 284 (by decide +kernel) (by decide +kernel)
theorem wm_X8_isNoPlace : Cond.instanceMethod yX8_isNoPlace ∈ wsL := in_T 283 (by decide +kernel) (by decide +kernel)
theorem ws_X8_isNoPlace : Cond.selects yX8_isNoPlace.cls yX8_isNoPlace yX8_isNoPlace ∈ wsL := in_S 3 (by decide +kernel) (by decide +kernel)
theorem wc_X8_cardsInDecks : Cond.code yX8_cardsInDecks cX8_cardsInDecks 3 (some .int) ∈ wsL := in_T 515 (by decide +kernel) (by decide +kernel)
theorem wm_X8_cardsInDecks : Cond.instanceMethod yX8_cardsInDecks ∈ wsL := in_T 514 (by decide +kernel) (by decide +kernel)
theorem ws_X8_cardsInDecks : Cond.selects yX8_cardsInDecks.cls yX8_cardsInDecks yX8_cardsInDecks ∈ wsL := in_S 27 (by decide +kernel) (by decide +kernel)
theorem wc_X8_sumOf : Cond.code yX8_sumOf cX8_sumOf 4 (some .int) ∈ wsL := in_T 463 (by decide +kernel) (by decide +kernel)
theorem wm_X8_sumOf : Cond.instanceMethod yX8_sumOf ∈ wsL := in_T 462 (by decide +kernel) (by decide +kernel)
theorem ws_X8_sumOf : Cond.selects yX8_sumOf.cls yX8_sumOf yX8_sumOf ∈ wsL := in_S 21 (by decide +kernel) (by decide +kernel)
theorem wc_X8_greatestDivisor : Cond.code yX8_greatestDivisor cX8_greatestDivisor 6 (some .int) ∈ wsL := in_T 451 (by decide +kernel) (by decide +kernel)
theorem wt_X8_greatestDivisor : Cond.static yX8_greatestDivisor ∈ wsL := in_T 450 (by decide +kernel) (by decide +kernel)
theorem wc_X8_forgetTables : Cond.code yX8_forgetTables cX8_forgetTables 1 none ∈ wsL := in_T 260 (by decide +kernel) (by decide +kernel)
theorem wm_X8_forgetTables : Cond.instanceMethod yX8_forgetTables ∈ wsL := in_T 259 (by decide +kernel) (by decide +kernel)
theorem ws_X8_forgetTables : Cond.selects yX8_forgetTables.cls yX8_forgetTables yX8_forgetTables ∈ wsL := in_S 1 (by decide +kernel) (by decide +kernel)
theorem wc_X8_learnTables : Cond.code yX8_learnTables cX8_learnTables 3 none ∈ wsL := in_T 312 (by decide +kernel) (by decide +kernel)
theorem wm_X8_learnTables : Cond.instanceMethod yX8_learnTables ∈ wsL := in_T 311 (by decide +kernel) (by decide +kernel)
theorem ws_X8_learnTables : Cond.selects yX8_learnTables.cls yX8_learnTables yX8_learnTables ∈ wsL := in_S 4 (by decide +kernel) (by decide +kernel)
theorem wc_X8_learnMix : Cond.code yX8_learnMix cX8_learnMix 1 none ∈ wsL := in_T 403 (by decide +kernel) (by decide +kernel)
theorem wm_X8_learnMix : Cond.instanceMethod yX8_learnMix ∈ wsL := in_T 402 (by decide +kernel) (by decide +kernel)
theorem ws_X8_learnMix : Cond.selects yX8_learnMix.cls yX8_learnMix yX8_learnMix ∈ wsL := in_S 12 (by decide +kernel) (by decide +kernel)
theorem wc_X8_tableOf : Cond.code yX8_tableOf cX8_tableOf 3 (some .int) ∈ wsL := in_T 343 (by decide +kernel) (by decide +kernel)
theorem wm_X8_tableOf : Cond.instanceMethod yX8_tableOf ∈ wsL := in_T 342 (by decide +kernel) (by decide +kernel)
theorem ws_X8_tableOf : Cond.selects yX8_tableOf.cls yX8_tableOf yX8_tableOf ∈ wsL := in_S 9 (by decide +kernel) (by decide +kernel)
theorem wc_X8_learnTablesWithout : Cond.code yX8_learnTablesWithout cX8_learnTablesWithout 4 none ∈ wsL := in_T 475 (by decide +kernel) (by decide +kernel)
theorem wm_X8_learnTablesWithout : Cond.instanceMethod yX8_learnTablesWithout ∈ wsL := in_T 474 (by decide +kernel) (by decide +kernel)
theorem ws_X8_learnTablesWithout : Cond.selects yX8_learnTablesWithout.cls yX8_learnTablesWithout yX8_learnTablesWithout ∈ wsL := in_S 22 (by decide +kernel) (by decide +kernel)
theorem wc_X8_isMixWithin : Cond.code yX8_isMixWithin cX8_isMixWithin 6 (some .boolean) ∈ wsL := in_T 487 (by decide +kernel) (by decide +kernel)
theorem wm_X8_isMixWithin : Cond.instanceMethod yX8_isMixWithin ∈ wsL := in_T 486 (by decide +kernel) (by decide +kernel)
theorem ws_X8_isMixWithin : Cond.selects yX8_isMixWithin.cls yX8_isMixWithin yX8_isMixWithin ∈ wsL := in_S 23 (by decide +kernel) (by decide +kernel)
theorem wc_X8_learnTrialTables : Cond.code yX8_learnTrialTables cX8_learnTrialTables 5 none ∈ wsL := in_T 491 (by decide +kernel) (by decide +kernel)
theorem wm_X8_learnTrialTables : Cond.instanceMethod yX8_learnTrialTables ∈ wsL := in_T 490 (by decide +kernel) (by decide +kernel)
theorem ws_X8_learnTrialTables : Cond.selects yX8_learnTrialTables.cls yX8_learnTrialTables yX8_learnTrialTables ∈ wsL := in_S 24 (by decide +kernel) (by decide +kernel)
theorem wc_X8_trialPlan : Cond.code yX8_trialPlan cX8_trialPlan 3 (some (.object "DeckBalance$Plan")) ∈ wsL := in_T 499 (by decide +kernel) (by decide +kernel)
theorem wm_X8_trialPlan : Cond.instanceMethod yX8_trialPlan ∈ wsL := in_T 498 (by decide +kernel) (by decide +kernel)
theorem ws_X8_trialPlan : Cond.selects yX8_trialPlan.cls yX8_trialPlan yX8_trialPlan ∈ wsL := in_S 26 (by decide +kernel) (by decide +kernel)
theorem wc_X8_hasCard : Cond.code yX8_hasCard cX8_hasCard 3 (some .boolean) ∈ wsL := in_T 495 (by decide +kernel) (by decide +kernel)
theorem wm_X8_hasCard : Cond.instanceMethod yX8_hasCard ∈ wsL := in_T 494 (by decide +kernel) (by decide +kernel)
theorem ws_X8_hasCard : Cond.selects yX8_hasCard.cls yX8_hasCard yX8_hasCard ∈ wsL := in_S 25 (by decide +kernel) (by decide +kernel)
theorem wc_X9_init : Cond.code yX9_init cX9_init 1 none ∈ wsL := in_T 520 (by decide +kernel) (by decide +kernel)
theorem wm_X9_init : Cond.instanceMethod yX9_init ∈ wsL := in_T 519 (by decide +kernel) (by decide +kernel)
theorem wc_X9_in : Cond.code yX9_in cX9_in 3 (some .boolean) ∈ wsL := in_T 608 (by decide +kernel) (by decide +kernel)
theorem wt_X9_in : Cond.static yX9_in ∈ wsL := in_T 607 (by decide +kernel) (by decide +kernel)
theorem wc_X9_isCard : Cond.code yX9_isCard cX9_isCard 2 (some .boolean) ∈ wsL := in_T 616 (by decide +kernel) (by decide +kernel)
theorem wm_X9_isCard : Cond.instanceMethod yX9_isCard ∈ wsL := in_T 615 (by decide +kernel) (by decide +kernel)
theorem ws_X9_isCard : Cond.selects yX9_isCard.cls yX9_isCard yX9_isCard ∈ wsL := in_S 28 (by decide +kernel) (by decide +kernel)
theorem wc_X9_isDeck : Cond.code yX9_isDeck cX9_isDeck 2 (some .boolean) ∈ wsL := in_T 628 (by decide +kernel) (by decide +kernel)
theorem wm_X9_isDeck : Cond.instanceMethod yX9_isDeck ∈ wsL := in_T 627 (by decide +kernel) (by decide +kernel)
theorem ws_X9_isDeck : Cond.selects yX9_isDeck.cls yX9_isDeck yX9_isDeck ∈ wsL := in_S 29 (by decide +kernel) (by decide +kernel)
theorem wc_X9_card : Cond.code yX9_card cX9_card 4 (some .int) ∈ wsL := in_T 605 (by decide +kernel) (by decide +kernel)
theorem wm_X9_card : Cond.instanceMethod yX9_card ∈ wsL := in_T 603 (by decide +kernel) (by decide +kernel)
theorem ws_X9_card : Cond.selects yX9_card.cls yX9_card yX9_card ∈ wsL := in_T 604 (by decide +kernel) (by decide +kernel)
theorem wc_X9_power : Cond.code yX9_power cX9_power 4 (some .int) ∈ wsL := in_T 612 (by decide +kernel) (by decide +kernel)
theorem wm_X9_power : Cond.instanceMethod yX9_power ∈ wsL := in_T 610 (by decide +kernel) (by decide +kernel)
theorem ws_X9_power : Cond.selects yX9_power.cls yX9_power yX9_power ∈ wsL := in_T 611 (by decide +kernel) (by decide +kernel)
theorem wc_X9_deck : Cond.code yX9_deck cX9_deck 1 (some .int) ∈ wsL := in_T 620 (by decide +kernel) (by decide +kernel)
theorem wm_X9_deck : Cond.instanceMethod yX9_deck ∈ wsL := in_T 618 (by decide +kernel) (by decide +kernel)
theorem ws_X9_deck : Cond.selects yX9_deck.cls yX9_deck yX9_deck ∈ wsL := in_T 619 (by decide +kernel) (by decide +kernel)
theorem wc_X9_add : Cond.code yX9_add cX9_add 3 (some .int) ∈ wsL := in_T 624 (by decide +kernel) (by decide +kernel)
theorem wm_X9_add : Cond.instanceMethod yX9_add ∈ wsL := in_T 622 (by decide +kernel) (by decide +kernel)
theorem ws_X9_add : Cond.selects yX9_add.cls yX9_add yX9_add ∈ wsL := in_T 623 (by decide +kernel) (by decide +kernel)
theorem wc_X9_isPlace : Cond.code yX9_isPlace cX9_isPlace 3 (some .boolean) ∈ wsL := in_T 636 (by decide +kernel) (by decide +kernel)
theorem wm_X9_isPlace : Cond.instanceMethod yX9_isPlace ∈ wsL := in_T 635 (by decide +kernel) (by decide +kernel)
theorem ws_X9_isPlace : Cond.selects yX9_isPlace.cls yX9_isPlace yX9_isPlace ∈ wsL := in_S 30 (by decide +kernel) (by decide +kernel)
theorem wc_X9_dropAt : Cond.code yX9_dropAt cX9_dropAt 4 none ∈ wsL := in_T 640 (by decide +kernel) (by decide +kernel)
theorem wm_X9_dropAt : Cond.instanceMethod yX9_dropAt ∈ wsL := in_T 639 (by decide +kernel) (by decide +kernel)
theorem ws_X9_dropAt : Cond.selects yX9_dropAt.cls yX9_dropAt yX9_dropAt ∈ wsL := in_S 31 (by decide +kernel) (by decide +kernel)
theorem wc_X9_drop : Cond.code yX9_drop cX9_drop 4 (some .int) ∈ wsL := in_T 632 (by decide +kernel) (by decide +kernel)
theorem wm_X9_drop : Cond.instanceMethod yX9_drop ∈ wsL := in_T 630 (by decide +kernel) (by decide +kernel)
theorem ws_X9_drop : Cond.selects yX9_drop.cls yX9_drop yX9_drop ∈ wsL := in_T 631 (by decide +kernel) (by decide +kernel)
theorem wc_X9_swap : Cond.code yX9_swap cX9_swap 5 (some .int) ∈ wsL := in_T 644 (by decide +kernel) (by decide +kernel)
theorem wm_X9_swap : Cond.instanceMethod yX9_swap ∈ wsL := in_T 642 (by decide +kernel) (by decide +kernel)
theorem ws_X9_swap : Cond.selects yX9_swap.cls yX9_swap yX9_swap ∈ wsL := in_T 643 (by decide +kernel) (by decide +kernel)
theorem wc_X9_at : Cond.code yX9_at cX9_at 3 (some .int) ∈ wsL := in_T 648 (by decide +kernel) (by decide +kernel)
theorem wm_X9_at : Cond.instanceMethod yX9_at ∈ wsL := in_T 646 (by decide +kernel) (by decide +kernel)
theorem ws_X9_at : Cond.selects yX9_at.cls yX9_at yX9_at ∈ wsL := in_T 647 (by decide +kernel) (by decide +kernel)
theorem wc_X9_life : Cond.code yX9_life cX9_life 3 (some .int) ∈ wsL := in_T 652 (by decide +kernel) (by decide +kernel)
theorem wm_X9_life : Cond.instanceMethod yX9_life ∈ wsL := in_T 650 (by decide +kernel) (by decide +kernel)
theorem ws_X9_life : Cond.selects yX9_life.cls yX9_life yX9_life ∈ wsL := in_T 651 (by decide +kernel) (by decide +kernel)
theorem wc_X9_isOver : Cond.code yX9_isOver cX9_isOver 1 (some .boolean) ∈ wsL := in_T 668 (by decide +kernel) (by decide +kernel)
theorem wm_X9_isOver : Cond.instanceMethod yX9_isOver ∈ wsL := in_T 667 (by decide +kernel) (by decide +kernel)
theorem ws_X9_isOver : Cond.selects yX9_isOver.cls yX9_isOver yX9_isOver ∈ wsL := in_S 34 (by decide +kernel) (by decide +kernel)
theorem wc_X9_nextCard : Cond.code yX9_nextCard cX9_nextCard 6 (some .int) ∈ wsL := in_T 676 (by decide +kernel) (by decide +kernel)
theorem wm_X9_nextCard : Cond.instanceMethod yX9_nextCard ∈ wsL := in_T 675 (by decide +kernel) (by decide +kernel)
theorem ws_X9_nextCard : Cond.selects yX9_nextCard.cls yX9_nextCard yX9_nextCard ∈ wsL := in_S 36 (by decide +kernel) (by decide +kernel)
theorem wc_X9_playCard : Cond.code yX9_playCard cX9_playCard 3 none ∈ wsL := in_T 680 (by decide +kernel) (by decide +kernel)
theorem wm_X9_playCard : Cond.instanceMethod yX9_playCard ∈ wsL := in_T 679 (by decide +kernel) (by decide +kernel)
theorem ws_X9_playCard : Cond.selects yX9_playCard.cls yX9_playCard yX9_playCard ∈ wsL := in_S 37 (by decide +kernel) (by decide +kernel)
theorem wc_X9_move : Cond.code yX9_move cX9_move 6 none ∈ wsL := in_T 672 (by decide +kernel) (by decide +kernel)
theorem wm_X9_move : Cond.instanceMethod yX9_move ∈ wsL := in_T 671 (by decide +kernel) (by decide +kernel)
theorem ws_X9_move : Cond.selects yX9_move.cls yX9_move yX9_move ∈ wsL := in_S 35 (by decide +kernel) (by decide +kernel)
theorem wc_X9_game : Cond.code yX9_game cX9_game 4 none ∈ wsL := in_T 664 (by decide +kernel) (by decide +kernel)
theorem wm_X9_game : Cond.instanceMethod yX9_game ∈ wsL := in_T 663 (by decide +kernel) (by decide +kernel)
theorem ws_X9_game : Cond.selects yX9_game.cls yX9_game yX9_game ∈ wsL := in_S 33 (by decide +kernel) (by decide +kernel)
theorem wc_X9_result : Cond.code yX9_result cX9_result 3 (some .int) ∈ wsL := in_T 660 (by decide +kernel) (by decide +kernel)
theorem wm_X9_result : Cond.instanceMethod yX9_result ∈ wsL := in_T 659 (by decide +kernel) (by decide +kernel)
theorem ws_X9_result : Cond.selects yX9_result.cls yX9_result yX9_result ∈ wsL := in_S 32 (by decide +kernel) (by decide +kernel)
theorem wc_X9_play : Cond.code yX9_play cX9_play 3 (some .int) ∈ wsL := in_T 656 (by decide +kernel) (by decide +kernel)
theorem wm_X9_play : Cond.instanceMethod yX9_play ∈ wsL := in_T 654 (by decide +kernel) (by decide +kernel)
theorem ws_X9_play : Cond.selects yX9_play.cls yX9_play yX9_play ∈ wsL := in_T 655 (by decide +kernel) (by decide +kernel)
theorem wc_X9_told : Cond.code yX9_told cX9_told 4 (some .int) ∈ wsL := in_T 684 (by decide +kernel) (by decide +kernel)
theorem wm_X9_told : Cond.instanceMethod yX9_told ∈ wsL := in_T 682 (by decide +kernel) (by decide +kernel)
theorem ws_X9_told : Cond.selects yX9_told.cls yX9_told yX9_told ∈ wsL := in_T 683 (by decide +kernel) (by decide +kernel)
theorem wc_X9_tableOf : Cond.code yX9_tableOf cX9_tableOf 3 (some .int) ∈ wsL := in_T 693 (by decide +kernel) (by decide +kernel)
theorem wm_X9_tableOf : Cond.instanceMethod yX9_tableOf ∈ wsL := in_T 692 (by decide +kernel) (by decide +kernel)
theorem ws_X9_tableOf : Cond.selects yX9_tableOf.cls yX9_tableOf yX9_tableOf ∈ wsL := in_S 38 (by decide +kernel) (by decide +kernel)
theorem wc_X9_table : Cond.code yX9_table cX9_table 3 (some .int) ∈ wsL := in_T 689 (by decide +kernel) (by decide +kernel)
theorem wm_X9_table : Cond.instanceMethod yX9_table ∈ wsL := in_T 687 (by decide +kernel) (by decide +kernel)
theorem ws_X9_table : Cond.selects yX9_table.cls yX9_table yX9_table ∈ wsL := in_T 688 (by decide +kernel) (by decide +kernel)
theorem wc_X9_layTables : Cond.code yX9_layTables cX9_layTables 3 none ∈ wsL := in_T 705 (by decide +kernel) (by decide +kernel)
theorem wm_X9_layTables : Cond.instanceMethod yX9_layTables ∈ wsL := in_T 704 (by decide +kernel) (by decide +kernel)
theorem ws_X9_layTables : Cond.selects yX9_layTables.cls yX9_layTables yX9_layTables ∈ wsL := in_S 40 (by decide +kernel) (by decide +kernel)
theorem wc_X9_beats : Cond.code yX9_beats cX9_beats 3 (some .boolean) ∈ wsL := in_T 709 (by decide +kernel) (by decide +kernel)
theorem wm_X9_beats : Cond.instanceMethod yX9_beats ∈ wsL := in_T 708 (by decide +kernel) (by decide +kernel)
theorem ws_X9_beats : Cond.selects yX9_beats.cls yX9_beats yX9_beats ∈ wsL := in_S 41 (by decide +kernel) (by decide +kernel)
theorem wc_X9_findRings : Cond.code yX9_findRings cX9_findRings 6 (some .int) ∈ wsL := in_T 701 (by decide +kernel) (by decide +kernel)
theorem wm_X9_findRings : Cond.instanceMethod yX9_findRings ∈ wsL := in_T 700 (by decide +kernel) (by decide +kernel)
theorem ws_X9_findRings : Cond.selects yX9_findRings.cls yX9_findRings yX9_findRings ∈ wsL := in_S 39 (by decide +kernel) (by decide +kernel)
theorem wc_X9_rings : Cond.code yX9_rings cX9_rings 1 (some .int) ∈ wsL := in_T 697 (by decide +kernel) (by decide +kernel)
theorem wm_X9_rings : Cond.instanceMethod yX9_rings ∈ wsL := in_T 695 (by decide +kernel) (by decide +kernel)
theorem ws_X9_rings : Cond.selects yX9_rings.cls yX9_rings yX9_rings ∈ wsL := in_T 696 (by decide +kernel) (by decide +kernel)
theorem wc_X9_ring : Cond.code yX9_ring cX9_ring 3 (some .int) ∈ wsL := in_T 713 (by decide +kernel) (by decide +kernel)
theorem wm_X9_ring : Cond.instanceMethod yX9_ring ∈ wsL := in_T 711 (by decide +kernel) (by decide +kernel)
theorem ws_X9_ring : Cond.selects yX9_ring.cls yX9_ring yX9_ring ∈ wsL := in_T 712 (by decide +kernel) (by decide +kernel)
theorem wc_X9_divisor : Cond.code yX9_divisor cX9_divisor 10 (some .long) ∈ wsL := in_T 745 (by decide +kernel) (by decide +kernel)
theorem wt_X9_divisor : Cond.static yX9_divisor ∈ wsL := in_T 744 (by decide +kernel) (by decide +kernel)
theorem wc_X9_layBounds : Cond.code yX9_layBounds cX9_layBounds 5 none ∈ wsL := in_T 730 (by decide +kernel) (by decide +kernel)
theorem wm_X9_layBounds : Cond.instanceMethod yX9_layBounds ∈ wsL := in_T 729 (by decide +kernel) (by decide +kernel)
theorem ws_X9_layBounds : Cond.selects yX9_layBounds.cls yX9_layBounds yX9_layBounds ∈ wsL := in_S 43 (by decide +kernel) (by decide +kernel)
theorem wc_X9_changeRows : Cond.code yX9_changeRows cX9_changeRows 6 none ∈ wsL := in_T 738 (by decide +kernel) (by decide +kernel)
theorem wm_X9_changeRows : Cond.instanceMethod yX9_changeRows ∈ wsL := in_T 737 (by decide +kernel) (by decide +kernel)
theorem ws_X9_changeRows : Cond.selects yX9_changeRows.cls yX9_changeRows yX9_changeRows ∈ wsL := in_S 45 (by decide +kernel) (by decide +kernel)
theorem wc_X9_clearRow : Cond.code yX9_clearRow cX9_clearRow 11 none ∈ wsL := in_T 742 (by decide +kernel) (by decide +kernel)
theorem wm_X9_clearRow : Cond.instanceMethod yX9_clearRow ∈ wsL := in_T 741 (by decide +kernel) (by decide +kernel)
theorem ws_X9_clearRow : Cond.selects yX9_clearRow.cls yX9_clearRow yX9_clearRow ∈ wsL := in_S 46 (by decide +kernel) (by decide +kernel)
theorem wc_X9_solve : Cond.code yX9_solve cX9_solve 8 (some .boolean) ∈ wsL := in_T 734 (by decide +kernel) (by decide +kernel)
theorem wm_X9_solve : Cond.instanceMethod yX9_solve ∈ wsL := in_T 733 (by decide +kernel) (by decide +kernel)
theorem ws_X9_solve : Cond.selects yX9_solve.cls yX9_solve yX9_solve ∈ wsL := in_S 44 (by decide +kernel) (by decide +kernel)
theorem wc_X9_holds : Cond.code yX9_holds cX9_holds 8 (some .boolean) ∈ wsL := in_T 749 (by decide +kernel) (by decide +kernel)
theorem wm_X9_holds : Cond.instanceMethod yX9_holds ∈ wsL := in_T 748 (by decide +kernel) (by decide +kernel)
theorem ws_X9_holds : Cond.selects yX9_holds.cls yX9_holds yX9_holds ∈ wsL := in_S 47 (by decide +kernel) (by decide +kernel)
theorem wc_X9_isGreater : Cond.code yX9_isGreater cX9_isGreater 4 (some .boolean) ∈ wsL := in_T 753 (by decide +kernel) (by decide +kernel)
theorem wm_X9_isGreater : Cond.instanceMethod yX9_isGreater ∈ wsL := in_T 752 (by decide +kernel) (by decide +kernel)
theorem ws_X9_isGreater : Cond.selects yX9_isGreater.cls yX9_isGreater yX9_isGreater ∈ wsL := in_S 48 (by decide +kernel) (by decide +kernel)
theorem wc_X9_ones : Cond.code yX9_ones cX9_ones 3 (some .int) ∈ wsL := in_T 726 (by decide +kernel) (by decide +kernel)
theorem wt_X9_ones : Cond.static yX9_ones ∈ wsL := in_T 725 (by decide +kernel) (by decide +kernel)
theorem wc_X9_findMix : Cond.code yX9_findMix cX9_findMix 3 none ∈ wsL := in_T 722 (by decide +kernel) (by decide +kernel)
theorem wm_X9_findMix : Cond.instanceMethod yX9_findMix ∈ wsL := in_T 721 (by decide +kernel) (by decide +kernel)
theorem ws_X9_findMix : Cond.selects yX9_findMix.cls yX9_findMix yX9_findMix ∈ wsL := in_S 42 (by decide +kernel) (by decide +kernel)
theorem wc_X9_share : Cond.code yX9_share cX9_share 3 (some .long) ∈ wsL := in_T 717 (by decide +kernel) (by decide +kernel)
theorem wm_X9_share : Cond.instanceMethod yX9_share ∈ wsL := in_T 715 (by decide +kernel) (by decide +kernel)
theorem ws_X9_share : Cond.selects yX9_share.cls yX9_share yX9_share ∈ wsL := in_T 716 (by decide +kernel) (by decide +kernel)
theorem wc_X9_live : Cond.code yX9_live cX9_live 3 (some .int) ∈ wsL := in_T 757 (by decide +kernel) (by decide +kernel)
theorem wm_X9_live : Cond.instanceMethod yX9_live ∈ wsL := in_T 755 (by decide +kernel) (by decide +kernel)
theorem ws_X9_live : Cond.selects yX9_live.cls yX9_live yX9_live ∈ wsL := in_T 756 (by decide +kernel) (by decide +kernel)
theorem wc_X9_standingOf : Cond.code yX9_standingOf cX9_standingOf 4 (some .int) ∈ wsL := in_T 765 (by decide +kernel) (by decide +kernel)
theorem wm_X9_standingOf : Cond.instanceMethod yX9_standingOf ∈ wsL := in_T 764 (by decide +kernel) (by decide +kernel)
theorem ws_X9_standingOf : Cond.selects yX9_standingOf.cls yX9_standingOf yX9_standingOf ∈ wsL := in_S 49 (by decide +kernel) (by decide +kernel)
theorem wc_X9_standing : Cond.code yX9_standing cX9_standing 2 (some .int) ∈ wsL := in_T 761 (by decide +kernel) (by decide +kernel)
theorem wm_X9_standing : Cond.instanceMethod yX9_standing ∈ wsL := in_T 759 (by decide +kernel) (by decide +kernel)
theorem ws_X9_standing : Cond.selects yX9_standing.cls yX9_standing yX9_standing ∈ wsL := in_T 760 (by decide +kernel) (by decide +kernel)
theorem wc_X9_placeOf : Cond.code yX9_placeOf cX9_placeOf 4 (some .int) ∈ wsL := in_T 773 (by decide +kernel) (by decide +kernel)
theorem wm_X9_placeOf : Cond.instanceMethod yX9_placeOf ∈ wsL := in_T 772 (by decide +kernel) (by decide +kernel)
theorem ws_X9_placeOf : Cond.selects yX9_placeOf.cls yX9_placeOf yX9_placeOf ∈ wsL := in_S 50 (by decide +kernel) (by decide +kernel)
theorem wc_X9_putBack : Cond.code yX9_putBack cX9_putBack 5 none ∈ wsL := in_T 777 (by decide +kernel) (by decide +kernel)
theorem wm_X9_putBack : Cond.instanceMethod yX9_putBack ∈ wsL := in_T 776 (by decide +kernel) (by decide +kernel)
theorem ws_X9_putBack : Cond.selects yX9_putBack.cls yX9_putBack yX9_putBack ∈ wsL := in_S 51 (by decide +kernel) (by decide +kernel)
theorem wc_X9_worth : Cond.code yX9_worth cX9_worth 6 (some .int) ∈ wsL := in_T 769 (by decide +kernel) (by decide +kernel)
theorem wm_X9_worth : Cond.instanceMethod yX9_worth ∈ wsL := in_T 767 (by decide +kernel) (by decide +kernel)
theorem ws_X9_worth : Cond.selects yX9_worth.cls yX9_worth yX9_worth ∈ wsL := in_T 768 (by decide +kernel) (by decide +kernel)
theorem wc_X9_idle : Cond.code yX9_idle cX9_idle 6 (some .int) ∈ wsL := in_T 781 (by decide +kernel) (by decide +kernel)
theorem wm_X9_idle : Cond.instanceMethod yX9_idle ∈ wsL := in_T 779 (by decide +kernel) (by decide +kernel)
theorem ws_X9_idle : Cond.selects yX9_idle.cls yX9_idle yX9_idle ∈ wsL := in_T 780 (by decide +kernel) (by decide +kernel)
theorem wc_X9_isRemedied : Cond.code yX9_isRemedied cX9_isRemedied 5 (some .boolean) ∈ wsL := in_T 789 (by decide +kernel) (by decide +kernel)
theorem wm_X9_isRemedied : Cond.instanceMethod yX9_isRemedied ∈ wsL := in_T 788 (by decide +kernel) (by decide +kernel)
theorem ws_X9_isRemedied : Cond.selects yX9_isRemedied.cls yX9_isRemedied yX9_isRemedied ∈ wsL := in_S 52 (by decide +kernel) (by decide +kernel)
theorem wc_X9_remedy : Cond.code yX9_remedy cX9_remedy 9 (some .int) ∈ wsL := in_T 785 (by decide +kernel) (by decide +kernel)
theorem wm_X9_remedy : Cond.instanceMethod yX9_remedy ∈ wsL := in_T 783 (by decide +kernel) (by decide +kernel)
theorem ws_X9_remedy : Cond.selects yX9_remedy.cls yX9_remedy yX9_remedy ∈ wsL := in_T 784 (by decide +kernel) (by decide +kernel)
theorem wc_X9_count : Cond.code yX9_count cX9_count 4 (some .int) ∈ wsL := in_T 793 (by decide +kernel) (by decide +kernel)
theorem wm_X9_count : Cond.instanceMethod yX9_count ∈ wsL := in_T 791 (by decide +kernel) (by decide +kernel)
theorem ws_X9_count : Cond.selects yX9_count.cls yX9_count yX9_count ∈ wsL := in_T 792 (by decide +kernel) (by decide +kernel)
theorem wc_J6_compare_7cf53 : Cond.code yJ6_compare_7cf53 cJ6_compare_7cf53 2 (some .int) ∈ wsL := in_T 365 (by decide +kernel) (by decide +kernel)
theorem wt_J6_compare_7cf53 : Cond.static yJ6_compare_7cf53 ∈ wsL := in_T 364 (by decide +kernel) (by decide +kernel)
theorem wc_J6_bitCount_0f7a4 : Cond.code yJ6_bitCount_0f7a4 cJ6_bitCount_0f7a4 1 (some .int) ∈ wsL := in_T 414 (by decide +kernel) (by decide +kernel)
theorem wt_J6_bitCount_0f7a4 : Cond.static yJ6_bitCount_0f7a4 ∈ wsL := in_T 413 (by decide +kernel) (by decide +kernel)
theorem wc_J9_max_7cf53 : Cond.code yJ9_max_7cf53 cJ9_max_7cf53 2 (some .int) ∈ wsL := in_T 358 (by decide +kernel) (by decide +kernel)
theorem wt_J9_max_7cf53 : Cond.static yJ9_max_7cf53 ∈ wsL := in_T 357 (by decide +kernel) (by decide +kernel)
theorem wc_J9_min_7cf53 : Cond.code yJ9_min_7cf53 cJ9_min_7cf53 2 (some .int) ∈ wsL := in_T 323 (by decide +kernel) (by decide +kernel)
theorem wt_J9_min_7cf53 : Cond.static yJ9_min_7cf53 ∈ wsL := in_T 322 (by decide +kernel) (by decide +kernel)
theorem cl_L_7 : Cond.classLink RL 7 "DeckBalance" ∈ wsL := in_T 13 (by decide +kernel) (by decide +kernel)
theorem wn_X8 : Cond.instantiable RX8 12 ∈ wsL := in_T 14 (by decide +kernel) (by decide +kernel)
theorem ml_L_9 : Cond.methodLink RL 9 yX8_init ∈ wsL := in_T 15 (by decide +kernel) (by decide +kernel)
theorem cl_X8_7 : Cond.classLink RX8 7 "DeckBalance$CardBook" ∈ wsL := in_T 21 (by decide +kernel) (by decide +kernel)
theorem wn_X0 : Cond.instantiable RX0 4 ∈ wsL := in_T 22 (by decide +kernel) (by decide +kernel)
theorem cl_X8_16 : Cond.classLink RX8 16 "DeckBalance$Deck" ∈ wsL := in_T 46 (by decide +kernel) (by decide +kernel)
theorem wn_X2 : Cond.instantiable RX2 2 ∈ wsL := in_T 48 (by decide +kernel) (by decide +kernel)
theorem cl_X8_23 : Cond.classLink RX8 23 "DeckBalance$Game" ∈ wsL := in_T 64 (by decide +kernel) (by decide +kernel)
theorem wn_X3 : Cond.instantiable RX3 4 ∈ wsL := in_T 65 (by decide +kernel) (by decide +kernel)
theorem ml_X8_25 : Cond.methodLink RX8 25 yX3_init ∈ wsL := in_T 66 (by decide +kernel) (by decide +kernel)
theorem cl_X3_9 : Cond.classLink RX3 9 "DeckBalance$Side" ∈ wsL := in_T 70 (by decide +kernel) (by decide +kernel)
theorem wn_X7 : Cond.instantiable RX7 4 ∈ wsL := in_T 71 (by decide +kernel) (by decide +kernel)
theorem cl_X8_32 : Cond.classLink RX8 32 "DeckBalance$Contest" ∈ wsL := in_T 108 (by decide +kernel) (by decide +kernel)
theorem wn_X1 : Cond.instantiable RX1 3 ∈ wsL := in_T 109 (by decide +kernel) (by decide +kernel)
theorem ml_X8_34 : Cond.methodLink RX8 34 yX1_init ∈ wsL := in_T 110 (by decide +kernel) (by decide +kernel)
theorem cl_X1_9 : Cond.classLink RX1 9 "DeckBalance$Plan" ∈ wsL := in_T 114 (by decide +kernel) (by decide +kernel)
theorem cl_X1_17 : Cond.classLink RX1 17 "[[I" ∈ wsL := in_T 116 (by decide +kernel) (by decide +kernel)
theorem cl_X1_22 : Cond.classLink RX1 22 "DeckBalance$Mix" ∈ wsL := in_T 118 (by decide +kernel) (by decide +kernel)
theorem wn_X4 : Cond.instantiable RX4 6 ∈ wsL := in_T 119 (by decide +kernel) (by decide +kernel)
theorem wn_X5 : Cond.instantiable RX5 6 ∈ wsL := in_T 145 (by decide +kernel) (by decide +kernel)
theorem cl_X8_42 : Cond.classLink RX8 42 "DeckBalance$Rings" ∈ wsL := in_T 184 (by decide +kernel) (by decide +kernel)
theorem wn_X6 : Cond.instantiable RX6 2 ∈ wsL := in_T 185 (by decide +kernel) (by decide +kernel)
theorem cl_X8_49 : Cond.classLink RX8 49 "DeckBalance$Plan" ∈ wsL := in_T 199 (by decide +kernel) (by decide +kernel)
theorem ml_L_13 : Cond.methodLink RL 13 yX8_card ∈ wsL := in_T 238 (by decide +kernel) (by decide +kernel)
theorem ml_X8_64 : Cond.methodLink RX8 64 yX8_isOutside ∈ wsL := in_T 242 (by decide +kernel) (by decide +kernel)
theorem ml_X8_68 : Cond.methodLink RX8 68 yX0_enter ∈ wsL := in_T 245 (by decide +kernel) (by decide +kernel)
theorem ml_L_18 : Cond.methodLink RL 18 yX8_power ∈ wsL := in_T 249 (by decide +kernel) (by decide +kernel)
theorem ml_X8_72 : Cond.methodLink RX8 72 yX8_isNoCard ∈ wsL := in_T 253 (by decide +kernel) (by decide +kernel)
theorem ml_X8_79 : Cond.methodLink RX8 79 yX8_forgetTables ∈ wsL := in_T 257 (by decide +kernel) (by decide +kernel)
theorem ml_L_23 : Cond.methodLink RL 23 yX8_deck ∈ wsL := in_T 261 (by decide +kernel) (by decide +kernel)
theorem ml_L_28 : Cond.methodLink RL 28 yX8_add ∈ wsL := in_T 265 (by decide +kernel) (by decide +kernel)
theorem ml_X8_85 : Cond.methodLink RX8 85 yX8_isNoDeck ∈ wsL := in_T 269 (by decide +kernel) (by decide +kernel)
theorem ml_X8_88 : Cond.methodLink RX8 88 yX2_append ∈ wsL := in_T 273 (by decide +kernel) (by decide +kernel)
theorem ml_L_32 : Cond.methodLink RL 32 yX8_drop ∈ wsL := in_T 277 (by decide +kernel) (by decide +kernel)
theorem ml_X8_92 : Cond.methodLink RX8 92 yX8_isNoPlace ∈ wsL := in_T 281 (by decide +kernel) (by decide +kernel)
theorem ml_X8_96 : Cond.methodLink RX8 96 yX2_takeOut ∈ wsL := in_T 285 (by decide +kernel) (by decide +kernel)
theorem ml_L_36 : Cond.methodLink RL 36 yX8_swap ∈ wsL := in_T 289 (by decide +kernel) (by decide +kernel)
theorem ml_X8_99 : Cond.methodLink RX8 99 yX2_exchange ∈ wsL := in_T 293 (by decide +kernel) (by decide +kernel)
theorem ml_L_40 : Cond.methodLink RL 40 yX8_at ∈ wsL := in_T 297 (by decide +kernel) (by decide +kernel)
theorem ml_L_44 : Cond.methodLink RL 44 yX8_life ∈ wsL := in_T 301 (by decide +kernel) (by decide +kernel)
theorem ml_L_49 : Cond.methodLink RL 49 yX8_play ∈ wsL := in_T 305 (by decide +kernel) (by decide +kernel)
theorem ml_X8_106 : Cond.methodLink RX8 106 yX8_learnTables ∈ wsL := in_T 309 (by decide +kernel) (by decide +kernel)
theorem ml_X8_193 : Cond.methodLink RX8 193 yX5_lay ∈ wsL := in_T 313 (by decide +kernel) (by decide +kernel)
theorem ml_X5_31 : Cond.methodLink RX5 31 yX5_draw ∈ wsL := in_T 317 (by decide +kernel) (by decide +kernel)
theorem ml_X5_35 : Cond.methodLink RX5 35 yJ9_min_7cf53 ∈ wsL := in_T 321 (by decide +kernel) (by decide +kernel)
theorem ml_X5_41 : Cond.methodLink RX5 41 yX5_playHand ∈ wsL := in_T 324 (by decide +kernel) (by decide +kernel)
theorem ml_X5_53 : Cond.methodLink RX5 53 yX5_nextPlace ∈ wsL := in_T 328 (by decide +kernel) (by decide +kernel)
theorem ml_X5_66 : Cond.methodLink RX5 66 yX0_isPlayedAhead ∈ wsL := in_T 332 (by decide +kernel) (by decide +kernel)
theorem ml_X5_62 : Cond.methodLink RX5 62 yX5_putDown ∈ wsL := in_T 336 (by decide +kernel) (by decide +kernel)
theorem ml_X8_197 : Cond.methodLink RX8 197 yX8_tableOf ∈ wsL := in_T 340 (by decide +kernel) (by decide +kernel)
theorem ml_X8_113 : Cond.methodLink RX8 113 yX3_resultOf ∈ wsL := in_T 344 (by decide +kernel) (by decide +kernel)
theorem ml_X3_25 : Cond.methodLink RX3 25 yX7_begin ∈ wsL := in_T 348 (by decide +kernel) (by decide +kernel)
theorem ml_X3_33 : Cond.methodLink RX3 33 yX7_defeats ∈ wsL := in_T 352 (by decide +kernel) (by decide +kernel)
theorem ml_X7_24 : Cond.methodLink RX7 24 yJ9_max_7cf53 ∈ wsL := in_T 356 (by decide +kernel) (by decide +kernel)
theorem ml_X7_39 : Cond.methodLink RX7 39 yX7_put ∈ wsL := in_T 359 (by decide +kernel) (by decide +kernel)
theorem ml_X3_40 : Cond.methodLink RX3 40 yJ6_compare_7cf53 ∈ wsL := in_T 363 (by decide +kernel) (by decide +kernel)
theorem ml_X8_201 : Cond.methodLink RX8 201 yX1_enter ∈ wsL := in_T 366 (by decide +kernel) (by decide +kernel)
theorem ml_X8_204 : Cond.methodLink RX8 204 yX6_find ∈ wsL := in_T 370 (by decide +kernel) (by decide +kernel)
theorem ml_X6_19 : Cond.methodLink RX6 19 yX6_findThird ∈ wsL := in_T 374 (by decide +kernel) (by decide +kernel)
theorem ml_L_53 : Cond.methodLink RL 53 yX8_told ∈ wsL := in_T 378 (by decide +kernel) (by decide +kernel)
theorem ck_X8_117 : Cond.constant RX8 117 (-2147483648) ∈ wsL := in_T 382 (by decide +kernel) (by decide +kernel)
theorem ml_L_57 : Cond.methodLink RL 57 yX8_table ∈ wsL := in_T 383 (by decide +kernel) (by decide +kernel)
theorem ml_L_61 : Cond.methodLink RL 61 yX8_rings ∈ wsL := in_T 387 (by decide +kernel) (by decide +kernel)
theorem ml_L_65 : Cond.methodLink RL 65 yX8_ring ∈ wsL := in_T 391 (by decide +kernel) (by decide +kernel)
theorem ml_L_69 : Cond.methodLink RL 69 yX8_share ∈ wsL := in_T 395 (by decide +kernel) (by decide +kernel)
theorem ck_X8_145 : Cond.constantLong RX8 145 (-2) ∈ wsL := in_T 399 (by decide +kernel) (by decide +kernel)
theorem ml_X8_147 : Cond.methodLink RX8 147 yX8_learnMix ∈ wsL := in_T 400 (by decide +kernel) (by decide +kernel)
theorem ml_X8_208 : Cond.methodLink RX8 208 yX4_find ∈ wsL := in_T 404 (by decide +kernel) (by decide +kernel)
theorem ml_X4_28 : Cond.methodLink RX4 28 yX4_findMinors ∈ wsL := in_T 408 (by decide +kernel) (by decide +kernel)
theorem ml_X4_32 : Cond.methodLink RX4 32 yJ6_bitCount_0f7a4 ∈ wsL := in_T 412 (by decide +kernel) (by decide +kernel)
theorem ck_J6_265 : Cond.constant RJ6 265 (1431655765) ∈ wsL := in_T 415 (by decide +kernel) (by decide +kernel)
theorem ck_J6_266 : Cond.constant RJ6 266 (858993459) ∈ wsL := in_T 416 (by decide +kernel) (by decide +kernel)
theorem ck_J6_267 : Cond.constant RJ6 267 (252645135) ∈ wsL := in_T 417 (by decide +kernel) (by decide +kernel)
theorem ml_X4_53 : Cond.methodLink RX4 53 yX4_minorOf ∈ wsL := in_T 418 (by decide +kernel) (by decide +kernel)
theorem ml_X4_57 : Cond.methodLink RX4 57 yX4_leastOf ∈ wsL := in_T 422 (by decide +kernel) (by decide +kernel)
theorem ml_X4_60 : Cond.methodLink RX4 60 yX4_isIn ∈ wsL := in_T 426 (by decide +kernel) (by decide +kernel)
theorem ml_X4_38 : Cond.methodLink RX4 38 yX4_tryCorner ∈ wsL := in_T 429 (by decide +kernel) (by decide +kernel)
theorem ml_X4_66 : Cond.methodLink RX4 66 yX4_turnSigns ∈ wsL := in_T 433 (by decide +kernel) (by decide +kernel)
theorem ml_X4_42 : Cond.methodLink RX4 42 yX4_isHolding ∈ wsL := in_T 437 (by decide +kernel) (by decide +kernel)
theorem ml_X4_46 : Cond.methodLink RX4 46 yX4_isGreater ∈ wsL := in_T 441 (by decide +kernel) (by decide +kernel)
theorem ml_X4_50 : Cond.methodLink RX4 50 yX4_takeTried ∈ wsL := in_T 445 (by decide +kernel) (by decide +kernel)
theorem ml_X8_162 : Cond.methodLink RX8 162 yX8_greatestDivisor ∈ wsL := in_T 449 (by decide +kernel) (by decide +kernel)
theorem ml_L_74 : Cond.methodLink RL 74 yX8_live ∈ wsL := in_T 452 (by decide +kernel) (by decide +kernel)
theorem ml_L_78 : Cond.methodLink RL 78 yX8_standing ∈ wsL := in_T 456 (by decide +kernel) (by decide +kernel)
theorem ml_X8_166 : Cond.methodLink RX8 166 yX8_sumOf ∈ wsL := in_T 460 (by decide +kernel) (by decide +kernel)
theorem ml_L_82 : Cond.methodLink RL 82 yX8_worth ∈ wsL := in_T 464 (by decide +kernel) (by decide +kernel)
theorem ml_X8_170 : Cond.methodLink RX8 170 yX2_firstPlaceOf ∈ wsL := in_T 468 (by decide +kernel) (by decide +kernel)
theorem ml_X8_173 : Cond.methodLink RX8 173 yX8_learnTablesWithout ∈ wsL := in_T 472 (by decide +kernel) (by decide +kernel)
theorem ml_L_86 : Cond.methodLink RL 86 yX8_idle ∈ wsL := in_T 476 (by decide +kernel) (by decide +kernel)
theorem ml_L_90 : Cond.methodLink RL 90 yX8_remedy ∈ wsL := in_T 480 (by decide +kernel) (by decide +kernel)
theorem ml_X8_177 : Cond.methodLink RX8 177 yX8_isMixWithin ∈ wsL := in_T 484 (by decide +kernel) (by decide +kernel)
theorem ml_X8_209 : Cond.methodLink RX8 209 yX8_learnTrialTables ∈ wsL := in_T 488 (by decide +kernel) (by decide +kernel)
theorem ml_X8_220 : Cond.methodLink RX8 220 yX8_hasCard ∈ wsL := in_T 492 (by decide +kernel) (by decide +kernel)
theorem ml_X8_223 : Cond.methodLink RX8 223 yX8_trialPlan ∈ wsL := in_T 496 (by decide +kernel) (by decide +kernel)
theorem ml_X8_213 : Cond.methodLink RX8 213 yX1_hasTablesOf ∈ wsL := in_T 500 (by decide +kernel) (by decide +kernel)
theorem ml_X8_217 : Cond.methodLink RX8 217 yX4_isWithin ∈ wsL := in_T 504 (by decide +kernel) (by decide +kernel)
theorem ml_L_94 : Cond.methodLink RL 94 yX8_count ∈ wsL := in_T 508 (by decide +kernel) (by decide +kernel)
theorem ml_X8_181 : Cond.methodLink RX8 181 yX8_cardsInDecks ∈ wsL := in_T 512 (by decide +kernel) (by decide +kernel)
theorem cl_L_10 : Cond.classLink RL 10 "DeckBalanceModel" ∈ wsL := in_T 516 (by decide +kernel) (by decide +kernel)
theorem wn_X9 : Cond.instantiable RX9 26 ∈ wsL := in_T 517 (by decide +kernel) (by decide +kernel)
theorem ml_L_12 : Cond.methodLink RL 12 yX9_init ∈ wsL := in_T 518 (by decide +kernel) (by decide +kernel)
theorem ml_L_17 : Cond.methodLink RL 17 yX9_card ∈ wsL := in_T 602 (by decide +kernel) (by decide +kernel)
theorem ml_X9_75 : Cond.methodLink RX9 75 yX9_in ∈ wsL := in_T 606 (by decide +kernel) (by decide +kernel)
theorem ml_L_22 : Cond.methodLink RL 22 yX9_power ∈ wsL := in_T 609 (by decide +kernel) (by decide +kernel)
theorem ml_X9_82 : Cond.methodLink RX9 82 yX9_isCard ∈ wsL := in_T 613 (by decide +kernel) (by decide +kernel)
theorem ml_L_27 : Cond.methodLink RL 27 yX9_deck ∈ wsL := in_T 617 (by decide +kernel) (by decide +kernel)
theorem ml_L_31 : Cond.methodLink RL 31 yX9_add ∈ wsL := in_T 621 (by decide +kernel) (by decide +kernel)
theorem ml_X9_86 : Cond.methodLink RX9 86 yX9_isDeck ∈ wsL := in_T 625 (by decide +kernel) (by decide +kernel)
theorem ml_L_35 : Cond.methodLink RL 35 yX9_drop ∈ wsL := in_T 629 (by decide +kernel) (by decide +kernel)
theorem ml_X9_89 : Cond.methodLink RX9 89 yX9_isPlace ∈ wsL := in_T 633 (by decide +kernel) (by decide +kernel)
theorem ml_X9_93 : Cond.methodLink RX9 93 yX9_dropAt ∈ wsL := in_T 637 (by decide +kernel) (by decide +kernel)
theorem ml_L_39 : Cond.methodLink RL 39 yX9_swap ∈ wsL := in_T 641 (by decide +kernel) (by decide +kernel)
theorem ml_L_43 : Cond.methodLink RL 43 yX9_at ∈ wsL := in_T 645 (by decide +kernel) (by decide +kernel)
theorem ml_L_48 : Cond.methodLink RL 48 yX9_life ∈ wsL := in_T 649 (by decide +kernel) (by decide +kernel)
theorem ml_L_52 : Cond.methodLink RL 52 yX9_play ∈ wsL := in_T 653 (by decide +kernel) (by decide +kernel)
theorem ml_X9_118 : Cond.methodLink RX9 118 yX9_result ∈ wsL := in_T 657 (by decide +kernel) (by decide +kernel)
theorem ml_X9_115 : Cond.methodLink RX9 115 yX9_game ∈ wsL := in_T 661 (by decide +kernel) (by decide +kernel)
theorem ml_X9_104 : Cond.methodLink RX9 104 yX9_isOver ∈ wsL := in_T 665 (by decide +kernel) (by decide +kernel)
theorem ml_X9_111 : Cond.methodLink RX9 111 yX9_move ∈ wsL := in_T 669 (by decide +kernel) (by decide +kernel)
theorem ml_X9_100 : Cond.methodLink RX9 100 yX9_nextCard ∈ wsL := in_T 673 (by decide +kernel) (by decide +kernel)
theorem ml_X9_108 : Cond.methodLink RX9 108 yX9_playCard ∈ wsL := in_T 677 (by decide +kernel) (by decide +kernel)
theorem ml_L_56 : Cond.methodLink RL 56 yX9_told ∈ wsL := in_T 681 (by decide +kernel) (by decide +kernel)
theorem ck_X9_121 : Cond.constant RX9 121 (-2147483648) ∈ wsL := in_T 685 (by decide +kernel) (by decide +kernel)
theorem ml_L_60 : Cond.methodLink RL 60 yX9_table ∈ wsL := in_T 686 (by decide +kernel) (by decide +kernel)
theorem ml_X9_122 : Cond.methodLink RX9 122 yX9_tableOf ∈ wsL := in_T 690 (by decide +kernel) (by decide +kernel)
theorem ml_L_64 : Cond.methodLink RL 64 yX9_rings ∈ wsL := in_T 694 (by decide +kernel) (by decide +kernel)
theorem ml_X9_140 : Cond.methodLink RX9 140 yX9_findRings ∈ wsL := in_T 698 (by decide +kernel) (by decide +kernel)
theorem ml_X9_125 : Cond.methodLink RX9 125 yX9_layTables ∈ wsL := in_T 702 (by decide +kernel) (by decide +kernel)
theorem ml_X9_128 : Cond.methodLink RX9 128 yX9_beats ∈ wsL := in_T 706 (by decide +kernel) (by decide +kernel)
theorem ml_L_68 : Cond.methodLink RL 68 yX9_ring ∈ wsL := in_T 710 (by decide +kernel) (by decide +kernel)
theorem ml_L_73 : Cond.methodLink RL 73 yX9_share ∈ wsL := in_T 714 (by decide +kernel) (by decide +kernel)
theorem ck_X9_172 : Cond.constantLong RX9 172 (-2) ∈ wsL := in_T 718 (by decide +kernel) (by decide +kernel)
theorem ml_X9_174 : Cond.methodLink RX9 174 yX9_findMix ∈ wsL := in_T 719 (by decide +kernel) (by decide +kernel)
theorem ck_X9_155 : Cond.constantLong RX9 155 (-1) ∈ wsL := in_T 723 (by decide +kernel) (by decide +kernel)
theorem ml_X9_157 : Cond.methodLink RX9 157 yX9_ones ∈ wsL := in_T 724 (by decide +kernel) (by decide +kernel)
theorem ml_X9_160 : Cond.methodLink RX9 160 yX9_layBounds ∈ wsL := in_T 727 (by decide +kernel) (by decide +kernel)
theorem ml_X9_163 : Cond.methodLink RX9 163 yX9_solve ∈ wsL := in_T 731 (by decide +kernel) (by decide +kernel)
theorem ml_X9_148 : Cond.methodLink RX9 148 yX9_changeRows ∈ wsL := in_T 735 (by decide +kernel) (by decide +kernel)
theorem ml_X9_151 : Cond.methodLink RX9 151 yX9_clearRow ∈ wsL := in_T 739 (by decide +kernel) (by decide +kernel)
theorem ml_X9_144 : Cond.methodLink RX9 144 yX9_divisor ∈ wsL := in_T 743 (by decide +kernel) (by decide +kernel)
theorem ml_X9_166 : Cond.methodLink RX9 166 yX9_holds ∈ wsL := in_T 746 (by decide +kernel) (by decide +kernel)
theorem ml_X9_169 : Cond.methodLink RX9 169 yX9_isGreater ∈ wsL := in_T 750 (by decide +kernel) (by decide +kernel)
theorem ml_L_77 : Cond.methodLink RL 77 yX9_live ∈ wsL := in_T 754 (by decide +kernel) (by decide +kernel)
theorem ml_L_81 : Cond.methodLink RL 81 yX9_standing ∈ wsL := in_T 758 (by decide +kernel) (by decide +kernel)
theorem ml_X9_177 : Cond.methodLink RX9 177 yX9_standingOf ∈ wsL := in_T 762 (by decide +kernel) (by decide +kernel)
theorem ml_L_85 : Cond.methodLink RL 85 yX9_worth ∈ wsL := in_T 766 (by decide +kernel) (by decide +kernel)
theorem ml_X9_180 : Cond.methodLink RX9 180 yX9_placeOf ∈ wsL := in_T 770 (by decide +kernel) (by decide +kernel)
theorem ml_X9_183 : Cond.methodLink RX9 183 yX9_putBack ∈ wsL := in_T 774 (by decide +kernel) (by decide +kernel)
theorem ml_L_89 : Cond.methodLink RL 89 yX9_idle ∈ wsL := in_T 778 (by decide +kernel) (by decide +kernel)
theorem ml_L_93 : Cond.methodLink RL 93 yX9_remedy ∈ wsL := in_T 782 (by decide +kernel) (by decide +kernel)
theorem ml_X9_186 : Cond.methodLink RX9 186 yX9_isRemedied ∈ wsL := in_T 786 (by decide +kernel) (by decide +kernel)
theorem ml_L_97 : Cond.methodLink RL 97 yX9_count ∈ wsL := in_T 790 (by decide +kernel) (by decide +kernel)
end
section
theorem dX0_init_0 : decode cX0_init 0 = .ok (.aload_n 0, 1) := by decide +kernel
theorem dX0_init_1 : decode cX0_init 1 = .ok (.invokespecial 3, 3) := by decide +kernel
theorem dX0_init_4 : decode cX0_init 4 = .ok (.aload_n 0, 1) := by decide +kernel
theorem dX0_init_5 : decode cX0_init 5 = .ok (.bipush 12, 2) := by decide +kernel
theorem dX0_init_7 : decode cX0_init 7 = .ok (.newarray .int, 2) := by decide +kernel
theorem dX0_init_9 : decode cX0_init 9 = .ok (.putfield 9, 3) := by decide +kernel
theorem dX0_init_12 : decode cX0_init 12 = .ok (.aload_n 0, 1) := by decide +kernel
theorem dX0_init_13 : decode cX0_init 13 = .ok (.bipush 12, 2) := by decide +kernel
theorem dX0_init_15 : decode cX0_init 15 = .ok (.newarray .int, 2) := by decide +kernel
theorem dX0_init_17 : decode cX0_init 17 = .ok (.putfield 15, 3) := by decide +kernel
theorem dX0_init_20 : decode cX0_init 20 = .ok (.aload_n 0, 1) := by decide +kernel
theorem dX0_init_21 : decode cX0_init 21 = .ok (.bipush 12, 2) := by decide +kernel
theorem dX0_init_23 : decode cX0_init 23 = .ok (.newarray .int, 2) := by decide +kernel
theorem dX0_init_25 : decode cX0_init 25 = .ok (.putfield 18, 3) := by decide +kernel
theorem dX0_init_28 : decode cX0_init 28 = .ok (.return_, 1) := by decide +kernel
theorem dX0_enter_0 : decode cX0_enter 0 = .ok (.aload_n 0, 1) := by decide +kernel
theorem dX0_enter_1 : decode cX0_enter 1 = .ok (.getfield 21, 3) := by decide +kernel
theorem dX0_enter_4 : decode cX0_enter 4 = .ok (.bipush 12, 2) := by decide +kernel
theorem dX0_enter_6 : decode cX0_enter 6 = .ok (.if_icmp .lt 6, 3) := by decide +kernel
theorem dX0_enter_9 : decode cX0_enter 9 = .ok (.bipush (-4), 2) := by decide +kernel
theorem dX0_enter_11 : decode cX0_enter 11 = .ok (.ireturn, 1) := by decide +kernel
theorem dX0_enter_12 : decode cX0_enter 12 = .ok (.aload_n 0, 1) := by decide +kernel
theorem dX0_enter_13 : decode cX0_enter 13 = .ok (.getfield 9, 3) := by decide +kernel
theorem dX0_enter_16 : decode cX0_enter 16 = .ok (.aload_n 0, 1) := by decide +kernel
theorem dX0_enter_17 : decode cX0_enter 17 = .ok (.getfield 21, 3) := by decide +kernel
theorem dX0_enter_20 : decode cX0_enter 20 = .ok (.iload_n 1, 1) := by decide +kernel
theorem dX0_enter_21 : decode cX0_enter 21 = .ok (.iastore, 1) := by decide +kernel
theorem dX0_enter_22 : decode cX0_enter 22 = .ok (.aload_n 0, 1) := by decide +kernel
theorem dX0_enter_23 : decode cX0_enter 23 = .ok (.getfield 15, 3) := by decide +kernel
theorem dX0_enter_26 : decode cX0_enter 26 = .ok (.aload_n 0, 1) := by decide +kernel
theorem dX0_enter_27 : decode cX0_enter 27 = .ok (.getfield 21, 3) := by decide +kernel
theorem dX0_enter_30 : decode cX0_enter 30 = .ok (.iload_n 2, 1) := by decide +kernel
theorem dX0_enter_31 : decode cX0_enter 31 = .ok (.iastore, 1) := by decide +kernel
theorem dX0_enter_32 : decode cX0_enter 32 = .ok (.aload_n 0, 1) := by decide +kernel
theorem dX0_enter_33 : decode cX0_enter 33 = .ok (.getfield 18, 3) := by decide +kernel
theorem dX0_enter_36 : decode cX0_enter 36 = .ok (.aload_n 0, 1) := by decide +kernel
theorem dX0_enter_37 : decode cX0_enter 37 = .ok (.getfield 21, 3) := by decide +kernel
theorem dX0_enter_40 : decode cX0_enter 40 = .ok (.iload_n 3, 1) := by decide +kernel
theorem dX0_enter_41 : decode cX0_enter 41 = .ok (.iastore, 1) := by decide +kernel
theorem dX0_enter_42 : decode cX0_enter 42 = .ok (.aload_n 0, 1) := by decide +kernel
theorem dX0_enter_43 : decode cX0_enter 43 = .ok (.dup, 1) := by decide +kernel
theorem dX0_enter_44 : decode cX0_enter 44 = .ok (.getfield 21, 3) := by decide +kernel
theorem dX0_enter_47 : decode cX0_enter 47 = .ok (.iconst 1, 1) := by decide +kernel
theorem dX0_enter_48 : decode cX0_enter 48 = .ok (.iadd, 1) := by decide +kernel
theorem dX0_enter_49 : decode cX0_enter 49 = .ok (.putfield 21, 3) := by decide +kernel
theorem dX0_enter_52 : decode cX0_enter 52 = .ok (.aload_n 0, 1) := by decide +kernel
theorem dX0_enter_53 : decode cX0_enter 53 = .ok (.getfield 21, 3) := by decide +kernel
theorem dX0_enter_56 : decode cX0_enter 56 = .ok (.iconst 1, 1) := by decide +kernel
theorem dX0_enter_57 : decode cX0_enter 57 = .ok (.isub, 1) := by decide +kernel
theorem dX0_enter_58 : decode cX0_enter 58 = .ok (.ireturn, 1) := by decide +kernel
theorem dX0_isPlayedAhead_0 : decode cX0_isPlayedAhead 0 = .ok (.aload_n 0, 1) := by decide +kernel
theorem dX0_isPlayedAhead_1 : decode cX0_isPlayedAhead 1 = .ok (.getfield 15, 3) := by decide +kernel
theorem dX0_isPlayedAhead_4 : decode cX0_isPlayedAhead 4 = .ok (.iload_n 1, 1) := by decide +kernel
theorem dX0_isPlayedAhead_5 : decode cX0_isPlayedAhead 5 = .ok (.iaload, 1) := by decide +kernel
theorem dX0_isPlayedAhead_6 : decode cX0_isPlayedAhead 6 = .ok (.aload_n 0, 1) := by decide +kernel
theorem dX0_isPlayedAhead_7 : decode cX0_isPlayedAhead 7 = .ok (.getfield 15, 3) := by decide +kernel
theorem dX0_isPlayedAhead_10 : decode cX0_isPlayedAhead 10 = .ok (.iload_n 2, 1) := by decide +kernel
theorem dX0_isPlayedAhead_11 : decode cX0_isPlayedAhead 11 = .ok (.iaload, 1) := by decide +kernel
theorem dX0_isPlayedAhead_12 : decode cX0_isPlayedAhead 12 = .ok (.if_icmp .eq 24, 3) := by decide +kernel
theorem dX0_isPlayedAhead_15 : decode cX0_isPlayedAhead 15 = .ok (.aload_n 0, 1) := by decide +kernel
theorem dX0_isPlayedAhead_16 : decode cX0_isPlayedAhead 16 = .ok (.getfield 15, 3) := by decide +kernel
theorem dX0_isPlayedAhead_19 : decode cX0_isPlayedAhead 19 = .ok (.iload_n 1, 1) := by decide +kernel
theorem dX0_isPlayedAhead_20 : decode cX0_isPlayedAhead 20 = .ok (.iaload, 1) := by decide +kernel
theorem dX0_isPlayedAhead_21 : decode cX0_isPlayedAhead 21 = .ok (.aload_n 0, 1) := by decide +kernel
theorem dX0_isPlayedAhead_22 : decode cX0_isPlayedAhead 22 = .ok (.getfield 15, 3) := by decide +kernel
theorem dX0_isPlayedAhead_25 : decode cX0_isPlayedAhead 25 = .ok (.iload_n 2, 1) := by decide +kernel
theorem dX0_isPlayedAhead_26 : decode cX0_isPlayedAhead 26 = .ok (.iaload, 1) := by decide +kernel
theorem dX0_isPlayedAhead_27 : decode cX0_isPlayedAhead 27 = .ok (.if_icmp .le 7, 3) := by decide +kernel
theorem dX0_isPlayedAhead_30 : decode cX0_isPlayedAhead 30 = .ok (.iconst 1, 1) := by decide +kernel
theorem dX0_isPlayedAhead_31 : decode cX0_isPlayedAhead 31 = .ok (.goto 4, 3) := by decide +kernel
theorem dX0_isPlayedAhead_34 : decode cX0_isPlayedAhead 34 = .ok (.iconst 0, 1) := by decide +kernel
theorem dX0_isPlayedAhead_35 : decode cX0_isPlayedAhead 35 = .ok (.ireturn, 1) := by decide +kernel
theorem dX0_isPlayedAhead_36 : decode cX0_isPlayedAhead 36 = .ok (.aload_n 0, 1) := by decide +kernel
theorem dX0_isPlayedAhead_37 : decode cX0_isPlayedAhead 37 = .ok (.getfield 18, 3) := by decide +kernel
theorem dX0_isPlayedAhead_40 : decode cX0_isPlayedAhead 40 = .ok (.iload_n 1, 1) := by decide +kernel
theorem dX0_isPlayedAhead_41 : decode cX0_isPlayedAhead 41 = .ok (.iaload, 1) := by decide +kernel
theorem dX0_isPlayedAhead_42 : decode cX0_isPlayedAhead 42 = .ok (.aload_n 0, 1) := by decide +kernel
theorem dX0_isPlayedAhead_43 : decode cX0_isPlayedAhead 43 = .ok (.getfield 18, 3) := by decide +kernel
theorem dX0_isPlayedAhead_46 : decode cX0_isPlayedAhead 46 = .ok (.iload_n 2, 1) := by decide +kernel
theorem dX0_isPlayedAhead_47 : decode cX0_isPlayedAhead 47 = .ok (.iaload, 1) := by decide +kernel
theorem dX0_isPlayedAhead_48 : decode cX0_isPlayedAhead 48 = .ok (.if_icmp .eq 24, 3) := by decide +kernel
theorem dX0_isPlayedAhead_51 : decode cX0_isPlayedAhead 51 = .ok (.aload_n 0, 1) := by decide +kernel
theorem dX0_isPlayedAhead_52 : decode cX0_isPlayedAhead 52 = .ok (.getfield 18, 3) := by decide +kernel
theorem dX0_isPlayedAhead_55 : decode cX0_isPlayedAhead 55 = .ok (.iload_n 1, 1) := by decide +kernel
theorem dX0_isPlayedAhead_56 : decode cX0_isPlayedAhead 56 = .ok (.iaload, 1) := by decide +kernel
theorem dX0_isPlayedAhead_57 : decode cX0_isPlayedAhead 57 = .ok (.aload_n 0, 1) := by decide +kernel
theorem dX0_isPlayedAhead_58 : decode cX0_isPlayedAhead 58 = .ok (.getfield 18, 3) := by decide +kernel
theorem dX0_isPlayedAhead_61 : decode cX0_isPlayedAhead 61 = .ok (.iload_n 2, 1) := by decide +kernel
theorem dX0_isPlayedAhead_62 : decode cX0_isPlayedAhead 62 = .ok (.iaload, 1) := by decide +kernel
theorem dX0_isPlayedAhead_63 : decode cX0_isPlayedAhead 63 = .ok (.if_icmp .le 7, 3) := by decide +kernel
theorem dX0_isPlayedAhead_66 : decode cX0_isPlayedAhead 66 = .ok (.iconst 1, 1) := by decide +kernel
theorem dX0_isPlayedAhead_67 : decode cX0_isPlayedAhead 67 = .ok (.goto 4, 3) := by decide +kernel
theorem dX0_isPlayedAhead_70 : decode cX0_isPlayedAhead 70 = .ok (.iconst 0, 1) := by decide +kernel
theorem dX0_isPlayedAhead_71 : decode cX0_isPlayedAhead 71 = .ok (.ireturn, 1) := by decide +kernel
theorem dX0_isPlayedAhead_72 : decode cX0_isPlayedAhead 72 = .ok (.iload_n 1, 1) := by decide +kernel
theorem dX0_isPlayedAhead_73 : decode cX0_isPlayedAhead 73 = .ok (.iload_n 2, 1) := by decide +kernel
theorem dX0_isPlayedAhead_74 : decode cX0_isPlayedAhead 74 = .ok (.if_icmp .ge 7, 3) := by decide +kernel
theorem dX0_isPlayedAhead_77 : decode cX0_isPlayedAhead 77 = .ok (.iconst 1, 1) := by decide +kernel
theorem dX0_isPlayedAhead_78 : decode cX0_isPlayedAhead 78 = .ok (.goto 4, 3) := by decide +kernel
theorem dX0_isPlayedAhead_81 : decode cX0_isPlayedAhead 81 = .ok (.iconst 0, 1) := by decide +kernel
theorem dX0_isPlayedAhead_82 : decode cX0_isPlayedAhead 82 = .ok (.ireturn, 1) := by decide +kernel
theorem dX1_init_0 : decode cX1_init 0 = .ok (.aload_n 0, 1) := by decide +kernel
theorem dX1_init_1 : decode cX1_init 1 = .ok (.invokespecial 3, 3) := by decide +kernel
theorem dX1_init_4 : decode cX1_init 4 = .ok (.aload_n 0, 1) := by decide +kernel
theorem dX1_init_5 : decode cX1_init 5 = .ok (.iconst 5, 1) := by decide +kernel
theorem dX1_init_6 : decode cX1_init 6 = .ok (.anewarray 9, 3) := by decide +kernel
theorem dX1_init_9 : decode cX1_init 9 = .ok (.putfield 11, 3) := by decide +kernel
theorem dX1_init_12 : decode cX1_init 12 = .ok (.aload_n 0, 1) := by decide +kernel
theorem dX1_init_13 : decode cX1_init 13 = .ok (.iconst 5, 1) := by decide +kernel
theorem dX1_init_14 : decode cX1_init 14 = .ok (.iconst 5, 1) := by decide +kernel
theorem dX1_init_15 : decode cX1_init 15 = .ok (.multianewarray 17 2, 4) := by decide +kernel
theorem dX1_init_19 : decode cX1_init 19 = .ok (.putfield 19, 3) := by decide +kernel
theorem dX1_init_22 : decode cX1_init 22 = .ok (.aload_n 0, 1) := by decide +kernel
theorem dX1_init_23 : decode cX1_init 23 = .ok (.new 22, 3) := by decide +kernel
theorem dX1_init_26 : decode cX1_init 26 = .ok (.dup, 1) := by decide +kernel
theorem dX1_init_27 : decode cX1_init 27 = .ok (.invokespecial 24, 3) := by decide +kernel
theorem dX1_init_30 : decode cX1_init 30 = .ok (.putfield 25, 3) := by decide +kernel
theorem dX1_init_33 : decode cX1_init 33 = .ok (.iconst 0, 1) := by decide +kernel
theorem dX1_init_34 : decode cX1_init 34 = .ok (.istore_n 1, 1) := by decide +kernel
theorem dX1_init_35 : decode cX1_init 35 = .ok (.iload_n 1, 1) := by decide +kernel
theorem dX1_init_36 : decode cX1_init 36 = .ok (.iconst 5, 1) := by decide +kernel
theorem dX1_init_37 : decode cX1_init 37 = .ok (.if_icmp .ge 22, 3) := by decide +kernel
theorem dX1_init_40 : decode cX1_init 40 = .ok (.aload_n 0, 1) := by decide +kernel
theorem dX1_init_41 : decode cX1_init 41 = .ok (.getfield 11, 3) := by decide +kernel
theorem dX1_init_44 : decode cX1_init 44 = .ok (.iload_n 1, 1) := by decide +kernel
theorem dX1_init_45 : decode cX1_init 45 = .ok (.new 9, 3) := by decide +kernel
theorem dX1_init_48 : decode cX1_init 48 = .ok (.dup, 1) := by decide +kernel
theorem dX1_init_49 : decode cX1_init 49 = .ok (.invokespecial 29, 3) := by decide +kernel
theorem dX1_init_52 : decode cX1_init 52 = .ok (.aastore, 1) := by decide +kernel
theorem dX1_init_53 : decode cX1_init 53 = .ok (.iinc 1 1, 3) := by decide +kernel
theorem dX1_init_56 : decode cX1_init 56 = .ok (.goto (-21), 3) := by decide +kernel
theorem dX1_init_59 : decode cX1_init 59 = .ok (.return_, 1) := by decide +kernel
theorem dX1_enter_0 : decode cX1_enter 0 = .ok (.aload_n 0, 1) := by decide +kernel
theorem dX1_enter_1 : decode cX1_enter 1 = .ok (.getfield 19, 3) := by decide +kernel
theorem dX1_enter_4 : decode cX1_enter 4 = .ok (.iload_n 1, 1) := by decide +kernel
theorem dX1_enter_5 : decode cX1_enter 5 = .ok (.aaload, 1) := by decide +kernel
theorem dX1_enter_6 : decode cX1_enter 6 = .ok (.iload_n 2, 1) := by decide +kernel
theorem dX1_enter_7 : decode cX1_enter 7 = .ok (.iload_n 3, 1) := by decide +kernel
theorem dX1_enter_8 : decode cX1_enter 8 = .ok (.iastore, 1) := by decide +kernel
theorem dX1_enter_9 : decode cX1_enter 9 = .ok (.aload_n 0, 1) := by decide +kernel
theorem dX1_enter_10 : decode cX1_enter 10 = .ok (.getfield 19, 3) := by decide +kernel
theorem dX1_enter_13 : decode cX1_enter 13 = .ok (.iload_n 2, 1) := by decide +kernel
theorem dX1_enter_14 : decode cX1_enter 14 = .ok (.aaload, 1) := by decide +kernel
theorem dX1_enter_15 : decode cX1_enter 15 = .ok (.iload_n 1, 1) := by decide +kernel
theorem dX1_enter_16 : decode cX1_enter 16 = .ok (.iload_n 3, 1) := by decide +kernel
theorem dX1_enter_17 : decode cX1_enter 17 = .ok (.ineg, 1) := by decide +kernel
theorem dX1_enter_18 : decode cX1_enter 18 = .ok (.iastore, 1) := by decide +kernel
theorem dX1_enter_19 : decode cX1_enter 19 = .ok (.return_, 1) := by decide +kernel
theorem dX1_hasTablesOf_0 : decode cX1_hasTablesOf 0 = .ok (.iconst 0, 1) := by decide +kernel
theorem dX1_hasTablesOf_1 : decode cX1_hasTablesOf 1 = .ok (.istore_n 3, 1) := by decide +kernel
theorem dX1_hasTablesOf_2 : decode cX1_hasTablesOf 2 = .ok (.iload_n 3, 1) := by decide +kernel
theorem dX1_hasTablesOf_3 : decode cX1_hasTablesOf 3 = .ok (.iload_n 2, 1) := by decide +kernel
theorem dX1_hasTablesOf_4 : decode cX1_hasTablesOf 4 = .ok (.if_icmp .ge 49, 3) := by decide +kernel
theorem dX1_hasTablesOf_7 : decode cX1_hasTablesOf 7 = .ok (.iload_n 3, 1) := by decide +kernel
theorem dX1_hasTablesOf_8 : decode cX1_hasTablesOf 8 = .ok (.iconst 1, 1) := by decide +kernel
theorem dX1_hasTablesOf_9 : decode cX1_hasTablesOf 9 = .ok (.iadd, 1) := by decide +kernel
theorem dX1_hasTablesOf_10 : decode cX1_hasTablesOf 10 = .ok (.istore 4, 2) := by decide +kernel
theorem dX1_hasTablesOf_12 : decode cX1_hasTablesOf 12 = .ok (.iload 4, 2) := by decide +kernel
theorem dX1_hasTablesOf_14 : decode cX1_hasTablesOf 14 = .ok (.iload_n 2, 1) := by decide +kernel
theorem dX1_hasTablesOf_15 : decode cX1_hasTablesOf 15 = .ok (.if_icmp .ge 32, 3) := by decide +kernel
theorem dX1_hasTablesOf_18 : decode cX1_hasTablesOf 18 = .ok (.aload_n 0, 1) := by decide +kernel
theorem dX1_hasTablesOf_19 : decode cX1_hasTablesOf 19 = .ok (.getfield 19, 3) := by decide +kernel
theorem dX1_hasTablesOf_22 : decode cX1_hasTablesOf 22 = .ok (.iload_n 3, 1) := by decide +kernel
theorem dX1_hasTablesOf_23 : decode cX1_hasTablesOf 23 = .ok (.aaload, 1) := by decide +kernel
theorem dX1_hasTablesOf_24 : decode cX1_hasTablesOf 24 = .ok (.iload 4, 2) := by decide +kernel
theorem dX1_hasTablesOf_26 : decode cX1_hasTablesOf 26 = .ok (.iaload, 1) := by decide +kernel
theorem dX1_hasTablesOf_27 : decode cX1_hasTablesOf 27 = .ok (.aload_n 1, 1) := by decide +kernel
theorem dX1_hasTablesOf_28 : decode cX1_hasTablesOf 28 = .ok (.getfield 19, 3) := by decide +kernel
theorem dX1_hasTablesOf_31 : decode cX1_hasTablesOf 31 = .ok (.iload_n 3, 1) := by decide +kernel
theorem dX1_hasTablesOf_32 : decode cX1_hasTablesOf 32 = .ok (.aaload, 1) := by decide +kernel
theorem dX1_hasTablesOf_33 : decode cX1_hasTablesOf 33 = .ok (.iload 4, 2) := by decide +kernel
theorem dX1_hasTablesOf_35 : decode cX1_hasTablesOf 35 = .ok (.iaload, 1) := by decide +kernel
theorem dX1_hasTablesOf_36 : decode cX1_hasTablesOf 36 = .ok (.if_icmp .eq 5, 3) := by decide +kernel
theorem dX1_hasTablesOf_39 : decode cX1_hasTablesOf 39 = .ok (.iconst 0, 1) := by decide +kernel
theorem dX1_hasTablesOf_40 : decode cX1_hasTablesOf 40 = .ok (.ireturn, 1) := by decide +kernel
theorem dX1_hasTablesOf_41 : decode cX1_hasTablesOf 41 = .ok (.iinc 4 1, 3) := by decide +kernel
theorem dX1_hasTablesOf_44 : decode cX1_hasTablesOf 44 = .ok (.goto (-32), 3) := by decide +kernel
theorem dX1_hasTablesOf_47 : decode cX1_hasTablesOf 47 = .ok (.iinc 3 1, 3) := by decide +kernel
theorem dX1_hasTablesOf_50 : decode cX1_hasTablesOf 50 = .ok (.goto (-48), 3) := by decide +kernel
theorem dX1_hasTablesOf_53 : decode cX1_hasTablesOf 53 = .ok (.iconst 1, 1) := by decide +kernel
theorem dX1_hasTablesOf_54 : decode cX1_hasTablesOf 54 = .ok (.ireturn, 1) := by decide +kernel
theorem dX2_init_0 : decode cX2_init 0 = .ok (.aload_n 0, 1) := by decide +kernel
theorem dX2_init_1 : decode cX2_init 1 = .ok (.invokespecial 3, 3) := by decide +kernel
theorem dX2_init_4 : decode cX2_init 4 = .ok (.aload_n 0, 1) := by decide +kernel
theorem dX2_init_5 : decode cX2_init 5 = .ok (.bipush 10, 2) := by decide +kernel
theorem dX2_init_7 : decode cX2_init 7 = .ok (.newarray .int, 2) := by decide +kernel
theorem dX2_init_9 : decode cX2_init 9 = .ok (.putfield 9, 3) := by decide +kernel
theorem dX2_init_12 : decode cX2_init 12 = .ok (.return_, 1) := by decide +kernel
theorem dX2_append_0 : decode cX2_append 0 = .ok (.aload_n 0, 1) := by decide +kernel
theorem dX2_append_1 : decode cX2_append 1 = .ok (.getfield 15, 3) := by decide +kernel
theorem dX2_append_4 : decode cX2_append 4 = .ok (.bipush 10, 2) := by decide +kernel
theorem dX2_append_6 : decode cX2_append 6 = .ok (.if_icmp .lt 6, 3) := by decide +kernel
theorem dX2_append_9 : decode cX2_append 9 = .ok (.bipush (-4), 2) := by decide +kernel
theorem dX2_append_11 : decode cX2_append 11 = .ok (.ireturn, 1) := by decide +kernel
theorem dX2_append_12 : decode cX2_append 12 = .ok (.aload_n 0, 1) := by decide +kernel
theorem dX2_append_13 : decode cX2_append 13 = .ok (.getfield 9, 3) := by decide +kernel
theorem dX2_append_16 : decode cX2_append 16 = .ok (.aload_n 0, 1) := by decide +kernel
theorem dX2_append_17 : decode cX2_append 17 = .ok (.getfield 15, 3) := by decide +kernel
theorem dX2_append_20 : decode cX2_append 20 = .ok (.iload_n 1, 1) := by decide +kernel
theorem dX2_append_21 : decode cX2_append 21 = .ok (.iastore, 1) := by decide +kernel
theorem dX2_append_22 : decode cX2_append 22 = .ok (.aload_n 0, 1) := by decide +kernel
theorem dX2_append_23 : decode cX2_append 23 = .ok (.dup, 1) := by decide +kernel
theorem dX2_append_24 : decode cX2_append 24 = .ok (.getfield 15, 3) := by decide +kernel
theorem dX2_append_27 : decode cX2_append 27 = .ok (.iconst 1, 1) := by decide +kernel
theorem dX2_append_28 : decode cX2_append 28 = .ok (.iadd, 1) := by decide +kernel
theorem dX2_append_29 : decode cX2_append 29 = .ok (.putfield 15, 3) := by decide +kernel
theorem dX2_append_32 : decode cX2_append 32 = .ok (.aload_n 0, 1) := by decide +kernel
theorem dX2_append_33 : decode cX2_append 33 = .ok (.getfield 15, 3) := by decide +kernel
theorem dX2_append_36 : decode cX2_append 36 = .ok (.ireturn, 1) := by decide +kernel
theorem dX2_takeOut_0 : decode cX2_takeOut 0 = .ok (.aload_n 0, 1) := by decide +kernel
theorem dX2_takeOut_1 : decode cX2_takeOut 1 = .ok (.getfield 9, 3) := by decide +kernel
theorem dX2_takeOut_4 : decode cX2_takeOut 4 = .ok (.iload_n 1, 1) := by decide +kernel
theorem dX2_takeOut_5 : decode cX2_takeOut 5 = .ok (.iaload, 1) := by decide +kernel
theorem dX2_takeOut_6 : decode cX2_takeOut 6 = .ok (.istore_n 2, 1) := by decide +kernel
theorem dX2_takeOut_7 : decode cX2_takeOut 7 = .ok (.iload_n 1, 1) := by decide +kernel
theorem dX2_takeOut_8 : decode cX2_takeOut 8 = .ok (.iconst 1, 1) := by decide +kernel
theorem dX2_takeOut_9 : decode cX2_takeOut 9 = .ok (.iadd, 1) := by decide +kernel
theorem dX2_takeOut_10 : decode cX2_takeOut 10 = .ok (.istore_n 3, 1) := by decide +kernel
theorem dX2_takeOut_11 : decode cX2_takeOut 11 = .ok (.iload_n 3, 1) := by decide +kernel
theorem dX2_takeOut_12 : decode cX2_takeOut 12 = .ok (.aload_n 0, 1) := by decide +kernel
theorem dX2_takeOut_13 : decode cX2_takeOut 13 = .ok (.getfield 15, 3) := by decide +kernel
theorem dX2_takeOut_16 : decode cX2_takeOut 16 = .ok (.if_icmp .ge 23, 3) := by decide +kernel
theorem dX2_takeOut_19 : decode cX2_takeOut 19 = .ok (.aload_n 0, 1) := by decide +kernel
theorem dX2_takeOut_20 : decode cX2_takeOut 20 = .ok (.getfield 9, 3) := by decide +kernel
theorem dX2_takeOut_23 : decode cX2_takeOut 23 = .ok (.iload_n 3, 1) := by decide +kernel
theorem dX2_takeOut_24 : decode cX2_takeOut 24 = .ok (.iconst 1, 1) := by decide +kernel
theorem dX2_takeOut_25 : decode cX2_takeOut 25 = .ok (.isub, 1) := by decide +kernel
theorem dX2_takeOut_26 : decode cX2_takeOut 26 = .ok (.aload_n 0, 1) := by decide +kernel
theorem dX2_takeOut_27 : decode cX2_takeOut 27 = .ok (.getfield 9, 3) := by decide +kernel
theorem dX2_takeOut_30 : decode cX2_takeOut 30 = .ok (.iload_n 3, 1) := by decide +kernel
theorem dX2_takeOut_31 : decode cX2_takeOut 31 = .ok (.iaload, 1) := by decide +kernel
theorem dX2_takeOut_32 : decode cX2_takeOut 32 = .ok (.iastore, 1) := by decide +kernel
theorem dX2_takeOut_33 : decode cX2_takeOut 33 = .ok (.iinc 3 1, 3) := by decide +kernel
theorem dX2_takeOut_36 : decode cX2_takeOut 36 = .ok (.goto (-25), 3) := by decide +kernel
theorem dX2_takeOut_39 : decode cX2_takeOut 39 = .ok (.aload_n 0, 1) := by decide +kernel
theorem dX2_takeOut_40 : decode cX2_takeOut 40 = .ok (.dup, 1) := by decide +kernel
theorem dX2_takeOut_41 : decode cX2_takeOut 41 = .ok (.getfield 15, 3) := by decide +kernel
theorem dX2_takeOut_44 : decode cX2_takeOut 44 = .ok (.iconst 1, 1) := by decide +kernel
theorem dX2_takeOut_45 : decode cX2_takeOut 45 = .ok (.isub, 1) := by decide +kernel
theorem dX2_takeOut_46 : decode cX2_takeOut 46 = .ok (.putfield 15, 3) := by decide +kernel
theorem dX2_takeOut_49 : decode cX2_takeOut 49 = .ok (.iload_n 2, 1) := by decide +kernel
theorem dX2_takeOut_50 : decode cX2_takeOut 50 = .ok (.ireturn, 1) := by decide +kernel
theorem dX2_exchange_0 : decode cX2_exchange 0 = .ok (.aload_n 0, 1) := by decide +kernel
theorem dX2_exchange_1 : decode cX2_exchange 1 = .ok (.getfield 9, 3) := by decide +kernel
theorem dX2_exchange_4 : decode cX2_exchange 4 = .ok (.iload_n 1, 1) := by decide +kernel
theorem dX2_exchange_5 : decode cX2_exchange 5 = .ok (.iaload, 1) := by decide +kernel
theorem dX2_exchange_6 : decode cX2_exchange 6 = .ok (.istore_n 3, 1) := by decide +kernel
theorem dX2_exchange_7 : decode cX2_exchange 7 = .ok (.aload_n 0, 1) := by decide +kernel
theorem dX2_exchange_8 : decode cX2_exchange 8 = .ok (.getfield 9, 3) := by decide +kernel
theorem dX2_exchange_11 : decode cX2_exchange 11 = .ok (.iload_n 1, 1) := by decide +kernel
theorem dX2_exchange_12 : decode cX2_exchange 12 = .ok (.aload_n 0, 1) := by decide +kernel
theorem dX2_exchange_13 : decode cX2_exchange 13 = .ok (.getfield 9, 3) := by decide +kernel
theorem dX2_exchange_16 : decode cX2_exchange 16 = .ok (.iload_n 2, 1) := by decide +kernel
theorem dX2_exchange_17 : decode cX2_exchange 17 = .ok (.iaload, 1) := by decide +kernel
theorem dX2_exchange_18 : decode cX2_exchange 18 = .ok (.iastore, 1) := by decide +kernel
theorem dX2_exchange_19 : decode cX2_exchange 19 = .ok (.aload_n 0, 1) := by decide +kernel
theorem dX2_exchange_20 : decode cX2_exchange 20 = .ok (.getfield 9, 3) := by decide +kernel
theorem dX2_exchange_23 : decode cX2_exchange 23 = .ok (.iload_n 2, 1) := by decide +kernel
theorem dX2_exchange_24 : decode cX2_exchange 24 = .ok (.iload_n 3, 1) := by decide +kernel
theorem dX2_exchange_25 : decode cX2_exchange 25 = .ok (.iastore, 1) := by decide +kernel
theorem dX2_exchange_26 : decode cX2_exchange 26 = .ok (.return_, 1) := by decide +kernel
theorem dX2_firstPlaceOf_0 : decode cX2_firstPlaceOf 0 = .ok (.iconst 0, 1) := by decide +kernel
theorem dX2_firstPlaceOf_1 : decode cX2_firstPlaceOf 1 = .ok (.istore_n 2, 1) := by decide +kernel
theorem dX2_firstPlaceOf_2 : decode cX2_firstPlaceOf 2 = .ok (.iload_n 2, 1) := by decide +kernel
theorem dX2_firstPlaceOf_3 : decode cX2_firstPlaceOf 3 = .ok (.aload_n 0, 1) := by decide +kernel
theorem dX2_firstPlaceOf_4 : decode cX2_firstPlaceOf 4 = .ok (.getfield 15, 3) := by decide +kernel
theorem dX2_firstPlaceOf_7 : decode cX2_firstPlaceOf 7 = .ok (.if_icmp .ge 21, 3) := by decide +kernel
theorem dX2_firstPlaceOf_10 : decode cX2_firstPlaceOf 10 = .ok (.aload_n 0, 1) := by decide +kernel
theorem dX2_firstPlaceOf_11 : decode cX2_firstPlaceOf 11 = .ok (.getfield 9, 3) := by decide +kernel
theorem dX2_firstPlaceOf_14 : decode cX2_firstPlaceOf 14 = .ok (.iload_n 2, 1) := by decide +kernel
theorem dX2_firstPlaceOf_15 : decode cX2_firstPlaceOf 15 = .ok (.iaload, 1) := by decide +kernel
theorem dX2_firstPlaceOf_16 : decode cX2_firstPlaceOf 16 = .ok (.iload_n 1, 1) := by decide +kernel
theorem dX2_firstPlaceOf_17 : decode cX2_firstPlaceOf 17 = .ok (.if_icmp .ne 5, 3) := by decide +kernel
theorem dX2_firstPlaceOf_20 : decode cX2_firstPlaceOf 20 = .ok (.iload_n 2, 1) := by decide +kernel
theorem dX2_firstPlaceOf_21 : decode cX2_firstPlaceOf 21 = .ok (.ireturn, 1) := by decide +kernel
theorem dX2_firstPlaceOf_22 : decode cX2_firstPlaceOf 22 = .ok (.iinc 2 1, 3) := by decide +kernel
theorem dX2_firstPlaceOf_25 : decode cX2_firstPlaceOf 25 = .ok (.goto (-23), 3) := by decide +kernel
theorem dX2_firstPlaceOf_28 : decode cX2_firstPlaceOf 28 = .ok (.iconst (-1), 1) := by decide +kernel
theorem dX2_firstPlaceOf_29 : decode cX2_firstPlaceOf 29 = .ok (.ireturn, 1) := by decide +kernel
theorem dX3_init_0 : decode cX3_init 0 = .ok (.aload_n 0, 1) := by decide +kernel
theorem dX3_init_1 : decode cX3_init 1 = .ok (.invokespecial 3, 3) := by decide +kernel
theorem dX3_init_4 : decode cX3_init 4 = .ok (.aload_n 0, 1) := by decide +kernel
theorem dX3_init_5 : decode cX3_init 5 = .ok (.new 9, 3) := by decide +kernel
theorem dX3_init_8 : decode cX3_init 8 = .ok (.dup, 1) := by decide +kernel
theorem dX3_init_9 : decode cX3_init 9 = .ok (.invokespecial 11, 3) := by decide +kernel
theorem dX3_init_12 : decode cX3_init 12 = .ok (.putfield 12, 3) := by decide +kernel
theorem dX3_init_15 : decode cX3_init 15 = .ok (.aload_n 0, 1) := by decide +kernel
theorem dX3_init_16 : decode cX3_init 16 = .ok (.new 9, 3) := by decide +kernel
theorem dX3_init_19 : decode cX3_init 19 = .ok (.dup, 1) := by decide +kernel
theorem dX3_init_20 : decode cX3_init 20 = .ok (.invokespecial 11, 3) := by decide +kernel
theorem dX3_init_23 : decode cX3_init 23 = .ok (.putfield 18, 3) := by decide +kernel
theorem dX3_init_26 : decode cX3_init 26 = .ok (.aload_n 0, 1) := by decide +kernel
theorem dX3_init_27 : decode cX3_init 27 = .ok (.aload_n 1, 1) := by decide +kernel
theorem dX3_init_28 : decode cX3_init 28 = .ok (.putfield 21, 3) := by decide +kernel
theorem dX3_init_31 : decode cX3_init 31 = .ok (.return_, 1) := by decide +kernel
theorem dX3_resultOf_0 : decode cX3_resultOf 0 = .ok (.aload_n 0, 1) := by decide +kernel
theorem dX3_resultOf_1 : decode cX3_resultOf 1 = .ok (.getfield 12, 3) := by decide +kernel
theorem dX3_resultOf_4 : decode cX3_resultOf 4 = .ok (.iload_n 3, 1) := by decide +kernel
theorem dX3_resultOf_5 : decode cX3_resultOf 5 = .ok (.invokevirtual 25, 3) := by decide +kernel
theorem dX3_resultOf_8 : decode cX3_resultOf 8 = .ok (.aload_n 0, 1) := by decide +kernel
theorem dX3_resultOf_9 : decode cX3_resultOf 9 = .ok (.getfield 18, 3) := by decide +kernel
theorem dX3_resultOf_12 : decode cX3_resultOf 12 = .ok (.iload_n 3, 1) := by decide +kernel
theorem dX3_resultOf_13 : decode cX3_resultOf 13 = .ok (.invokevirtual 25, 3) := by decide +kernel
theorem dX3_resultOf_16 : decode cX3_resultOf 16 = .ok (.iconst 1, 1) := by decide +kernel
theorem dX3_resultOf_17 : decode cX3_resultOf 17 = .ok (.istore 4, 2) := by decide +kernel
theorem dX3_resultOf_19 : decode cX3_resultOf 19 = .ok (.iload 4, 2) := by decide +kernel
theorem dX3_resultOf_21 : decode cX3_resultOf 21 = .ok (.bipush 12, 2) := by decide +kernel
theorem dX3_resultOf_23 : decode cX3_resultOf 23 = .ok (.if_icmp .gt 60, 3) := by decide +kernel
theorem dX3_resultOf_26 : decode cX3_resultOf 26 = .ok (.aload_n 0, 1) := by decide +kernel
theorem dX3_resultOf_27 : decode cX3_resultOf 27 = .ok (.iload 4, 2) := by decide +kernel
theorem dX3_resultOf_29 : decode cX3_resultOf 29 = .ok (.putfield 29, 3) := by decide +kernel
theorem dX3_resultOf_32 : decode cX3_resultOf 32 = .ok (.aload_n 0, 1) := by decide +kernel
theorem dX3_resultOf_33 : decode cX3_resultOf 33 = .ok (.getfield 12, 3) := by decide +kernel
theorem dX3_resultOf_36 : decode cX3_resultOf 36 = .ok (.aload_n 0, 1) := by decide +kernel
theorem dX3_resultOf_37 : decode cX3_resultOf 37 = .ok (.getfield 18, 3) := by decide +kernel
theorem dX3_resultOf_40 : decode cX3_resultOf 40 = .ok (.aload_n 1, 1) := by decide +kernel
theorem dX3_resultOf_41 : decode cX3_resultOf 41 = .ok (.aload_n 0, 1) := by decide +kernel
theorem dX3_resultOf_42 : decode cX3_resultOf 42 = .ok (.getfield 21, 3) := by decide +kernel
theorem dX3_resultOf_45 : decode cX3_resultOf 45 = .ok (.iload 4, 2) := by decide +kernel
theorem dX3_resultOf_47 : decode cX3_resultOf 47 = .ok (.invokevirtual 33, 3) := by decide +kernel
theorem dX3_resultOf_50 : decode cX3_resultOf 50 = .ok (.ifCond .ne 33, 3) := by decide +kernel
theorem dX3_resultOf_53 : decode cX3_resultOf 53 = .ok (.aload_n 0, 1) := by decide +kernel
theorem dX3_resultOf_54 : decode cX3_resultOf 54 = .ok (.getfield 18, 3) := by decide +kernel
theorem dX3_resultOf_57 : decode cX3_resultOf 57 = .ok (.aload_n 0, 1) := by decide +kernel
theorem dX3_resultOf_58 : decode cX3_resultOf 58 = .ok (.getfield 12, 3) := by decide +kernel
theorem dX3_resultOf_61 : decode cX3_resultOf 61 = .ok (.aload_n 2, 1) := by decide +kernel
theorem dX3_resultOf_62 : decode cX3_resultOf 62 = .ok (.aload_n 0, 1) := by decide +kernel
theorem dX3_resultOf_63 : decode cX3_resultOf 63 = .ok (.getfield 21, 3) := by decide +kernel
theorem dX3_resultOf_66 : decode cX3_resultOf 66 = .ok (.iload 4, 2) := by decide +kernel
theorem dX3_resultOf_68 : decode cX3_resultOf 68 = .ok (.invokevirtual 33, 3) := by decide +kernel
theorem dX3_resultOf_71 : decode cX3_resultOf 71 = .ok (.ifCond .eq 6, 3) := by decide +kernel
theorem dX3_resultOf_74 : decode cX3_resultOf 74 = .ok (.goto 9, 3) := by decide +kernel
theorem dX3_resultOf_77 : decode cX3_resultOf 77 = .ok (.iinc 4 1, 3) := by decide +kernel
theorem dX3_resultOf_80 : decode cX3_resultOf 80 = .ok (.goto (-61), 3) := by decide +kernel
theorem dX3_resultOf_83 : decode cX3_resultOf 83 = .ok (.aload_n 0, 1) := by decide +kernel
theorem dX3_resultOf_84 : decode cX3_resultOf 84 = .ok (.getfield 12, 3) := by decide +kernel
theorem dX3_resultOf_87 : decode cX3_resultOf 87 = .ok (.getfield 37, 3) := by decide +kernel
theorem dX3_resultOf_90 : decode cX3_resultOf 90 = .ok (.aload_n 0, 1) := by decide +kernel
theorem dX3_resultOf_91 : decode cX3_resultOf 91 = .ok (.getfield 18, 3) := by decide +kernel
theorem dX3_resultOf_94 : decode cX3_resultOf 94 = .ok (.getfield 37, 3) := by decide +kernel
theorem dX3_resultOf_97 : decode cX3_resultOf 97 = .ok (.invokestatic 40, 3) := by decide +kernel
theorem dX3_resultOf_100 : decode cX3_resultOf 100 = .ok (.ireturn, 1) := by decide +kernel
end
section
theorem dX4_init_0 : decode cX4_init 0 = .ok (.aload_n 0, 1) := by decide +kernel
theorem dX4_init_1 : decode cX4_init 1 = .ok (.invokespecial 3, 3) := by decide +kernel
theorem dX4_init_4 : decode cX4_init 4 = .ok (.aload_n 0, 1) := by decide +kernel
theorem dX4_init_5 : decode cX4_init 5 = .ok (.iconst 5, 1) := by decide +kernel
theorem dX4_init_6 : decode cX4_init 6 = .ok (.newarray .int, 2) := by decide +kernel
theorem dX4_init_8 : decode cX4_init 8 = .ok (.putfield 9, 3) := by decide +kernel
theorem dX4_init_11 : decode cX4_init 11 = .ok (.aload_n 0, 1) := by decide +kernel
theorem dX4_init_12 : decode cX4_init 12 = .ok (.iconst 5, 1) := by decide +kernel
theorem dX4_init_13 : decode cX4_init 13 = .ok (.newarray .int, 2) := by decide +kernel
theorem dX4_init_15 : decode cX4_init 15 = .ok (.putfield 15, 3) := by decide +kernel
theorem dX4_init_18 : decode cX4_init 18 = .ok (.aload_n 0, 1) := by decide +kernel
theorem dX4_init_19 : decode cX4_init 19 = .ok (.sipush 1024, 3) := by decide +kernel
theorem dX4_init_22 : decode cX4_init 22 = .ok (.newarray .int, 2) := by decide +kernel
theorem dX4_init_24 : decode cX4_init 24 = .ok (.putfield 18, 3) := by decide +kernel
theorem dX4_init_27 : decode cX4_init 27 = .ok (.return_, 1) := by decide +kernel
theorem dX4_find_0 : decode cX4_find 0 = .ok (.aload_n 0, 1) := by decide +kernel
theorem dX4_find_1 : decode cX4_find 1 = .ok (.iload_n 2, 1) := by decide +kernel
theorem dX4_find_2 : decode cX4_find 2 = .ok (.putfield 21, 3) := by decide +kernel
theorem dX4_find_5 : decode cX4_find 5 = .ok (.aload_n 0, 1) := by decide +kernel
theorem dX4_find_6 : decode cX4_find 6 = .ok (.iconst 0, 1) := by decide +kernel
theorem dX4_find_7 : decode cX4_find 7 = .ok (.putfield 25, 3) := by decide +kernel
theorem dX4_find_10 : decode cX4_find 10 = .ok (.aload_n 0, 1) := by decide +kernel
theorem dX4_find_11 : decode cX4_find 11 = .ok (.aload_n 1, 1) := by decide +kernel
theorem dX4_find_12 : decode cX4_find 12 = .ok (.invokevirtual 28, 3) := by decide +kernel
theorem dX4_find_15 : decode cX4_find 15 = .ok (.iconst 1, 1) := by decide +kernel
theorem dX4_find_16 : decode cX4_find 16 = .ok (.aload_n 0, 1) := by decide +kernel
theorem dX4_find_17 : decode cX4_find 17 = .ok (.getfield 21, 3) := by decide +kernel
theorem dX4_find_20 : decode cX4_find 20 = .ok (.ishl, 1) := by decide +kernel
theorem dX4_find_21 : decode cX4_find 21 = .ok (.istore_n 3, 1) := by decide +kernel
theorem dX4_find_22 : decode cX4_find 22 = .ok (.iconst 1, 1) := by decide +kernel
theorem dX4_find_23 : decode cX4_find 23 = .ok (.istore 4, 2) := by decide +kernel
theorem dX4_find_25 : decode cX4_find 25 = .ok (.iload 4, 2) := by decide +kernel
theorem dX4_find_27 : decode cX4_find 27 = .ok (.iload_n 3, 1) := by decide +kernel
theorem dX4_find_28 : decode cX4_find 28 = .ok (.if_icmp .ge 73, 3) := by decide +kernel
theorem dX4_find_31 : decode cX4_find 31 = .ok (.iload 4, 2) := by decide +kernel
theorem dX4_find_33 : decode cX4_find 33 = .ok (.invokestatic 32, 3) := by decide +kernel
theorem dX4_find_36 : decode cX4_find 36 = .ok (.iconst 1, 1) := by decide +kernel
theorem dX4_find_37 : decode cX4_find 37 = .ok (.isub, 1) := by decide +kernel
theorem dX4_find_38 : decode cX4_find 38 = .ok (.istore 5, 2) := by decide +kernel
theorem dX4_find_40 : decode cX4_find 40 = .ok (.iconst 0, 1) := by decide +kernel
theorem dX4_find_41 : decode cX4_find 41 = .ok (.istore 6, 2) := by decide +kernel
theorem dX4_find_43 : decode cX4_find 43 = .ok (.iload 6, 2) := by decide +kernel
theorem dX4_find_45 : decode cX4_find 45 = .ok (.iload_n 3, 1) := by decide +kernel
theorem dX4_find_46 : decode cX4_find 46 = .ok (.if_icmp .ge 49, 3) := by decide +kernel
theorem dX4_find_49 : decode cX4_find 49 = .ok (.iload 6, 2) := by decide +kernel
theorem dX4_find_51 : decode cX4_find 51 = .ok (.invokestatic 32, 3) := by decide +kernel
theorem dX4_find_54 : decode cX4_find 54 = .ok (.iload 5, 2) := by decide +kernel
theorem dX4_find_56 : decode cX4_find 56 = .ok (.if_icmp .ne 33, 3) := by decide +kernel
theorem dX4_find_59 : decode cX4_find 59 = .ok (.aload_n 0, 1) := by decide +kernel
theorem dX4_find_60 : decode cX4_find 60 = .ok (.iload 4, 2) := by decide +kernel
theorem dX4_find_62 : decode cX4_find 62 = .ok (.iload 6, 2) := by decide +kernel
theorem dX4_find_64 : decode cX4_find 64 = .ok (.invokevirtual 38, 3) := by decide +kernel
theorem dX4_find_67 : decode cX4_find 67 = .ok (.ifCond .eq 22, 3) := by decide +kernel
theorem dX4_find_70 : decode cX4_find 70 = .ok (.aload_n 0, 1) := by decide +kernel
theorem dX4_find_71 : decode cX4_find 71 = .ok (.aload_n 1, 1) := by decide +kernel
theorem dX4_find_72 : decode cX4_find 72 = .ok (.invokevirtual 42, 3) := by decide +kernel
theorem dX4_find_75 : decode cX4_find 75 = .ok (.ifCond .eq 14, 3) := by decide +kernel
theorem dX4_find_78 : decode cX4_find 78 = .ok (.aload_n 0, 1) := by decide +kernel
theorem dX4_find_79 : decode cX4_find 79 = .ok (.invokevirtual 46, 3) := by decide +kernel
theorem dX4_find_82 : decode cX4_find 82 = .ok (.ifCond .eq 7, 3) := by decide +kernel
theorem dX4_find_85 : decode cX4_find 85 = .ok (.aload_n 0, 1) := by decide +kernel
theorem dX4_find_86 : decode cX4_find 86 = .ok (.invokevirtual 50, 3) := by decide +kernel
theorem dX4_find_89 : decode cX4_find 89 = .ok (.iinc 6 1, 3) := by decide +kernel
theorem dX4_find_92 : decode cX4_find 92 = .ok (.goto (-49), 3) := by decide +kernel
theorem dX4_find_95 : decode cX4_find 95 = .ok (.iinc 4 1, 3) := by decide +kernel
theorem dX4_find_98 : decode cX4_find 98 = .ok (.goto (-73), 3) := by decide +kernel
theorem dX4_find_101 : decode cX4_find 101 = .ok (.return_, 1) := by decide +kernel
theorem dX4_isWithin_0 : decode cX4_isWithin 0 = .ok (.iconst 0, 1) := by decide +kernel
theorem dX4_isWithin_1 : decode cX4_isWithin 1 = .ok (.istore_n 3, 1) := by decide +kernel
theorem dX4_isWithin_2 : decode cX4_isWithin 2 = .ok (.iload_n 3, 1) := by decide +kernel
theorem dX4_isWithin_3 : decode cX4_isWithin 3 = .ok (.aload_n 0, 1) := by decide +kernel
theorem dX4_isWithin_4 : decode cX4_isWithin 4 = .ok (.getfield 21, 3) := by decide +kernel
theorem dX4_isWithin_7 : decode cX4_isWithin 7 = .ok (.if_icmp .ge 28, 3) := by decide +kernel
theorem dX4_isWithin_10 : decode cX4_isWithin 10 = .ok (.aload_n 0, 1) := by decide +kernel
theorem dX4_isWithin_11 : decode cX4_isWithin 11 = .ok (.getfield 9, 3) := by decide +kernel
theorem dX4_isWithin_14 : decode cX4_isWithin 14 = .ok (.iload_n 3, 1) := by decide +kernel
theorem dX4_isWithin_15 : decode cX4_isWithin 15 = .ok (.iaload, 1) := by decide +kernel
theorem dX4_isWithin_16 : decode cX4_isWithin 16 = .ok (.iload_n 2, 1) := by decide +kernel
theorem dX4_isWithin_17 : decode cX4_isWithin 17 = .ok (.imul, 1) := by decide +kernel
theorem dX4_isWithin_18 : decode cX4_isWithin 18 = .ok (.iload_n 1, 1) := by decide +kernel
theorem dX4_isWithin_19 : decode cX4_isWithin 19 = .ok (.aload_n 0, 1) := by decide +kernel
theorem dX4_isWithin_20 : decode cX4_isWithin 20 = .ok (.getfield 25, 3) := by decide +kernel
theorem dX4_isWithin_23 : decode cX4_isWithin 23 = .ok (.imul, 1) := by decide +kernel
theorem dX4_isWithin_24 : decode cX4_isWithin 24 = .ok (.if_icmp .le 5, 3) := by decide +kernel
theorem dX4_isWithin_27 : decode cX4_isWithin 27 = .ok (.iconst 0, 1) := by decide +kernel
theorem dX4_isWithin_28 : decode cX4_isWithin 28 = .ok (.ireturn, 1) := by decide +kernel
theorem dX4_isWithin_29 : decode cX4_isWithin 29 = .ok (.iinc 3 1, 3) := by decide +kernel
theorem dX4_isWithin_32 : decode cX4_isWithin 32 = .ok (.goto (-30), 3) := by decide +kernel
theorem dX4_isWithin_35 : decode cX4_isWithin 35 = .ok (.iconst 1, 1) := by decide +kernel
theorem dX4_isWithin_36 : decode cX4_isWithin 36 = .ok (.ireturn, 1) := by decide +kernel
theorem dX4_findMinors_0 : decode cX4_findMinors 0 = .ok (.iconst 1, 1) := by decide +kernel
theorem dX4_findMinors_1 : decode cX4_findMinors 1 = .ok (.aload_n 0, 1) := by decide +kernel
theorem dX4_findMinors_2 : decode cX4_findMinors 2 = .ok (.getfield 21, 3) := by decide +kernel
theorem dX4_findMinors_5 : decode cX4_findMinors 5 = .ok (.ishl, 1) := by decide +kernel
theorem dX4_findMinors_6 : decode cX4_findMinors 6 = .ok (.istore_n 2, 1) := by decide +kernel
theorem dX4_findMinors_7 : decode cX4_findMinors 7 = .ok (.aload_n 0, 1) := by decide +kernel
theorem dX4_findMinors_8 : decode cX4_findMinors 8 = .ok (.getfield 18, 3) := by decide +kernel
theorem dX4_findMinors_11 : decode cX4_findMinors 11 = .ok (.iconst 0, 1) := by decide +kernel
theorem dX4_findMinors_12 : decode cX4_findMinors 12 = .ok (.iconst 1, 1) := by decide +kernel
theorem dX4_findMinors_13 : decode cX4_findMinors 13 = .ok (.iastore, 1) := by decide +kernel
theorem dX4_findMinors_14 : decode cX4_findMinors 14 = .ok (.iconst 1, 1) := by decide +kernel
theorem dX4_findMinors_15 : decode cX4_findMinors 15 = .ok (.istore_n 3, 1) := by decide +kernel
theorem dX4_findMinors_16 : decode cX4_findMinors 16 = .ok (.iload_n 3, 1) := by decide +kernel
theorem dX4_findMinors_17 : decode cX4_findMinors 17 = .ok (.iload_n 2, 1) := by decide +kernel
theorem dX4_findMinors_18 : decode cX4_findMinors 18 = .ok (.if_icmp .ge 60, 3) := by decide +kernel
theorem dX4_findMinors_21 : decode cX4_findMinors 21 = .ok (.iload_n 3, 1) := by decide +kernel
theorem dX4_findMinors_22 : decode cX4_findMinors 22 = .ok (.invokestatic 32, 3) := by decide +kernel
theorem dX4_findMinors_25 : decode cX4_findMinors 25 = .ok (.istore 4, 2) := by decide +kernel
theorem dX4_findMinors_27 : decode cX4_findMinors 27 = .ok (.iconst 1, 1) := by decide +kernel
theorem dX4_findMinors_28 : decode cX4_findMinors 28 = .ok (.istore 5, 2) := by decide +kernel
theorem dX4_findMinors_30 : decode cX4_findMinors 30 = .ok (.iload 5, 2) := by decide +kernel
theorem dX4_findMinors_32 : decode cX4_findMinors 32 = .ok (.iload_n 2, 1) := by decide +kernel
theorem dX4_findMinors_33 : decode cX4_findMinors 33 = .ok (.if_icmp .ge 39, 3) := by decide +kernel
theorem dX4_findMinors_36 : decode cX4_findMinors 36 = .ok (.iload 5, 2) := by decide +kernel
theorem dX4_findMinors_38 : decode cX4_findMinors 38 = .ok (.invokestatic 32, 3) := by decide +kernel
theorem dX4_findMinors_41 : decode cX4_findMinors 41 = .ok (.iload 4, 2) := by decide +kernel
theorem dX4_findMinors_43 : decode cX4_findMinors 43 = .ok (.if_icmp .ne 23, 3) := by decide +kernel
theorem dX4_findMinors_46 : decode cX4_findMinors 46 = .ok (.aload_n 0, 1) := by decide +kernel
theorem dX4_findMinors_47 : decode cX4_findMinors 47 = .ok (.getfield 18, 3) := by decide +kernel
theorem dX4_findMinors_50 : decode cX4_findMinors 50 = .ok (.iload_n 3, 1) := by decide +kernel
theorem dX4_findMinors_51 : decode cX4_findMinors 51 = .ok (.bipush 32, 2) := by decide +kernel
theorem dX4_findMinors_53 : decode cX4_findMinors 53 = .ok (.imul, 1) := by decide +kernel
theorem dX4_findMinors_54 : decode cX4_findMinors 54 = .ok (.iload 5, 2) := by decide +kernel
theorem dX4_findMinors_56 : decode cX4_findMinors 56 = .ok (.iadd, 1) := by decide +kernel
theorem dX4_findMinors_57 : decode cX4_findMinors 57 = .ok (.aload_n 0, 1) := by decide +kernel
theorem dX4_findMinors_58 : decode cX4_findMinors 58 = .ok (.aload_n 1, 1) := by decide +kernel
theorem dX4_findMinors_59 : decode cX4_findMinors 59 = .ok (.iload_n 3, 1) := by decide +kernel
theorem dX4_findMinors_60 : decode cX4_findMinors 60 = .ok (.iload 5, 2) := by decide +kernel
theorem dX4_findMinors_62 : decode cX4_findMinors 62 = .ok (.invokevirtual 53, 3) := by decide +kernel
theorem dX4_findMinors_65 : decode cX4_findMinors 65 = .ok (.iastore, 1) := by decide +kernel
theorem dX4_findMinors_66 : decode cX4_findMinors 66 = .ok (.iinc 5 1, 3) := by decide +kernel
theorem dX4_findMinors_69 : decode cX4_findMinors 69 = .ok (.goto (-39), 3) := by decide +kernel
theorem dX4_findMinors_72 : decode cX4_findMinors 72 = .ok (.iinc 3 1, 3) := by decide +kernel
theorem dX4_findMinors_75 : decode cX4_findMinors 75 = .ok (.goto (-59), 3) := by decide +kernel
theorem dX4_findMinors_78 : decode cX4_findMinors 78 = .ok (.return_, 1) := by decide +kernel
theorem dX4_minorOf_0 : decode cX4_minorOf 0 = .ok (.aload_n 0, 1) := by decide +kernel
theorem dX4_minorOf_1 : decode cX4_minorOf 1 = .ok (.iload_n 3, 1) := by decide +kernel
theorem dX4_minorOf_2 : decode cX4_minorOf 2 = .ok (.invokevirtual 57, 3) := by decide +kernel
theorem dX4_minorOf_5 : decode cX4_minorOf 5 = .ok (.istore 4, 2) := by decide +kernel
theorem dX4_minorOf_7 : decode cX4_minorOf 7 = .ok (.iload_n 3, 1) := by decide +kernel
theorem dX4_minorOf_8 : decode cX4_minorOf 8 = .ok (.iload_n 3, 1) := by decide +kernel
theorem dX4_minorOf_9 : decode cX4_minorOf 9 = .ok (.iconst 1, 1) := by decide +kernel
theorem dX4_minorOf_10 : decode cX4_minorOf 10 = .ok (.isub, 1) := by decide +kernel
theorem dX4_minorOf_11 : decode cX4_minorOf 11 = .ok (.iand, 1) := by decide +kernel
theorem dX4_minorOf_12 : decode cX4_minorOf 12 = .ok (.istore 5, 2) := by decide +kernel
theorem dX4_minorOf_14 : decode cX4_minorOf 14 = .ok (.iconst 1, 1) := by decide +kernel
theorem dX4_minorOf_15 : decode cX4_minorOf 15 = .ok (.istore 6, 2) := by decide +kernel
theorem dX4_minorOf_17 : decode cX4_minorOf 17 = .ok (.iconst 0, 1) := by decide +kernel
theorem dX4_minorOf_18 : decode cX4_minorOf 18 = .ok (.istore 7, 2) := by decide +kernel
theorem dX4_minorOf_20 : decode cX4_minorOf 20 = .ok (.iconst 0, 1) := by decide +kernel
theorem dX4_minorOf_21 : decode cX4_minorOf 21 = .ok (.istore 8, 2) := by decide +kernel
theorem dX4_minorOf_23 : decode cX4_minorOf 23 = .ok (.iload 8, 2) := by decide +kernel
theorem dX4_minorOf_25 : decode cX4_minorOf 25 = .ok (.aload_n 0, 1) := by decide +kernel
theorem dX4_minorOf_26 : decode cX4_minorOf 26 = .ok (.getfield 21, 3) := by decide +kernel
theorem dX4_minorOf_29 : decode cX4_minorOf 29 = .ok (.if_icmp .ge 56, 3) := by decide +kernel
theorem dX4_minorOf_32 : decode cX4_minorOf 32 = .ok (.iload_n 2, 1) := by decide +kernel
theorem dX4_minorOf_33 : decode cX4_minorOf 33 = .ok (.iload 8, 2) := by decide +kernel
theorem dX4_minorOf_35 : decode cX4_minorOf 35 = .ok (.invokestatic 60, 3) := by decide +kernel
theorem dX4_minorOf_38 : decode cX4_minorOf 38 = .ok (.ifCond .eq 41, 3) := by decide +kernel
theorem dX4_minorOf_41 : decode cX4_minorOf 41 = .ok (.iload 7, 2) := by decide +kernel
theorem dX4_minorOf_43 : decode cX4_minorOf 43 = .ok (.iload 6, 2) := by decide +kernel
theorem dX4_minorOf_45 : decode cX4_minorOf 45 = .ok (.aload_n 1, 1) := by decide +kernel
theorem dX4_minorOf_46 : decode cX4_minorOf 46 = .ok (.iload 8, 2) := by decide +kernel
theorem dX4_minorOf_48 : decode cX4_minorOf 48 = .ok (.aaload, 1) := by decide +kernel
theorem dX4_minorOf_49 : decode cX4_minorOf 49 = .ok (.iload 4, 2) := by decide +kernel
theorem dX4_minorOf_51 : decode cX4_minorOf 51 = .ok (.iaload, 1) := by decide +kernel
theorem dX4_minorOf_52 : decode cX4_minorOf 52 = .ok (.imul, 1) := by decide +kernel
theorem dX4_minorOf_53 : decode cX4_minorOf 53 = .ok (.aload_n 0, 1) := by decide +kernel
theorem dX4_minorOf_54 : decode cX4_minorOf 54 = .ok (.getfield 18, 3) := by decide +kernel
theorem dX4_minorOf_57 : decode cX4_minorOf 57 = .ok (.iload_n 2, 1) := by decide +kernel
theorem dX4_minorOf_58 : decode cX4_minorOf 58 = .ok (.iconst 1, 1) := by decide +kernel
theorem dX4_minorOf_59 : decode cX4_minorOf 59 = .ok (.iload 8, 2) := by decide +kernel
theorem dX4_minorOf_61 : decode cX4_minorOf 61 = .ok (.ishl, 1) := by decide +kernel
theorem dX4_minorOf_62 : decode cX4_minorOf 62 = .ok (.ixor, 1) := by decide +kernel
theorem dX4_minorOf_63 : decode cX4_minorOf 63 = .ok (.bipush 32, 2) := by decide +kernel
theorem dX4_minorOf_65 : decode cX4_minorOf 65 = .ok (.imul, 1) := by decide +kernel
theorem dX4_minorOf_66 : decode cX4_minorOf 66 = .ok (.iload 5, 2) := by decide +kernel
theorem dX4_minorOf_68 : decode cX4_minorOf 68 = .ok (.iadd, 1) := by decide +kernel
theorem dX4_minorOf_69 : decode cX4_minorOf 69 = .ok (.iaload, 1) := by decide +kernel
theorem dX4_minorOf_70 : decode cX4_minorOf 70 = .ok (.imul, 1) := by decide +kernel
theorem dX4_minorOf_71 : decode cX4_minorOf 71 = .ok (.iadd, 1) := by decide +kernel
theorem dX4_minorOf_72 : decode cX4_minorOf 72 = .ok (.istore 7, 2) := by decide +kernel
theorem dX4_minorOf_74 : decode cX4_minorOf 74 = .ok (.iload 6, 2) := by decide +kernel
theorem dX4_minorOf_76 : decode cX4_minorOf 76 = .ok (.ineg, 1) := by decide +kernel
theorem dX4_minorOf_77 : decode cX4_minorOf 77 = .ok (.istore 6, 2) := by decide +kernel
theorem dX4_minorOf_79 : decode cX4_minorOf 79 = .ok (.iinc 8 1, 3) := by decide +kernel
theorem dX4_minorOf_82 : decode cX4_minorOf 82 = .ok (.goto (-59), 3) := by decide +kernel
theorem dX4_minorOf_85 : decode cX4_minorOf 85 = .ok (.iload 7, 2) := by decide +kernel
theorem dX4_minorOf_87 : decode cX4_minorOf 87 = .ok (.ireturn, 1) := by decide +kernel
theorem dX4_leastOf_0 : decode cX4_leastOf 0 = .ok (.iconst 0, 1) := by decide +kernel
theorem dX4_leastOf_1 : decode cX4_leastOf 1 = .ok (.istore_n 2, 1) := by decide +kernel
theorem dX4_leastOf_2 : decode cX4_leastOf 2 = .ok (.iload_n 2, 1) := by decide +kernel
theorem dX4_leastOf_3 : decode cX4_leastOf 3 = .ok (.aload_n 0, 1) := by decide +kernel
theorem dX4_leastOf_4 : decode cX4_leastOf 4 = .ok (.getfield 21, 3) := by decide +kernel
theorem dX4_leastOf_7 : decode cX4_leastOf 7 = .ok (.iconst 1, 1) := by decide +kernel
theorem dX4_leastOf_8 : decode cX4_leastOf 8 = .ok (.isub, 1) := by decide +kernel
theorem dX4_leastOf_9 : decode cX4_leastOf 9 = .ok (.if_icmp .ge 17, 3) := by decide +kernel
theorem dX4_leastOf_12 : decode cX4_leastOf 12 = .ok (.iload_n 1, 1) := by decide +kernel
theorem dX4_leastOf_13 : decode cX4_leastOf 13 = .ok (.iload_n 2, 1) := by decide +kernel
theorem dX4_leastOf_14 : decode cX4_leastOf 14 = .ok (.invokestatic 60, 3) := by decide +kernel
theorem dX4_leastOf_17 : decode cX4_leastOf 17 = .ok (.ifCond .ne 9, 3) := by decide +kernel
theorem dX4_leastOf_20 : decode cX4_leastOf 20 = .ok (.iinc 2 1, 3) := by decide +kernel
theorem dX4_leastOf_23 : decode cX4_leastOf 23 = .ok (.goto (-21), 3) := by decide +kernel
theorem dX4_leastOf_26 : decode cX4_leastOf 26 = .ok (.iload_n 2, 1) := by decide +kernel
theorem dX4_leastOf_27 : decode cX4_leastOf 27 = .ok (.ireturn, 1) := by decide +kernel
theorem dX4_isIn_0 : decode cX4_isIn 0 = .ok (.iload_n 0, 1) := by decide +kernel
theorem dX4_isIn_1 : decode cX4_isIn 1 = .ok (.iload_n 1, 1) := by decide +kernel
theorem dX4_isIn_2 : decode cX4_isIn 2 = .ok (.ishr, 1) := by decide +kernel
theorem dX4_isIn_3 : decode cX4_isIn 3 = .ok (.iconst 1, 1) := by decide +kernel
theorem dX4_isIn_4 : decode cX4_isIn 4 = .ok (.iand, 1) := by decide +kernel
theorem dX4_isIn_5 : decode cX4_isIn 5 = .ok (.iconst 1, 1) := by decide +kernel
theorem dX4_isIn_6 : decode cX4_isIn 6 = .ok (.if_icmp .ne 7, 3) := by decide +kernel
theorem dX4_isIn_9 : decode cX4_isIn 9 = .ok (.iconst 1, 1) := by decide +kernel
theorem dX4_isIn_10 : decode cX4_isIn 10 = .ok (.goto 4, 3) := by decide +kernel
theorem dX4_isIn_13 : decode cX4_isIn 13 = .ok (.iconst 0, 1) := by decide +kernel
theorem dX4_isIn_14 : decode cX4_isIn 14 = .ok (.ireturn, 1) := by decide +kernel
theorem dX4_tryCorner_0 : decode cX4_tryCorner 0 = .ok (.iconst 1, 1) := by decide +kernel
theorem dX4_tryCorner_1 : decode cX4_tryCorner 1 = .ok (.istore_n 3, 1) := by decide +kernel
theorem dX4_tryCorner_2 : decode cX4_tryCorner 2 = .ok (.iconst 0, 1) := by decide +kernel
theorem dX4_tryCorner_3 : decode cX4_tryCorner 3 = .ok (.istore 4, 2) := by decide +kernel
theorem dX4_tryCorner_5 : decode cX4_tryCorner 5 = .ok (.iconst 0, 1) := by decide +kernel
theorem dX4_tryCorner_6 : decode cX4_tryCorner 6 = .ok (.istore 5, 2) := by decide +kernel
theorem dX4_tryCorner_8 : decode cX4_tryCorner 8 = .ok (.aload_n 0, 1) := by decide +kernel
theorem dX4_tryCorner_9 : decode cX4_tryCorner 9 = .ok (.iconst 0, 1) := by decide +kernel
theorem dX4_tryCorner_10 : decode cX4_tryCorner 10 = .ok (.putfield 63, 3) := by decide +kernel
theorem dX4_tryCorner_13 : decode cX4_tryCorner 13 = .ok (.iconst 0, 1) := by decide +kernel
theorem dX4_tryCorner_14 : decode cX4_tryCorner 14 = .ok (.istore 6, 2) := by decide +kernel
theorem dX4_tryCorner_16 : decode cX4_tryCorner 16 = .ok (.iload 6, 2) := by decide +kernel
theorem dX4_tryCorner_18 : decode cX4_tryCorner 18 = .ok (.aload_n 0, 1) := by decide +kernel
theorem dX4_tryCorner_19 : decode cX4_tryCorner 19 = .ok (.getfield 21, 3) := by decide +kernel
theorem dX4_tryCorner_22 : decode cX4_tryCorner 22 = .ok (.if_icmp .ge 114, 3) := by decide +kernel
theorem dX4_tryCorner_25 : decode cX4_tryCorner 25 = .ok (.aload_n 0, 1) := by decide +kernel
theorem dX4_tryCorner_26 : decode cX4_tryCorner 26 = .ok (.getfield 15, 3) := by decide +kernel
theorem dX4_tryCorner_29 : decode cX4_tryCorner 29 = .ok (.iload 6, 2) := by decide +kernel
theorem dX4_tryCorner_31 : decode cX4_tryCorner 31 = .ok (.iconst 0, 1) := by decide +kernel
theorem dX4_tryCorner_32 : decode cX4_tryCorner 32 = .ok (.iastore, 1) := by decide +kernel
theorem dX4_tryCorner_33 : decode cX4_tryCorner 33 = .ok (.iload_n 1, 1) := by decide +kernel
theorem dX4_tryCorner_34 : decode cX4_tryCorner 34 = .ok (.iload 6, 2) := by decide +kernel
theorem dX4_tryCorner_36 : decode cX4_tryCorner 36 = .ok (.invokestatic 60, 3) := by decide +kernel
theorem dX4_tryCorner_39 : decode cX4_tryCorner 39 = .ok (.ifCond .eq 31, 3) := by decide +kernel
theorem dX4_tryCorner_42 : decode cX4_tryCorner 42 = .ok (.aload_n 0, 1) := by decide +kernel
theorem dX4_tryCorner_43 : decode cX4_tryCorner 43 = .ok (.getfield 15, 3) := by decide +kernel
theorem dX4_tryCorner_46 : decode cX4_tryCorner 46 = .ok (.iload 6, 2) := by decide +kernel
theorem dX4_tryCorner_48 : decode cX4_tryCorner 48 = .ok (.iload_n 3, 1) := by decide +kernel
theorem dX4_tryCorner_49 : decode cX4_tryCorner 49 = .ok (.aload_n 0, 1) := by decide +kernel
theorem dX4_tryCorner_50 : decode cX4_tryCorner 50 = .ok (.getfield 18, 3) := by decide +kernel
theorem dX4_tryCorner_53 : decode cX4_tryCorner 53 = .ok (.iload_n 1, 1) := by decide +kernel
theorem dX4_tryCorner_54 : decode cX4_tryCorner 54 = .ok (.iconst 1, 1) := by decide +kernel
theorem dX4_tryCorner_55 : decode cX4_tryCorner 55 = .ok (.iload 6, 2) := by decide +kernel
theorem dX4_tryCorner_57 : decode cX4_tryCorner 57 = .ok (.ishl, 1) := by decide +kernel
theorem dX4_tryCorner_58 : decode cX4_tryCorner 58 = .ok (.ixor, 1) := by decide +kernel
theorem dX4_tryCorner_59 : decode cX4_tryCorner 59 = .ok (.bipush 32, 2) := by decide +kernel
theorem dX4_tryCorner_61 : decode cX4_tryCorner 61 = .ok (.imul, 1) := by decide +kernel
theorem dX4_tryCorner_62 : decode cX4_tryCorner 62 = .ok (.iload_n 2, 1) := by decide +kernel
theorem dX4_tryCorner_63 : decode cX4_tryCorner 63 = .ok (.iadd, 1) := by decide +kernel
theorem dX4_tryCorner_64 : decode cX4_tryCorner 64 = .ok (.iaload, 1) := by decide +kernel
theorem dX4_tryCorner_65 : decode cX4_tryCorner 65 = .ok (.imul, 1) := by decide +kernel
theorem dX4_tryCorner_66 : decode cX4_tryCorner 66 = .ok (.iastore, 1) := by decide +kernel
theorem dX4_tryCorner_67 : decode cX4_tryCorner 67 = .ok (.iload_n 3, 1) := by decide +kernel
theorem dX4_tryCorner_68 : decode cX4_tryCorner 68 = .ok (.ineg, 1) := by decide +kernel
theorem dX4_tryCorner_69 : decode cX4_tryCorner 69 = .ok (.istore_n 3, 1) := by decide +kernel
theorem dX4_tryCorner_70 : decode cX4_tryCorner 70 = .ok (.iload 4, 2) := by decide +kernel
theorem dX4_tryCorner_72 : decode cX4_tryCorner 72 = .ok (.ifCond .ne 13, 3) := by decide +kernel
theorem dX4_tryCorner_75 : decode cX4_tryCorner 75 = .ok (.aload_n 0, 1) := by decide +kernel
theorem dX4_tryCorner_76 : decode cX4_tryCorner 76 = .ok (.getfield 15, 3) := by decide +kernel
theorem dX4_tryCorner_79 : decode cX4_tryCorner 79 = .ok (.iload 6, 2) := by decide +kernel
theorem dX4_tryCorner_81 : decode cX4_tryCorner 81 = .ok (.iaload, 1) := by decide +kernel
theorem dX4_tryCorner_82 : decode cX4_tryCorner 82 = .ok (.ifCond .le 7, 3) := by decide +kernel
theorem dX4_tryCorner_85 : decode cX4_tryCorner 85 = .ok (.iconst 1, 1) := by decide +kernel
theorem dX4_tryCorner_86 : decode cX4_tryCorner 86 = .ok (.goto 4, 3) := by decide +kernel
theorem dX4_tryCorner_89 : decode cX4_tryCorner 89 = .ok (.iconst 0, 1) := by decide +kernel
theorem dX4_tryCorner_90 : decode cX4_tryCorner 90 = .ok (.istore 4, 2) := by decide +kernel
theorem dX4_tryCorner_92 : decode cX4_tryCorner 92 = .ok (.iload 5, 2) := by decide +kernel
theorem dX4_tryCorner_94 : decode cX4_tryCorner 94 = .ok (.ifCond .ne 13, 3) := by decide +kernel
theorem dX4_tryCorner_97 : decode cX4_tryCorner 97 = .ok (.aload_n 0, 1) := by decide +kernel
theorem dX4_tryCorner_98 : decode cX4_tryCorner 98 = .ok (.getfield 15, 3) := by decide +kernel
theorem dX4_tryCorner_101 : decode cX4_tryCorner 101 = .ok (.iload 6, 2) := by decide +kernel
theorem dX4_tryCorner_103 : decode cX4_tryCorner 103 = .ok (.iaload, 1) := by decide +kernel
theorem dX4_tryCorner_104 : decode cX4_tryCorner 104 = .ok (.ifCond .ge 7, 3) := by decide +kernel
theorem dX4_tryCorner_107 : decode cX4_tryCorner 107 = .ok (.iconst 1, 1) := by decide +kernel
theorem dX4_tryCorner_108 : decode cX4_tryCorner 108 = .ok (.goto 4, 3) := by decide +kernel
theorem dX4_tryCorner_111 : decode cX4_tryCorner 111 = .ok (.iconst 0, 1) := by decide +kernel
theorem dX4_tryCorner_112 : decode cX4_tryCorner 112 = .ok (.istore 5, 2) := by decide +kernel
theorem dX4_tryCorner_114 : decode cX4_tryCorner 114 = .ok (.aload_n 0, 1) := by decide +kernel
theorem dX4_tryCorner_115 : decode cX4_tryCorner 115 = .ok (.dup, 1) := by decide +kernel
theorem dX4_tryCorner_116 : decode cX4_tryCorner 116 = .ok (.getfield 63, 3) := by decide +kernel
theorem dX4_tryCorner_119 : decode cX4_tryCorner 119 = .ok (.aload_n 0, 1) := by decide +kernel
theorem dX4_tryCorner_120 : decode cX4_tryCorner 120 = .ok (.getfield 15, 3) := by decide +kernel
theorem dX4_tryCorner_123 : decode cX4_tryCorner 123 = .ok (.iload 6, 2) := by decide +kernel
theorem dX4_tryCorner_125 : decode cX4_tryCorner 125 = .ok (.iaload, 1) := by decide +kernel
theorem dX4_tryCorner_126 : decode cX4_tryCorner 126 = .ok (.iadd, 1) := by decide +kernel
theorem dX4_tryCorner_127 : decode cX4_tryCorner 127 = .ok (.putfield 63, 3) := by decide +kernel
theorem dX4_tryCorner_130 : decode cX4_tryCorner 130 = .ok (.iinc 6 1, 3) := by decide +kernel
theorem dX4_tryCorner_133 : decode cX4_tryCorner 133 = .ok (.goto (-117), 3) := by decide +kernel
theorem dX4_tryCorner_136 : decode cX4_tryCorner 136 = .ok (.iload 5, 2) := by decide +kernel
theorem dX4_tryCorner_138 : decode cX4_tryCorner 138 = .ok (.ifCond .eq 7, 3) := by decide +kernel
theorem dX4_tryCorner_141 : decode cX4_tryCorner 141 = .ok (.aload_n 0, 1) := by decide +kernel
theorem dX4_tryCorner_142 : decode cX4_tryCorner 142 = .ok (.invokevirtual 66, 3) := by decide +kernel
theorem dX4_tryCorner_145 : decode cX4_tryCorner 145 = .ok (.iload 4, 2) := by decide +kernel
theorem dX4_tryCorner_147 : decode cX4_tryCorner 147 = .ok (.iload 5, 2) := by decide +kernel
theorem dX4_tryCorner_149 : decode cX4_tryCorner 149 = .ok (.if_icmp .eq 7, 3) := by decide +kernel
theorem dX4_tryCorner_152 : decode cX4_tryCorner 152 = .ok (.iconst 1, 1) := by decide +kernel
theorem dX4_tryCorner_153 : decode cX4_tryCorner 153 = .ok (.goto 4, 3) := by decide +kernel
theorem dX4_tryCorner_156 : decode cX4_tryCorner 156 = .ok (.iconst 0, 1) := by decide +kernel
theorem dX4_tryCorner_157 : decode cX4_tryCorner 157 = .ok (.ireturn, 1) := by decide +kernel
theorem dX4_turnSigns_0 : decode cX4_turnSigns 0 = .ok (.iconst 0, 1) := by decide +kernel
theorem dX4_turnSigns_1 : decode cX4_turnSigns 1 = .ok (.istore_n 1, 1) := by decide +kernel
theorem dX4_turnSigns_2 : decode cX4_turnSigns 2 = .ok (.iload_n 1, 1) := by decide +kernel
theorem dX4_turnSigns_3 : decode cX4_turnSigns 3 = .ok (.aload_n 0, 1) := by decide +kernel
theorem dX4_turnSigns_4 : decode cX4_turnSigns 4 = .ok (.getfield 21, 3) := by decide +kernel
theorem dX4_turnSigns_7 : decode cX4_turnSigns 7 = .ok (.if_icmp .ge 22, 3) := by decide +kernel
theorem dX4_turnSigns_10 : decode cX4_turnSigns 10 = .ok (.aload_n 0, 1) := by decide +kernel
theorem dX4_turnSigns_11 : decode cX4_turnSigns 11 = .ok (.getfield 15, 3) := by decide +kernel
theorem dX4_turnSigns_14 : decode cX4_turnSigns 14 = .ok (.iload_n 1, 1) := by decide +kernel
theorem dX4_turnSigns_15 : decode cX4_turnSigns 15 = .ok (.aload_n 0, 1) := by decide +kernel
theorem dX4_turnSigns_16 : decode cX4_turnSigns 16 = .ok (.getfield 15, 3) := by decide +kernel
theorem dX4_turnSigns_19 : decode cX4_turnSigns 19 = .ok (.iload_n 1, 1) := by decide +kernel
theorem dX4_turnSigns_20 : decode cX4_turnSigns 20 = .ok (.iaload, 1) := by decide +kernel
theorem dX4_turnSigns_21 : decode cX4_turnSigns 21 = .ok (.ineg, 1) := by decide +kernel
theorem dX4_turnSigns_22 : decode cX4_turnSigns 22 = .ok (.iastore, 1) := by decide +kernel
theorem dX4_turnSigns_23 : decode cX4_turnSigns 23 = .ok (.iinc 1 1, 3) := by decide +kernel
theorem dX4_turnSigns_26 : decode cX4_turnSigns 26 = .ok (.goto (-24), 3) := by decide +kernel
theorem dX4_turnSigns_29 : decode cX4_turnSigns 29 = .ok (.aload_n 0, 1) := by decide +kernel
theorem dX4_turnSigns_30 : decode cX4_turnSigns 30 = .ok (.aload_n 0, 1) := by decide +kernel
theorem dX4_turnSigns_31 : decode cX4_turnSigns 31 = .ok (.getfield 63, 3) := by decide +kernel
theorem dX4_turnSigns_34 : decode cX4_turnSigns 34 = .ok (.ineg, 1) := by decide +kernel
theorem dX4_turnSigns_35 : decode cX4_turnSigns 35 = .ok (.putfield 63, 3) := by decide +kernel
theorem dX4_turnSigns_38 : decode cX4_turnSigns 38 = .ok (.return_, 1) := by decide +kernel
theorem dX4_isHolding_0 : decode cX4_isHolding 0 = .ok (.iconst 0, 1) := by decide +kernel
theorem dX4_isHolding_1 : decode cX4_isHolding 1 = .ok (.istore_n 2, 1) := by decide +kernel
theorem dX4_isHolding_2 : decode cX4_isHolding 2 = .ok (.iload_n 2, 1) := by decide +kernel
theorem dX4_isHolding_3 : decode cX4_isHolding 3 = .ok (.aload_n 0, 1) := by decide +kernel
theorem dX4_isHolding_4 : decode cX4_isHolding 4 = .ok (.getfield 21, 3) := by decide +kernel
theorem dX4_isHolding_7 : decode cX4_isHolding 7 = .ok (.if_icmp .ge 52, 3) := by decide +kernel
theorem dX4_isHolding_10 : decode cX4_isHolding 10 = .ok (.iconst 0, 1) := by decide +kernel
theorem dX4_isHolding_11 : decode cX4_isHolding 11 = .ok (.istore_n 3, 1) := by decide +kernel
theorem dX4_isHolding_12 : decode cX4_isHolding 12 = .ok (.iconst 0, 1) := by decide +kernel
theorem dX4_isHolding_13 : decode cX4_isHolding 13 = .ok (.istore 4, 2) := by decide +kernel
theorem dX4_isHolding_15 : decode cX4_isHolding 15 = .ok (.iload 4, 2) := by decide +kernel
theorem dX4_isHolding_17 : decode cX4_isHolding 17 = .ok (.aload_n 0, 1) := by decide +kernel
theorem dX4_isHolding_18 : decode cX4_isHolding 18 = .ok (.getfield 21, 3) := by decide +kernel
theorem dX4_isHolding_21 : decode cX4_isHolding 21 = .ok (.if_icmp .ge 26, 3) := by decide +kernel
theorem dX4_isHolding_24 : decode cX4_isHolding 24 = .ok (.iload_n 3, 1) := by decide +kernel
theorem dX4_isHolding_25 : decode cX4_isHolding 25 = .ok (.aload_n 0, 1) := by decide +kernel
theorem dX4_isHolding_26 : decode cX4_isHolding 26 = .ok (.getfield 15, 3) := by decide +kernel
theorem dX4_isHolding_29 : decode cX4_isHolding 29 = .ok (.iload 4, 2) := by decide +kernel
theorem dX4_isHolding_31 : decode cX4_isHolding 31 = .ok (.iaload, 1) := by decide +kernel
theorem dX4_isHolding_32 : decode cX4_isHolding 32 = .ok (.aload_n 1, 1) := by decide +kernel
theorem dX4_isHolding_33 : decode cX4_isHolding 33 = .ok (.iload 4, 2) := by decide +kernel
theorem dX4_isHolding_35 : decode cX4_isHolding 35 = .ok (.aaload, 1) := by decide +kernel
theorem dX4_isHolding_36 : decode cX4_isHolding 36 = .ok (.iload_n 2, 1) := by decide +kernel
theorem dX4_isHolding_37 : decode cX4_isHolding 37 = .ok (.iaload, 1) := by decide +kernel
theorem dX4_isHolding_38 : decode cX4_isHolding 38 = .ok (.imul, 1) := by decide +kernel
theorem dX4_isHolding_39 : decode cX4_isHolding 39 = .ok (.iadd, 1) := by decide +kernel
theorem dX4_isHolding_40 : decode cX4_isHolding 40 = .ok (.istore_n 3, 1) := by decide +kernel
theorem dX4_isHolding_41 : decode cX4_isHolding 41 = .ok (.iinc 4 1, 3) := by decide +kernel
theorem dX4_isHolding_44 : decode cX4_isHolding 44 = .ok (.goto (-29), 3) := by decide +kernel
theorem dX4_isHolding_47 : decode cX4_isHolding 47 = .ok (.iload_n 3, 1) := by decide +kernel
theorem dX4_isHolding_48 : decode cX4_isHolding 48 = .ok (.ifCond .ge 5, 3) := by decide +kernel
theorem dX4_isHolding_51 : decode cX4_isHolding 51 = .ok (.iconst 0, 1) := by decide +kernel
theorem dX4_isHolding_52 : decode cX4_isHolding 52 = .ok (.ireturn, 1) := by decide +kernel
theorem dX4_isHolding_53 : decode cX4_isHolding 53 = .ok (.iinc 2 1, 3) := by decide +kernel
theorem dX4_isHolding_56 : decode cX4_isHolding 56 = .ok (.goto (-54), 3) := by decide +kernel
theorem dX4_isHolding_59 : decode cX4_isHolding 59 = .ok (.iconst 1, 1) := by decide +kernel
theorem dX4_isHolding_60 : decode cX4_isHolding 60 = .ok (.ireturn, 1) := by decide +kernel
theorem dX4_isGreater_0 : decode cX4_isGreater 0 = .ok (.aload_n 0, 1) := by decide +kernel
theorem dX4_isGreater_1 : decode cX4_isGreater 1 = .ok (.getfield 25, 3) := by decide +kernel
theorem dX4_isGreater_4 : decode cX4_isGreater 4 = .ok (.ifCond .ne 5, 3) := by decide +kernel
theorem dX4_isGreater_7 : decode cX4_isGreater 7 = .ok (.iconst 1, 1) := by decide +kernel
theorem dX4_isGreater_8 : decode cX4_isGreater 8 = .ok (.ireturn, 1) := by decide +kernel
theorem dX4_isGreater_9 : decode cX4_isGreater 9 = .ok (.iconst 0, 1) := by decide +kernel
theorem dX4_isGreater_10 : decode cX4_isGreater 10 = .ok (.istore_n 1, 1) := by decide +kernel
theorem dX4_isGreater_11 : decode cX4_isGreater 11 = .ok (.iload_n 1, 1) := by decide +kernel
theorem dX4_isGreater_12 : decode cX4_isGreater 12 = .ok (.aload_n 0, 1) := by decide +kernel
theorem dX4_isGreater_13 : decode cX4_isGreater 13 = .ok (.getfield 21, 3) := by decide +kernel
theorem dX4_isGreater_16 : decode cX4_isGreater 16 = .ok (.if_icmp .ge 47, 3) := by decide +kernel
theorem dX4_isGreater_19 : decode cX4_isGreater 19 = .ok (.aload_n 0, 1) := by decide +kernel
theorem dX4_isGreater_20 : decode cX4_isGreater 20 = .ok (.getfield 15, 3) := by decide +kernel
theorem dX4_isGreater_23 : decode cX4_isGreater 23 = .ok (.iload_n 1, 1) := by decide +kernel
theorem dX4_isGreater_24 : decode cX4_isGreater 24 = .ok (.iaload, 1) := by decide +kernel
theorem dX4_isGreater_25 : decode cX4_isGreater 25 = .ok (.aload_n 0, 1) := by decide +kernel
theorem dX4_isGreater_26 : decode cX4_isGreater 26 = .ok (.getfield 25, 3) := by decide +kernel
theorem dX4_isGreater_29 : decode cX4_isGreater 29 = .ok (.imul, 1) := by decide +kernel
theorem dX4_isGreater_30 : decode cX4_isGreater 30 = .ok (.aload_n 0, 1) := by decide +kernel
theorem dX4_isGreater_31 : decode cX4_isGreater 31 = .ok (.getfield 9, 3) := by decide +kernel
theorem dX4_isGreater_34 : decode cX4_isGreater 34 = .ok (.iload_n 1, 1) := by decide +kernel
theorem dX4_isGreater_35 : decode cX4_isGreater 35 = .ok (.iaload, 1) := by decide +kernel
theorem dX4_isGreater_36 : decode cX4_isGreater 36 = .ok (.aload_n 0, 1) := by decide +kernel
theorem dX4_isGreater_37 : decode cX4_isGreater 37 = .ok (.getfield 63, 3) := by decide +kernel
theorem dX4_isGreater_40 : decode cX4_isGreater 40 = .ok (.imul, 1) := by decide +kernel
theorem dX4_isGreater_41 : decode cX4_isGreater 41 = .ok (.isub, 1) := by decide +kernel
theorem dX4_isGreater_42 : decode cX4_isGreater 42 = .ok (.istore_n 2, 1) := by decide +kernel
theorem dX4_isGreater_43 : decode cX4_isGreater 43 = .ok (.iload_n 2, 1) := by decide +kernel
theorem dX4_isGreater_44 : decode cX4_isGreater 44 = .ok (.ifCond .eq 13, 3) := by decide +kernel
theorem dX4_isGreater_47 : decode cX4_isGreater 47 = .ok (.iload_n 2, 1) := by decide +kernel
theorem dX4_isGreater_48 : decode cX4_isGreater 48 = .ok (.ifCond .le 7, 3) := by decide +kernel
theorem dX4_isGreater_51 : decode cX4_isGreater 51 = .ok (.iconst 1, 1) := by decide +kernel
theorem dX4_isGreater_52 : decode cX4_isGreater 52 = .ok (.goto 4, 3) := by decide +kernel
theorem dX4_isGreater_55 : decode cX4_isGreater 55 = .ok (.iconst 0, 1) := by decide +kernel
theorem dX4_isGreater_56 : decode cX4_isGreater 56 = .ok (.ireturn, 1) := by decide +kernel
theorem dX4_isGreater_57 : decode cX4_isGreater 57 = .ok (.iinc 1 1, 3) := by decide +kernel
theorem dX4_isGreater_60 : decode cX4_isGreater 60 = .ok (.goto (-49), 3) := by decide +kernel
theorem dX4_isGreater_63 : decode cX4_isGreater 63 = .ok (.iconst 0, 1) := by decide +kernel
theorem dX4_isGreater_64 : decode cX4_isGreater 64 = .ok (.ireturn, 1) := by decide +kernel
theorem dX4_takeTried_0 : decode cX4_takeTried 0 = .ok (.iconst 0, 1) := by decide +kernel
theorem dX4_takeTried_1 : decode cX4_takeTried 1 = .ok (.istore_n 1, 1) := by decide +kernel
theorem dX4_takeTried_2 : decode cX4_takeTried 2 = .ok (.iload_n 1, 1) := by decide +kernel
theorem dX4_takeTried_3 : decode cX4_takeTried 3 = .ok (.aload_n 0, 1) := by decide +kernel
theorem dX4_takeTried_4 : decode cX4_takeTried 4 = .ok (.getfield 21, 3) := by decide +kernel
theorem dX4_takeTried_7 : decode cX4_takeTried 7 = .ok (.if_icmp .ge 21, 3) := by decide +kernel
theorem dX4_takeTried_10 : decode cX4_takeTried 10 = .ok (.aload_n 0, 1) := by decide +kernel
theorem dX4_takeTried_11 : decode cX4_takeTried 11 = .ok (.getfield 9, 3) := by decide +kernel
theorem dX4_takeTried_14 : decode cX4_takeTried 14 = .ok (.iload_n 1, 1) := by decide +kernel
theorem dX4_takeTried_15 : decode cX4_takeTried 15 = .ok (.aload_n 0, 1) := by decide +kernel
theorem dX4_takeTried_16 : decode cX4_takeTried 16 = .ok (.getfield 15, 3) := by decide +kernel
theorem dX4_takeTried_19 : decode cX4_takeTried 19 = .ok (.iload_n 1, 1) := by decide +kernel
theorem dX4_takeTried_20 : decode cX4_takeTried 20 = .ok (.iaload, 1) := by decide +kernel
theorem dX4_takeTried_21 : decode cX4_takeTried 21 = .ok (.iastore, 1) := by decide +kernel
theorem dX4_takeTried_22 : decode cX4_takeTried 22 = .ok (.iinc 1 1, 3) := by decide +kernel
theorem dX4_takeTried_25 : decode cX4_takeTried 25 = .ok (.goto (-23), 3) := by decide +kernel
theorem dX4_takeTried_28 : decode cX4_takeTried 28 = .ok (.aload_n 0, 1) := by decide +kernel
theorem dX4_takeTried_29 : decode cX4_takeTried 29 = .ok (.aload_n 0, 1) := by decide +kernel
theorem dX4_takeTried_30 : decode cX4_takeTried 30 = .ok (.getfield 63, 3) := by decide +kernel
theorem dX4_takeTried_33 : decode cX4_takeTried 33 = .ok (.putfield 25, 3) := by decide +kernel
theorem dX4_takeTried_36 : decode cX4_takeTried 36 = .ok (.return_, 1) := by decide +kernel
end
section
theorem dX5_init_0 : decode cX5_init 0 = .ok (.aload_n 0, 1) := by decide +kernel
theorem dX5_init_1 : decode cX5_init 1 = .ok (.invokespecial 3, 3) := by decide +kernel
theorem dX5_init_4 : decode cX5_init 4 = .ok (.aload_n 0, 1) := by decide +kernel
theorem dX5_init_5 : decode cX5_init 5 = .ok (.bipush 10, 2) := by decide +kernel
theorem dX5_init_7 : decode cX5_init 7 = .ok (.newarray .int, 2) := by decide +kernel
theorem dX5_init_9 : decode cX5_init 9 = .ok (.putfield 9, 3) := by decide +kernel
theorem dX5_init_12 : decode cX5_init 12 = .ok (.aload_n 0, 1) := by decide +kernel
theorem dX5_init_13 : decode cX5_init 13 = .ok (.bipush 13, 2) := by decide +kernel
theorem dX5_init_15 : decode cX5_init 15 = .ok (.newarray .int, 2) := by decide +kernel
theorem dX5_init_17 : decode cX5_init 17 = .ok (.putfield 15, 3) := by decide +kernel
theorem dX5_init_20 : decode cX5_init 20 = .ok (.aload_n 0, 1) := by decide +kernel
theorem dX5_init_21 : decode cX5_init 21 = .ok (.bipush 10, 2) := by decide +kernel
theorem dX5_init_23 : decode cX5_init 23 = .ok (.newarray .int, 2) := by decide +kernel
theorem dX5_init_25 : decode cX5_init 25 = .ok (.putfield 18, 3) := by decide +kernel
theorem dX5_init_28 : decode cX5_init 28 = .ok (.return_, 1) := by decide +kernel
theorem dX5_lay_0 : decode cX5_lay 0 = .ok (.aload_n 0, 1) := by decide +kernel
theorem dX5_lay_1 : decode cX5_lay 1 = .ok (.iconst 0, 1) := by decide +kernel
theorem dX5_lay_2 : decode cX5_lay 2 = .ok (.putfield 21, 3) := by decide +kernel
theorem dX5_lay_5 : decode cX5_lay 5 = .ok (.aload_n 0, 1) := by decide +kernel
theorem dX5_lay_6 : decode cX5_lay 6 = .ok (.iconst 0, 1) := by decide +kernel
theorem dX5_lay_7 : decode cX5_lay 7 = .ok (.putfield 25, 3) := by decide +kernel
theorem dX5_lay_10 : decode cX5_lay 10 = .ok (.aload_n 0, 1) := by decide +kernel
theorem dX5_lay_11 : decode cX5_lay 11 = .ok (.iconst 0, 1) := by decide +kernel
theorem dX5_lay_12 : decode cX5_lay 12 = .ok (.putfield 28, 3) := by decide +kernel
theorem dX5_lay_15 : decode cX5_lay 15 = .ok (.aload_n 0, 1) := by decide +kernel
theorem dX5_lay_16 : decode cX5_lay 16 = .ok (.aload_n 2, 1) := by decide +kernel
theorem dX5_lay_17 : decode cX5_lay 17 = .ok (.iload_n 3, 1) := by decide +kernel
theorem dX5_lay_18 : decode cX5_lay 18 = .ok (.invokevirtual 31, 3) := by decide +kernel
theorem dX5_lay_21 : decode cX5_lay 21 = .ok (.iconst 1, 1) := by decide +kernel
theorem dX5_lay_22 : decode cX5_lay 22 = .ok (.istore 4, 2) := by decide +kernel
theorem dX5_lay_24 : decode cX5_lay 24 = .ok (.iload 4, 2) := by decide +kernel
theorem dX5_lay_26 : decode cX5_lay 26 = .ok (.bipush 12, 2) := by decide +kernel
theorem dX5_lay_28 : decode cX5_lay 28 = .ok (.if_icmp .gt 38, 3) := by decide +kernel
theorem dX5_lay_31 : decode cX5_lay 31 = .ok (.aload_n 0, 1) := by decide +kernel
theorem dX5_lay_32 : decode cX5_lay 32 = .ok (.aload_n 2, 1) := by decide +kernel
theorem dX5_lay_33 : decode cX5_lay 33 = .ok (.iload_n 3, 1) := by decide +kernel
theorem dX5_lay_34 : decode cX5_lay 34 = .ok (.invokevirtual 31, 3) := by decide +kernel
theorem dX5_lay_37 : decode cX5_lay 37 = .ok (.aload_n 0, 1) := by decide +kernel
theorem dX5_lay_38 : decode cX5_lay 38 = .ok (.aload_n 1, 1) := by decide +kernel
theorem dX5_lay_39 : decode cX5_lay 39 = .ok (.iload 4, 2) := by decide +kernel
theorem dX5_lay_41 : decode cX5_lay 41 = .ok (.bipush 6, 2) := by decide +kernel
theorem dX5_lay_43 : decode cX5_lay 43 = .ok (.invokestatic 35, 3) := by decide +kernel
theorem dX5_lay_46 : decode cX5_lay 46 = .ok (.invokevirtual 41, 3) := by decide +kernel
theorem dX5_lay_49 : decode cX5_lay 49 = .ok (.aload_n 0, 1) := by decide +kernel
theorem dX5_lay_50 : decode cX5_lay 50 = .ok (.getfield 15, 3) := by decide +kernel
theorem dX5_lay_53 : decode cX5_lay 53 = .ok (.iload 4, 2) := by decide +kernel
theorem dX5_lay_55 : decode cX5_lay 55 = .ok (.aload_n 0, 1) := by decide +kernel
theorem dX5_lay_56 : decode cX5_lay 56 = .ok (.getfield 28, 3) := by decide +kernel
theorem dX5_lay_59 : decode cX5_lay 59 = .ok (.iastore, 1) := by decide +kernel
theorem dX5_lay_60 : decode cX5_lay 60 = .ok (.iinc 4 1, 3) := by decide +kernel
theorem dX5_lay_63 : decode cX5_lay 63 = .ok (.goto (-39), 3) := by decide +kernel
theorem dX5_lay_66 : decode cX5_lay 66 = .ok (.return_, 1) := by decide +kernel
theorem dX5_draw_0 : decode cX5_draw 0 = .ok (.aload_n 0, 1) := by decide +kernel
theorem dX5_draw_1 : decode cX5_draw 1 = .ok (.getfield 25, 3) := by decide +kernel
theorem dX5_draw_4 : decode cX5_draw 4 = .ok (.iload_n 2, 1) := by decide +kernel
theorem dX5_draw_5 : decode cX5_draw 5 = .ok (.if_icmp .ne 13, 3) := by decide +kernel
theorem dX5_draw_8 : decode cX5_draw 8 = .ok (.aload_n 0, 1) := by decide +kernel
theorem dX5_draw_9 : decode cX5_draw 9 = .ok (.dup, 1) := by decide +kernel
theorem dX5_draw_10 : decode cX5_draw 10 = .ok (.getfield 25, 3) := by decide +kernel
theorem dX5_draw_13 : decode cX5_draw 13 = .ok (.iconst 1, 1) := by decide +kernel
theorem dX5_draw_14 : decode cX5_draw 14 = .ok (.iadd, 1) := by decide +kernel
theorem dX5_draw_15 : decode cX5_draw 15 = .ok (.putfield 25, 3) := by decide +kernel
theorem dX5_draw_18 : decode cX5_draw 18 = .ok (.aload_n 0, 1) := by decide +kernel
theorem dX5_draw_19 : decode cX5_draw 19 = .ok (.getfield 25, 3) := by decide +kernel
theorem dX5_draw_22 : decode cX5_draw 22 = .ok (.aload_n 1, 1) := by decide +kernel
theorem dX5_draw_23 : decode cX5_draw 23 = .ok (.getfield 45, 3) := by decide +kernel
theorem dX5_draw_26 : decode cX5_draw 26 = .ok (.if_icmp .ge 41, 3) := by decide +kernel
theorem dX5_draw_29 : decode cX5_draw 29 = .ok (.aload_n 0, 1) := by decide +kernel
theorem dX5_draw_30 : decode cX5_draw 30 = .ok (.getfield 18, 3) := by decide +kernel
theorem dX5_draw_33 : decode cX5_draw 33 = .ok (.aload_n 0, 1) := by decide +kernel
theorem dX5_draw_34 : decode cX5_draw 34 = .ok (.getfield 21, 3) := by decide +kernel
theorem dX5_draw_37 : decode cX5_draw 37 = .ok (.aload_n 1, 1) := by decide +kernel
theorem dX5_draw_38 : decode cX5_draw 38 = .ok (.getfield 50, 3) := by decide +kernel
theorem dX5_draw_41 : decode cX5_draw 41 = .ok (.aload_n 0, 1) := by decide +kernel
theorem dX5_draw_42 : decode cX5_draw 42 = .ok (.getfield 25, 3) := by decide +kernel
theorem dX5_draw_45 : decode cX5_draw 45 = .ok (.iaload, 1) := by decide +kernel
theorem dX5_draw_46 : decode cX5_draw 46 = .ok (.iastore, 1) := by decide +kernel
theorem dX5_draw_47 : decode cX5_draw 47 = .ok (.aload_n 0, 1) := by decide +kernel
theorem dX5_draw_48 : decode cX5_draw 48 = .ok (.dup, 1) := by decide +kernel
theorem dX5_draw_49 : decode cX5_draw 49 = .ok (.getfield 21, 3) := by decide +kernel
theorem dX5_draw_52 : decode cX5_draw 52 = .ok (.iconst 1, 1) := by decide +kernel
theorem dX5_draw_53 : decode cX5_draw 53 = .ok (.iadd, 1) := by decide +kernel
theorem dX5_draw_54 : decode cX5_draw 54 = .ok (.putfield 21, 3) := by decide +kernel
theorem dX5_draw_57 : decode cX5_draw 57 = .ok (.aload_n 0, 1) := by decide +kernel
theorem dX5_draw_58 : decode cX5_draw 58 = .ok (.dup, 1) := by decide +kernel
theorem dX5_draw_59 : decode cX5_draw 59 = .ok (.getfield 25, 3) := by decide +kernel
theorem dX5_draw_62 : decode cX5_draw 62 = .ok (.iconst 1, 1) := by decide +kernel
theorem dX5_draw_63 : decode cX5_draw 63 = .ok (.iadd, 1) := by decide +kernel
theorem dX5_draw_64 : decode cX5_draw 64 = .ok (.putfield 25, 3) := by decide +kernel
theorem dX5_draw_67 : decode cX5_draw 67 = .ok (.return_, 1) := by decide +kernel
theorem dX5_playHand_0 : decode cX5_playHand 0 = .ok (.iload_n 2, 1) := by decide +kernel
theorem dX5_playHand_1 : decode cX5_playHand 1 = .ok (.istore_n 3, 1) := by decide +kernel
theorem dX5_playHand_2 : decode cX5_playHand 2 = .ok (.iconst 0, 1) := by decide +kernel
theorem dX5_playHand_3 : decode cX5_playHand 3 = .ok (.istore 4, 2) := by decide +kernel
theorem dX5_playHand_5 : decode cX5_playHand 5 = .ok (.iload 4, 2) := by decide +kernel
theorem dX5_playHand_7 : decode cX5_playHand 7 = .ok (.bipush 10, 2) := by decide +kernel
theorem dX5_playHand_9 : decode cX5_playHand 9 = .ok (.if_icmp .ge 45, 3) := by decide +kernel
theorem dX5_playHand_12 : decode cX5_playHand 12 = .ok (.aload_n 0, 1) := by decide +kernel
theorem dX5_playHand_13 : decode cX5_playHand 13 = .ok (.aload_n 1, 1) := by decide +kernel
theorem dX5_playHand_14 : decode cX5_playHand 14 = .ok (.iload_n 3, 1) := by decide +kernel
theorem dX5_playHand_15 : decode cX5_playHand 15 = .ok (.invokevirtual 53, 3) := by decide +kernel
theorem dX5_playHand_18 : decode cX5_playHand 18 = .ok (.istore 5, 2) := by decide +kernel
theorem dX5_playHand_20 : decode cX5_playHand 20 = .ok (.iload 5, 2) := by decide +kernel
theorem dX5_playHand_22 : decode cX5_playHand 22 = .ok (.iconst (-1), 1) := by decide +kernel
theorem dX5_playHand_23 : decode cX5_playHand 23 = .ok (.if_icmp .ne 4, 3) := by decide +kernel
theorem dX5_playHand_26 : decode cX5_playHand 26 = .ok (.return_, 1) := by decide +kernel
theorem dX5_playHand_27 : decode cX5_playHand 27 = .ok (.iload_n 3, 1) := by decide +kernel
theorem dX5_playHand_28 : decode cX5_playHand 28 = .ok (.aload_n 1, 1) := by decide +kernel
theorem dX5_playHand_29 : decode cX5_playHand 29 = .ok (.getfield 57, 3) := by decide +kernel
theorem dX5_playHand_32 : decode cX5_playHand 32 = .ok (.aload_n 0, 1) := by decide +kernel
theorem dX5_playHand_33 : decode cX5_playHand 33 = .ok (.getfield 18, 3) := by decide +kernel
theorem dX5_playHand_36 : decode cX5_playHand 36 = .ok (.iload 5, 2) := by decide +kernel
theorem dX5_playHand_38 : decode cX5_playHand 38 = .ok (.iaload, 1) := by decide +kernel
theorem dX5_playHand_39 : decode cX5_playHand 39 = .ok (.iaload, 1) := by decide +kernel
theorem dX5_playHand_40 : decode cX5_playHand 40 = .ok (.isub, 1) := by decide +kernel
theorem dX5_playHand_41 : decode cX5_playHand 41 = .ok (.istore_n 3, 1) := by decide +kernel
theorem dX5_playHand_42 : decode cX5_playHand 42 = .ok (.aload_n 0, 1) := by decide +kernel
theorem dX5_playHand_43 : decode cX5_playHand 43 = .ok (.iload 5, 2) := by decide +kernel
theorem dX5_playHand_45 : decode cX5_playHand 45 = .ok (.invokevirtual 62, 3) := by decide +kernel
theorem dX5_playHand_48 : decode cX5_playHand 48 = .ok (.iinc 4 1, 3) := by decide +kernel
theorem dX5_playHand_51 : decode cX5_playHand 51 = .ok (.goto (-46), 3) := by decide +kernel
theorem dX5_playHand_54 : decode cX5_playHand 54 = .ok (.return_, 1) := by decide +kernel
theorem dX5_nextPlace_0 : decode cX5_nextPlace 0 = .ok (.iconst (-1), 1) := by decide +kernel
theorem dX5_nextPlace_1 : decode cX5_nextPlace 1 = .ok (.istore_n 3, 1) := by decide +kernel
theorem dX5_nextPlace_2 : decode cX5_nextPlace 2 = .ok (.iconst 0, 1) := by decide +kernel
theorem dX5_nextPlace_3 : decode cX5_nextPlace 3 = .ok (.istore 4, 2) := by decide +kernel
theorem dX5_nextPlace_5 : decode cX5_nextPlace 5 = .ok (.iload 4, 2) := by decide +kernel
theorem dX5_nextPlace_7 : decode cX5_nextPlace 7 = .ok (.aload_n 0, 1) := by decide +kernel
theorem dX5_nextPlace_8 : decode cX5_nextPlace 8 = .ok (.getfield 21, 3) := by decide +kernel
theorem dX5_nextPlace_11 : decode cX5_nextPlace 11 = .ok (.if_icmp .ge 53, 3) := by decide +kernel
theorem dX5_nextPlace_14 : decode cX5_nextPlace 14 = .ok (.aload_n 1, 1) := by decide +kernel
theorem dX5_nextPlace_15 : decode cX5_nextPlace 15 = .ok (.getfield 57, 3) := by decide +kernel
theorem dX5_nextPlace_18 : decode cX5_nextPlace 18 = .ok (.aload_n 0, 1) := by decide +kernel
theorem dX5_nextPlace_19 : decode cX5_nextPlace 19 = .ok (.getfield 18, 3) := by decide +kernel
theorem dX5_nextPlace_22 : decode cX5_nextPlace 22 = .ok (.iload 4, 2) := by decide +kernel
theorem dX5_nextPlace_24 : decode cX5_nextPlace 24 = .ok (.iaload, 1) := by decide +kernel
theorem dX5_nextPlace_25 : decode cX5_nextPlace 25 = .ok (.iaload, 1) := by decide +kernel
theorem dX5_nextPlace_26 : decode cX5_nextPlace 26 = .ok (.iload_n 2, 1) := by decide +kernel
theorem dX5_nextPlace_27 : decode cX5_nextPlace 27 = .ok (.if_icmp .gt 31, 3) := by decide +kernel
theorem dX5_nextPlace_30 : decode cX5_nextPlace 30 = .ok (.iload_n 3, 1) := by decide +kernel
theorem dX5_nextPlace_31 : decode cX5_nextPlace 31 = .ok (.iconst (-1), 1) := by decide +kernel
theorem dX5_nextPlace_32 : decode cX5_nextPlace 32 = .ok (.if_icmp .eq 23, 3) := by decide +kernel
theorem dX5_nextPlace_35 : decode cX5_nextPlace 35 = .ok (.aload_n 1, 1) := by decide +kernel
theorem dX5_nextPlace_36 : decode cX5_nextPlace 36 = .ok (.aload_n 0, 1) := by decide +kernel
theorem dX5_nextPlace_37 : decode cX5_nextPlace 37 = .ok (.getfield 18, 3) := by decide +kernel
theorem dX5_nextPlace_40 : decode cX5_nextPlace 40 = .ok (.iload 4, 2) := by decide +kernel
theorem dX5_nextPlace_42 : decode cX5_nextPlace 42 = .ok (.iaload, 1) := by decide +kernel
theorem dX5_nextPlace_43 : decode cX5_nextPlace 43 = .ok (.aload_n 0, 1) := by decide +kernel
theorem dX5_nextPlace_44 : decode cX5_nextPlace 44 = .ok (.getfield 18, 3) := by decide +kernel
theorem dX5_nextPlace_47 : decode cX5_nextPlace 47 = .ok (.iload_n 3, 1) := by decide +kernel
theorem dX5_nextPlace_48 : decode cX5_nextPlace 48 = .ok (.iaload, 1) := by decide +kernel
theorem dX5_nextPlace_49 : decode cX5_nextPlace 49 = .ok (.invokevirtual 66, 3) := by decide +kernel
theorem dX5_nextPlace_52 : decode cX5_nextPlace 52 = .ok (.ifCond .eq 6, 3) := by decide +kernel
theorem dX5_nextPlace_55 : decode cX5_nextPlace 55 = .ok (.iload 4, 2) := by decide +kernel
theorem dX5_nextPlace_57 : decode cX5_nextPlace 57 = .ok (.istore_n 3, 1) := by decide +kernel
theorem dX5_nextPlace_58 : decode cX5_nextPlace 58 = .ok (.iinc 4 1, 3) := by decide +kernel
theorem dX5_nextPlace_61 : decode cX5_nextPlace 61 = .ok (.goto (-56), 3) := by decide +kernel
theorem dX5_nextPlace_64 : decode cX5_nextPlace 64 = .ok (.iload_n 3, 1) := by decide +kernel
theorem dX5_nextPlace_65 : decode cX5_nextPlace 65 = .ok (.ireturn, 1) := by decide +kernel
theorem dX5_putDown_0 : decode cX5_putDown 0 = .ok (.aload_n 0, 1) := by decide +kernel
theorem dX5_putDown_1 : decode cX5_putDown 1 = .ok (.getfield 9, 3) := by decide +kernel
theorem dX5_putDown_4 : decode cX5_putDown 4 = .ok (.aload_n 0, 1) := by decide +kernel
theorem dX5_putDown_5 : decode cX5_putDown 5 = .ok (.getfield 28, 3) := by decide +kernel
theorem dX5_putDown_8 : decode cX5_putDown 8 = .ok (.aload_n 0, 1) := by decide +kernel
theorem dX5_putDown_9 : decode cX5_putDown 9 = .ok (.getfield 18, 3) := by decide +kernel
theorem dX5_putDown_12 : decode cX5_putDown 12 = .ok (.iload_n 1, 1) := by decide +kernel
theorem dX5_putDown_13 : decode cX5_putDown 13 = .ok (.iaload, 1) := by decide +kernel
theorem dX5_putDown_14 : decode cX5_putDown 14 = .ok (.iastore, 1) := by decide +kernel
theorem dX5_putDown_15 : decode cX5_putDown 15 = .ok (.aload_n 0, 1) := by decide +kernel
theorem dX5_putDown_16 : decode cX5_putDown 16 = .ok (.dup, 1) := by decide +kernel
theorem dX5_putDown_17 : decode cX5_putDown 17 = .ok (.getfield 28, 3) := by decide +kernel
theorem dX5_putDown_20 : decode cX5_putDown 20 = .ok (.iconst 1, 1) := by decide +kernel
theorem dX5_putDown_21 : decode cX5_putDown 21 = .ok (.iadd, 1) := by decide +kernel
theorem dX5_putDown_22 : decode cX5_putDown 22 = .ok (.putfield 28, 3) := by decide +kernel
theorem dX5_putDown_25 : decode cX5_putDown 25 = .ok (.aload_n 0, 1) := by decide +kernel
theorem dX5_putDown_26 : decode cX5_putDown 26 = .ok (.dup, 1) := by decide +kernel
theorem dX5_putDown_27 : decode cX5_putDown 27 = .ok (.getfield 21, 3) := by decide +kernel
theorem dX5_putDown_30 : decode cX5_putDown 30 = .ok (.iconst 1, 1) := by decide +kernel
theorem dX5_putDown_31 : decode cX5_putDown 31 = .ok (.isub, 1) := by decide +kernel
theorem dX5_putDown_32 : decode cX5_putDown 32 = .ok (.putfield 21, 3) := by decide +kernel
theorem dX5_putDown_35 : decode cX5_putDown 35 = .ok (.aload_n 0, 1) := by decide +kernel
theorem dX5_putDown_36 : decode cX5_putDown 36 = .ok (.getfield 18, 3) := by decide +kernel
theorem dX5_putDown_39 : decode cX5_putDown 39 = .ok (.iload_n 1, 1) := by decide +kernel
theorem dX5_putDown_40 : decode cX5_putDown 40 = .ok (.aload_n 0, 1) := by decide +kernel
theorem dX5_putDown_41 : decode cX5_putDown 41 = .ok (.getfield 18, 3) := by decide +kernel
theorem dX5_putDown_44 : decode cX5_putDown 44 = .ok (.aload_n 0, 1) := by decide +kernel
theorem dX5_putDown_45 : decode cX5_putDown 45 = .ok (.getfield 21, 3) := by decide +kernel
theorem dX5_putDown_48 : decode cX5_putDown 48 = .ok (.iaload, 1) := by decide +kernel
theorem dX5_putDown_49 : decode cX5_putDown 49 = .ok (.iastore, 1) := by decide +kernel
theorem dX5_putDown_50 : decode cX5_putDown 50 = .ok (.return_, 1) := by decide +kernel
theorem dX6_init_0 : decode cX6_init 0 = .ok (.aload_n 0, 1) := by decide +kernel
theorem dX6_init_1 : decode cX6_init 1 = .ok (.invokespecial 3, 3) := by decide +kernel
theorem dX6_init_4 : decode cX6_init 4 = .ok (.aload_n 0, 1) := by decide +kernel
theorem dX6_init_5 : decode cX6_init 5 = .ok (.bipush 30, 2) := by decide +kernel
theorem dX6_init_7 : decode cX6_init 7 = .ok (.newarray .int, 2) := by decide +kernel
theorem dX6_init_9 : decode cX6_init 9 = .ok (.putfield 9, 3) := by decide +kernel
theorem dX6_init_12 : decode cX6_init 12 = .ok (.return_, 1) := by decide +kernel
theorem dX6_find_0 : decode cX6_find 0 = .ok (.aload_n 0, 1) := by decide +kernel
theorem dX6_find_1 : decode cX6_find 1 = .ok (.iconst 0, 1) := by decide +kernel
theorem dX6_find_2 : decode cX6_find 2 = .ok (.putfield 15, 3) := by decide +kernel
theorem dX6_find_5 : decode cX6_find 5 = .ok (.iconst 0, 1) := by decide +kernel
theorem dX6_find_6 : decode cX6_find 6 = .ok (.istore_n 3, 1) := by decide +kernel
theorem dX6_find_7 : decode cX6_find 7 = .ok (.iload_n 3, 1) := by decide +kernel
theorem dX6_find_8 : decode cX6_find 8 = .ok (.iload_n 2, 1) := by decide +kernel
theorem dX6_find_9 : decode cX6_find 9 = .ok (.if_icmp .ge 35, 3) := by decide +kernel
theorem dX6_find_12 : decode cX6_find 12 = .ok (.iload_n 3, 1) := by decide +kernel
theorem dX6_find_13 : decode cX6_find 13 = .ok (.iconst 1, 1) := by decide +kernel
theorem dX6_find_14 : decode cX6_find 14 = .ok (.iadd, 1) := by decide +kernel
theorem dX6_find_15 : decode cX6_find 15 = .ok (.istore 4, 2) := by decide +kernel
theorem dX6_find_17 : decode cX6_find 17 = .ok (.iload 4, 2) := by decide +kernel
theorem dX6_find_19 : decode cX6_find 19 = .ok (.iload_n 2, 1) := by decide +kernel
theorem dX6_find_20 : decode cX6_find 20 = .ok (.if_icmp .ge 18, 3) := by decide +kernel
theorem dX6_find_23 : decode cX6_find 23 = .ok (.aload_n 0, 1) := by decide +kernel
theorem dX6_find_24 : decode cX6_find 24 = .ok (.aload_n 1, 1) := by decide +kernel
theorem dX6_find_25 : decode cX6_find 25 = .ok (.iload_n 2, 1) := by decide +kernel
theorem dX6_find_26 : decode cX6_find 26 = .ok (.iload_n 3, 1) := by decide +kernel
theorem dX6_find_27 : decode cX6_find 27 = .ok (.iload 4, 2) := by decide +kernel
theorem dX6_find_29 : decode cX6_find 29 = .ok (.invokevirtual 19, 3) := by decide +kernel
theorem dX6_find_32 : decode cX6_find 32 = .ok (.iinc 4 1, 3) := by decide +kernel
theorem dX6_find_35 : decode cX6_find 35 = .ok (.goto (-18), 3) := by decide +kernel
theorem dX6_find_38 : decode cX6_find 38 = .ok (.iinc 3 1, 3) := by decide +kernel
theorem dX6_find_41 : decode cX6_find 41 = .ok (.goto (-34), 3) := by decide +kernel
theorem dX6_find_44 : decode cX6_find 44 = .ok (.return_, 1) := by decide +kernel
theorem dX6_findThird_0 : decode cX6_findThird 0 = .ok (.iload_n 3, 1) := by decide +kernel
theorem dX6_findThird_1 : decode cX6_findThird 1 = .ok (.iconst 1, 1) := by decide +kernel
theorem dX6_findThird_2 : decode cX6_findThird 2 = .ok (.iadd, 1) := by decide +kernel
theorem dX6_findThird_3 : decode cX6_findThird 3 = .ok (.istore 5, 2) := by decide +kernel
theorem dX6_findThird_5 : decode cX6_findThird 5 = .ok (.iload 5, 2) := by decide +kernel
theorem dX6_findThird_7 : decode cX6_findThird 7 = .ok (.iload_n 2, 1) := by decide +kernel
theorem dX6_findThird_8 : decode cX6_findThird 8 = .ok (.if_icmp .ge 89, 3) := by decide +kernel
theorem dX6_findThird_11 : decode cX6_findThird 11 = .ok (.aload_n 1, 1) := by decide +kernel
theorem dX6_findThird_12 : decode cX6_findThird 12 = .ok (.iload_n 3, 1) := by decide +kernel
theorem dX6_findThird_13 : decode cX6_findThird 13 = .ok (.aaload, 1) := by decide +kernel
theorem dX6_findThird_14 : decode cX6_findThird 14 = .ok (.iload 4, 2) := by decide +kernel
theorem dX6_findThird_16 : decode cX6_findThird 16 = .ok (.iaload, 1) := by decide +kernel
theorem dX6_findThird_17 : decode cX6_findThird 17 = .ok (.ifCond .le 74, 3) := by decide +kernel
theorem dX6_findThird_20 : decode cX6_findThird 20 = .ok (.aload_n 1, 1) := by decide +kernel
theorem dX6_findThird_21 : decode cX6_findThird 21 = .ok (.iload 4, 2) := by decide +kernel
theorem dX6_findThird_23 : decode cX6_findThird 23 = .ok (.aaload, 1) := by decide +kernel
theorem dX6_findThird_24 : decode cX6_findThird 24 = .ok (.iload 5, 2) := by decide +kernel
theorem dX6_findThird_26 : decode cX6_findThird 26 = .ok (.iaload, 1) := by decide +kernel
theorem dX6_findThird_27 : decode cX6_findThird 27 = .ok (.ifCond .le 64, 3) := by decide +kernel
theorem dX6_findThird_30 : decode cX6_findThird 30 = .ok (.aload_n 1, 1) := by decide +kernel
theorem dX6_findThird_31 : decode cX6_findThird 31 = .ok (.iload 5, 2) := by decide +kernel
theorem dX6_findThird_33 : decode cX6_findThird 33 = .ok (.aaload, 1) := by decide +kernel
theorem dX6_findThird_34 : decode cX6_findThird 34 = .ok (.iload_n 3, 1) := by decide +kernel
theorem dX6_findThird_35 : decode cX6_findThird 35 = .ok (.iaload, 1) := by decide +kernel
theorem dX6_findThird_36 : decode cX6_findThird 36 = .ok (.ifCond .le 55, 3) := by decide +kernel
theorem dX6_findThird_39 : decode cX6_findThird 39 = .ok (.aload_n 0, 1) := by decide +kernel
theorem dX6_findThird_40 : decode cX6_findThird 40 = .ok (.getfield 9, 3) := by decide +kernel
theorem dX6_findThird_43 : decode cX6_findThird 43 = .ok (.iconst 3, 1) := by decide +kernel
theorem dX6_findThird_44 : decode cX6_findThird 44 = .ok (.aload_n 0, 1) := by decide +kernel
theorem dX6_findThird_45 : decode cX6_findThird 45 = .ok (.getfield 15, 3) := by decide +kernel
theorem dX6_findThird_48 : decode cX6_findThird 48 = .ok (.imul, 1) := by decide +kernel
theorem dX6_findThird_49 : decode cX6_findThird 49 = .ok (.iload_n 3, 1) := by decide +kernel
theorem dX6_findThird_50 : decode cX6_findThird 50 = .ok (.iastore, 1) := by decide +kernel
theorem dX6_findThird_51 : decode cX6_findThird 51 = .ok (.aload_n 0, 1) := by decide +kernel
theorem dX6_findThird_52 : decode cX6_findThird 52 = .ok (.getfield 9, 3) := by decide +kernel
theorem dX6_findThird_55 : decode cX6_findThird 55 = .ok (.iconst 3, 1) := by decide +kernel
theorem dX6_findThird_56 : decode cX6_findThird 56 = .ok (.aload_n 0, 1) := by decide +kernel
theorem dX6_findThird_57 : decode cX6_findThird 57 = .ok (.getfield 15, 3) := by decide +kernel
theorem dX6_findThird_60 : decode cX6_findThird 60 = .ok (.imul, 1) := by decide +kernel
theorem dX6_findThird_61 : decode cX6_findThird 61 = .ok (.iconst 1, 1) := by decide +kernel
theorem dX6_findThird_62 : decode cX6_findThird 62 = .ok (.iadd, 1) := by decide +kernel
theorem dX6_findThird_63 : decode cX6_findThird 63 = .ok (.iload 4, 2) := by decide +kernel
theorem dX6_findThird_65 : decode cX6_findThird 65 = .ok (.iastore, 1) := by decide +kernel
theorem dX6_findThird_66 : decode cX6_findThird 66 = .ok (.aload_n 0, 1) := by decide +kernel
theorem dX6_findThird_67 : decode cX6_findThird 67 = .ok (.getfield 9, 3) := by decide +kernel
theorem dX6_findThird_70 : decode cX6_findThird 70 = .ok (.iconst 3, 1) := by decide +kernel
theorem dX6_findThird_71 : decode cX6_findThird 71 = .ok (.aload_n 0, 1) := by decide +kernel
theorem dX6_findThird_72 : decode cX6_findThird 72 = .ok (.getfield 15, 3) := by decide +kernel
theorem dX6_findThird_75 : decode cX6_findThird 75 = .ok (.imul, 1) := by decide +kernel
theorem dX6_findThird_76 : decode cX6_findThird 76 = .ok (.iconst 2, 1) := by decide +kernel
theorem dX6_findThird_77 : decode cX6_findThird 77 = .ok (.iadd, 1) := by decide +kernel
theorem dX6_findThird_78 : decode cX6_findThird 78 = .ok (.iload 5, 2) := by decide +kernel
theorem dX6_findThird_80 : decode cX6_findThird 80 = .ok (.iastore, 1) := by decide +kernel
theorem dX6_findThird_81 : decode cX6_findThird 81 = .ok (.aload_n 0, 1) := by decide +kernel
theorem dX6_findThird_82 : decode cX6_findThird 82 = .ok (.dup, 1) := by decide +kernel
theorem dX6_findThird_83 : decode cX6_findThird 83 = .ok (.getfield 15, 3) := by decide +kernel
theorem dX6_findThird_86 : decode cX6_findThird 86 = .ok (.iconst 1, 1) := by decide +kernel
theorem dX6_findThird_87 : decode cX6_findThird 87 = .ok (.iadd, 1) := by decide +kernel
theorem dX6_findThird_88 : decode cX6_findThird 88 = .ok (.putfield 15, 3) := by decide +kernel
theorem dX6_findThird_91 : decode cX6_findThird 91 = .ok (.iinc 5 1, 3) := by decide +kernel
theorem dX6_findThird_94 : decode cX6_findThird 94 = .ok (.goto (-89), 3) := by decide +kernel
theorem dX6_findThird_97 : decode cX6_findThird 97 = .ok (.return_, 1) := by decide +kernel
theorem dX7_init_0 : decode cX7_init 0 = .ok (.aload_n 0, 1) := by decide +kernel
theorem dX7_init_1 : decode cX7_init 1 = .ok (.invokespecial 3, 3) := by decide +kernel
theorem dX7_init_4 : decode cX7_init 4 = .ok (.return_, 1) := by decide +kernel
theorem dX7_begin_0 : decode cX7_begin 0 = .ok (.aload_n 0, 1) := by decide +kernel
theorem dX7_begin_1 : decode cX7_begin 1 = .ok (.iload_n 1, 1) := by decide +kernel
theorem dX7_begin_2 : decode cX7_begin 2 = .ok (.putfield 9, 3) := by decide +kernel
theorem dX7_begin_5 : decode cX7_begin 5 = .ok (.aload_n 0, 1) := by decide +kernel
theorem dX7_begin_6 : decode cX7_begin 6 = .ok (.iconst 0, 1) := by decide +kernel
theorem dX7_begin_7 : decode cX7_begin 7 = .ok (.putfield 15, 3) := by decide +kernel
theorem dX7_begin_10 : decode cX7_begin 10 = .ok (.aload_n 0, 1) := by decide +kernel
theorem dX7_begin_11 : decode cX7_begin 11 = .ok (.iconst 0, 1) := by decide +kernel
theorem dX7_begin_12 : decode cX7_begin 12 = .ok (.putfield 18, 3) := by decide +kernel
theorem dX7_begin_15 : decode cX7_begin 15 = .ok (.aload_n 0, 1) := by decide +kernel
theorem dX7_begin_16 : decode cX7_begin 16 = .ok (.iconst 0, 1) := by decide +kernel
theorem dX7_begin_17 : decode cX7_begin 17 = .ok (.putfield 21, 3) := by decide +kernel
theorem dX7_begin_20 : decode cX7_begin 20 = .ok (.return_, 1) := by decide +kernel
theorem dX7_defeats_0 : decode cX7_defeats 0 = .ok (.aload_n 1, 1) := by decide +kernel
theorem dX7_defeats_1 : decode cX7_defeats 1 = .ok (.dup, 1) := by decide +kernel
theorem dX7_defeats_2 : decode cX7_defeats 2 = .ok (.getfield 9, 3) := by decide +kernel
theorem dX7_defeats_5 : decode cX7_defeats 5 = .ok (.iconst 0, 1) := by decide +kernel
theorem dX7_defeats_6 : decode cX7_defeats 6 = .ok (.aload_n 0, 1) := by decide +kernel
theorem dX7_defeats_7 : decode cX7_defeats 7 = .ok (.getfield 18, 3) := by decide +kernel
theorem dX7_defeats_10 : decode cX7_defeats 10 = .ok (.aload_n 1, 1) := by decide +kernel
theorem dX7_defeats_11 : decode cX7_defeats 11 = .ok (.getfield 21, 3) := by decide +kernel
theorem dX7_defeats_14 : decode cX7_defeats 14 = .ok (.isub, 1) := by decide +kernel
theorem dX7_defeats_15 : decode cX7_defeats 15 = .ok (.invokestatic 24, 3) := by decide +kernel
theorem dX7_defeats_18 : decode cX7_defeats 18 = .ok (.isub, 1) := by decide +kernel
theorem dX7_defeats_19 : decode cX7_defeats 19 = .ok (.putfield 9, 3) := by decide +kernel
theorem dX7_defeats_22 : decode cX7_defeats 22 = .ok (.aload_n 2, 1) := by decide +kernel
theorem dX7_defeats_23 : decode cX7_defeats 23 = .ok (.getfield 30, 3) := by decide +kernel
theorem dX7_defeats_26 : decode cX7_defeats 26 = .ok (.iload 4, 2) := by decide +kernel
theorem dX7_defeats_28 : decode cX7_defeats 28 = .ok (.iaload, 1) := by decide +kernel
theorem dX7_defeats_29 : decode cX7_defeats 29 = .ok (.istore 5, 2) := by decide +kernel
theorem dX7_defeats_31 : decode cX7_defeats 31 = .ok (.aload_n 2, 1) := by decide +kernel
theorem dX7_defeats_32 : decode cX7_defeats 32 = .ok (.getfield 30, 3) := by decide +kernel
theorem dX7_defeats_35 : decode cX7_defeats 35 = .ok (.iload 4, 2) := by decide +kernel
theorem dX7_defeats_37 : decode cX7_defeats 37 = .ok (.iconst 1, 1) := by decide +kernel
theorem dX7_defeats_38 : decode cX7_defeats 38 = .ok (.isub, 1) := by decide +kernel
theorem dX7_defeats_39 : decode cX7_defeats 39 = .ok (.iaload, 1) := by decide +kernel
theorem dX7_defeats_40 : decode cX7_defeats 40 = .ok (.istore 6, 2) := by decide +kernel
theorem dX7_defeats_42 : decode cX7_defeats 42 = .ok (.iload 6, 2) := by decide +kernel
theorem dX7_defeats_44 : decode cX7_defeats 44 = .ok (.iload 5, 2) := by decide +kernel
theorem dX7_defeats_46 : decode cX7_defeats 46 = .ok (.if_icmp .ge 29, 3) := by decide +kernel
theorem dX7_defeats_49 : decode cX7_defeats 49 = .ok (.aload_n 1, 1) := by decide +kernel
theorem dX7_defeats_50 : decode cX7_defeats 50 = .ok (.getfield 9, 3) := by decide +kernel
theorem dX7_defeats_53 : decode cX7_defeats 53 = .ok (.ifCond .le 22, 3) := by decide +kernel
theorem dX7_defeats_56 : decode cX7_defeats 56 = .ok (.aload_n 0, 1) := by decide +kernel
theorem dX7_defeats_57 : decode cX7_defeats 57 = .ok (.aload_n 1, 1) := by decide +kernel
theorem dX7_defeats_58 : decode cX7_defeats 58 = .ok (.aload_n 2, 1) := by decide +kernel
theorem dX7_defeats_59 : decode cX7_defeats 59 = .ok (.getfield 36, 3) := by decide +kernel
theorem dX7_defeats_62 : decode cX7_defeats 62 = .ok (.iload 6, 2) := by decide +kernel
theorem dX7_defeats_64 : decode cX7_defeats 64 = .ok (.iaload, 1) := by decide +kernel
theorem dX7_defeats_65 : decode cX7_defeats 65 = .ok (.aload_n 3, 1) := by decide +kernel
theorem dX7_defeats_66 : decode cX7_defeats 66 = .ok (.invokevirtual 39, 3) := by decide +kernel
theorem dX7_defeats_69 : decode cX7_defeats 69 = .ok (.iinc 6 1, 3) := by decide +kernel
theorem dX7_defeats_72 : decode cX7_defeats 72 = .ok (.goto (-30), 3) := by decide +kernel
theorem dX7_defeats_75 : decode cX7_defeats 75 = .ok (.aload_n 1, 1) := by decide +kernel
theorem dX7_defeats_76 : decode cX7_defeats 76 = .ok (.getfield 9, 3) := by decide +kernel
theorem dX7_defeats_79 : decode cX7_defeats 79 = .ok (.ifCond .gt 7, 3) := by decide +kernel
theorem dX7_defeats_82 : decode cX7_defeats 82 = .ok (.iconst 1, 1) := by decide +kernel
theorem dX7_defeats_83 : decode cX7_defeats 83 = .ok (.goto 4, 3) := by decide +kernel
theorem dX7_defeats_86 : decode cX7_defeats 86 = .ok (.iconst 0, 1) := by decide +kernel
theorem dX7_defeats_87 : decode cX7_defeats 87 = .ok (.ireturn, 1) := by decide +kernel
theorem dX7_put_0 : decode cX7_put 0 = .ok (.aload_n 0, 1) := by decide +kernel
theorem dX7_put_1 : decode cX7_put 1 = .ok (.dup, 1) := by decide +kernel
theorem dX7_put_2 : decode cX7_put 2 = .ok (.getfield 15, 3) := by decide +kernel
theorem dX7_put_5 : decode cX7_put 5 = .ok (.iconst 1, 1) := by decide +kernel
theorem dX7_put_6 : decode cX7_put 6 = .ok (.iadd, 1) := by decide +kernel
theorem dX7_put_7 : decode cX7_put 7 = .ok (.putfield 15, 3) := by decide +kernel
theorem dX7_put_10 : decode cX7_put 10 = .ok (.aload_n 3, 1) := by decide +kernel
theorem dX7_put_11 : decode cX7_put 11 = .ok (.getfield 43, 3) := by decide +kernel
theorem dX7_put_14 : decode cX7_put 14 = .ok (.iload_n 2, 1) := by decide +kernel
theorem dX7_put_15 : decode cX7_put 15 = .ok (.iaload, 1) := by decide +kernel
theorem dX7_put_16 : decode cX7_put 16 = .ok (.lookupswitch 64 #[(0, 28), (1, 46)], 28) := by decide +kernel
theorem dX7_put_44 : decode cX7_put 44 = .ok (.aload_n 0, 1) := by decide +kernel
theorem dX7_put_45 : decode cX7_put 45 = .ok (.dup, 1) := by decide +kernel
theorem dX7_put_46 : decode cX7_put 46 = .ok (.getfield 18, 3) := by decide +kernel
theorem dX7_put_49 : decode cX7_put 49 = .ok (.aload_n 3, 1) := by decide +kernel
theorem dX7_put_50 : decode cX7_put 50 = .ok (.getfield 48, 3) := by decide +kernel
theorem dX7_put_53 : decode cX7_put 53 = .ok (.iload_n 2, 1) := by decide +kernel
theorem dX7_put_54 : decode cX7_put 54 = .ok (.iaload, 1) := by decide +kernel
theorem dX7_put_55 : decode cX7_put 55 = .ok (.iadd, 1) := by decide +kernel
theorem dX7_put_56 : decode cX7_put 56 = .ok (.putfield 18, 3) := by decide +kernel
theorem dX7_put_59 : decode cX7_put 59 = .ok (.goto 36, 3) := by decide +kernel
theorem dX7_put_62 : decode cX7_put 62 = .ok (.aload_n 1, 1) := by decide +kernel
theorem dX7_put_63 : decode cX7_put 63 = .ok (.dup, 1) := by decide +kernel
theorem dX7_put_64 : decode cX7_put 64 = .ok (.getfield 9, 3) := by decide +kernel
theorem dX7_put_67 : decode cX7_put 67 = .ok (.aload_n 3, 1) := by decide +kernel
theorem dX7_put_68 : decode cX7_put 68 = .ok (.getfield 48, 3) := by decide +kernel
theorem dX7_put_71 : decode cX7_put 71 = .ok (.iload_n 2, 1) := by decide +kernel
theorem dX7_put_72 : decode cX7_put 72 = .ok (.iaload, 1) := by decide +kernel
theorem dX7_put_73 : decode cX7_put 73 = .ok (.isub, 1) := by decide +kernel
theorem dX7_put_74 : decode cX7_put 74 = .ok (.putfield 9, 3) := by decide +kernel
theorem dX7_put_77 : decode cX7_put 77 = .ok (.goto 18, 3) := by decide +kernel
theorem dX7_put_80 : decode cX7_put 80 = .ok (.aload_n 0, 1) := by decide +kernel
theorem dX7_put_81 : decode cX7_put 81 = .ok (.dup, 1) := by decide +kernel
theorem dX7_put_82 : decode cX7_put 82 = .ok (.getfield 21, 3) := by decide +kernel
theorem dX7_put_85 : decode cX7_put 85 = .ok (.aload_n 3, 1) := by decide +kernel
theorem dX7_put_86 : decode cX7_put 86 = .ok (.getfield 48, 3) := by decide +kernel
theorem dX7_put_89 : decode cX7_put 89 = .ok (.iload_n 2, 1) := by decide +kernel
theorem dX7_put_90 : decode cX7_put 90 = .ok (.iaload, 1) := by decide +kernel
theorem dX7_put_91 : decode cX7_put 91 = .ok (.iadd, 1) := by decide +kernel
theorem dX7_put_92 : decode cX7_put 92 = .ok (.putfield 21, 3) := by decide +kernel
theorem dX7_put_95 : decode cX7_put 95 = .ok (.return_, 1) := by decide +kernel
theorem dJ6_compare_7cf53_0 : decode cJ6_compare_7cf53 0 = .ok (.iload_n 0, 1) := by decide +kernel
theorem dJ6_compare_7cf53_1 : decode cJ6_compare_7cf53 1 = .ok (.iload_n 1, 1) := by decide +kernel
theorem dJ6_compare_7cf53_2 : decode cJ6_compare_7cf53 2 = .ok (.if_icmp .ge 7, 3) := by decide +kernel
theorem dJ6_compare_7cf53_5 : decode cJ6_compare_7cf53 5 = .ok (.iconst (-1), 1) := by decide +kernel
theorem dJ6_compare_7cf53_6 : decode cJ6_compare_7cf53 6 = .ok (.goto 13, 3) := by decide +kernel
theorem dJ6_compare_7cf53_9 : decode cJ6_compare_7cf53 9 = .ok (.iload_n 0, 1) := by decide +kernel
theorem dJ6_compare_7cf53_10 : decode cJ6_compare_7cf53 10 = .ok (.iload_n 1, 1) := by decide +kernel
theorem dJ6_compare_7cf53_11 : decode cJ6_compare_7cf53 11 = .ok (.if_icmp .ne 7, 3) := by decide +kernel
theorem dJ6_compare_7cf53_14 : decode cJ6_compare_7cf53 14 = .ok (.iconst 0, 1) := by decide +kernel
theorem dJ6_compare_7cf53_15 : decode cJ6_compare_7cf53 15 = .ok (.goto 4, 3) := by decide +kernel
theorem dJ6_compare_7cf53_18 : decode cJ6_compare_7cf53 18 = .ok (.iconst 1, 1) := by decide +kernel
theorem dJ6_compare_7cf53_19 : decode cJ6_compare_7cf53 19 = .ok (.ireturn, 1) := by decide +kernel
theorem dJ6_bitCount_0f7a4_0 : decode cJ6_bitCount_0f7a4 0 = .ok (.iload_n 0, 1) := by decide +kernel
theorem dJ6_bitCount_0f7a4_1 : decode cJ6_bitCount_0f7a4 1 = .ok (.iload_n 0, 1) := by decide +kernel
theorem dJ6_bitCount_0f7a4_2 : decode cJ6_bitCount_0f7a4 2 = .ok (.iconst 1, 1) := by decide +kernel
theorem dJ6_bitCount_0f7a4_3 : decode cJ6_bitCount_0f7a4 3 = .ok (.iushr, 1) := by decide +kernel
theorem dJ6_bitCount_0f7a4_4 : decode cJ6_bitCount_0f7a4 4 = .ok (.ldc_w 265, 3) := by decide +kernel
theorem dJ6_bitCount_0f7a4_7 : decode cJ6_bitCount_0f7a4 7 = .ok (.iand, 1) := by decide +kernel
theorem dJ6_bitCount_0f7a4_8 : decode cJ6_bitCount_0f7a4 8 = .ok (.isub, 1) := by decide +kernel
theorem dJ6_bitCount_0f7a4_9 : decode cJ6_bitCount_0f7a4 9 = .ok (.istore_n 0, 1) := by decide +kernel
theorem dJ6_bitCount_0f7a4_10 : decode cJ6_bitCount_0f7a4 10 = .ok (.iload_n 0, 1) := by decide +kernel
theorem dJ6_bitCount_0f7a4_11 : decode cJ6_bitCount_0f7a4 11 = .ok (.ldc_w 266, 3) := by decide +kernel
theorem dJ6_bitCount_0f7a4_14 : decode cJ6_bitCount_0f7a4 14 = .ok (.iand, 1) := by decide +kernel
theorem dJ6_bitCount_0f7a4_15 : decode cJ6_bitCount_0f7a4 15 = .ok (.iload_n 0, 1) := by decide +kernel
theorem dJ6_bitCount_0f7a4_16 : decode cJ6_bitCount_0f7a4 16 = .ok (.iconst 2, 1) := by decide +kernel
theorem dJ6_bitCount_0f7a4_17 : decode cJ6_bitCount_0f7a4 17 = .ok (.iushr, 1) := by decide +kernel
theorem dJ6_bitCount_0f7a4_18 : decode cJ6_bitCount_0f7a4 18 = .ok (.ldc_w 266, 3) := by decide +kernel
theorem dJ6_bitCount_0f7a4_21 : decode cJ6_bitCount_0f7a4 21 = .ok (.iand, 1) := by decide +kernel
theorem dJ6_bitCount_0f7a4_22 : decode cJ6_bitCount_0f7a4 22 = .ok (.iadd, 1) := by decide +kernel
theorem dJ6_bitCount_0f7a4_23 : decode cJ6_bitCount_0f7a4 23 = .ok (.istore_n 0, 1) := by decide +kernel
theorem dJ6_bitCount_0f7a4_24 : decode cJ6_bitCount_0f7a4 24 = .ok (.iload_n 0, 1) := by decide +kernel
theorem dJ6_bitCount_0f7a4_25 : decode cJ6_bitCount_0f7a4 25 = .ok (.iload_n 0, 1) := by decide +kernel
theorem dJ6_bitCount_0f7a4_26 : decode cJ6_bitCount_0f7a4 26 = .ok (.iconst 4, 1) := by decide +kernel
theorem dJ6_bitCount_0f7a4_27 : decode cJ6_bitCount_0f7a4 27 = .ok (.iushr, 1) := by decide +kernel
theorem dJ6_bitCount_0f7a4_28 : decode cJ6_bitCount_0f7a4 28 = .ok (.iadd, 1) := by decide +kernel
theorem dJ6_bitCount_0f7a4_29 : decode cJ6_bitCount_0f7a4 29 = .ok (.ldc_w 267, 3) := by decide +kernel
theorem dJ6_bitCount_0f7a4_32 : decode cJ6_bitCount_0f7a4 32 = .ok (.iand, 1) := by decide +kernel
theorem dJ6_bitCount_0f7a4_33 : decode cJ6_bitCount_0f7a4 33 = .ok (.istore_n 0, 1) := by decide +kernel
theorem dJ6_bitCount_0f7a4_34 : decode cJ6_bitCount_0f7a4 34 = .ok (.iload_n 0, 1) := by decide +kernel
theorem dJ6_bitCount_0f7a4_35 : decode cJ6_bitCount_0f7a4 35 = .ok (.iload_n 0, 1) := by decide +kernel
theorem dJ6_bitCount_0f7a4_36 : decode cJ6_bitCount_0f7a4 36 = .ok (.bipush 8, 2) := by decide +kernel
theorem dJ6_bitCount_0f7a4_38 : decode cJ6_bitCount_0f7a4 38 = .ok (.iushr, 1) := by decide +kernel
theorem dJ6_bitCount_0f7a4_39 : decode cJ6_bitCount_0f7a4 39 = .ok (.iadd, 1) := by decide +kernel
theorem dJ6_bitCount_0f7a4_40 : decode cJ6_bitCount_0f7a4 40 = .ok (.istore_n 0, 1) := by decide +kernel
theorem dJ6_bitCount_0f7a4_41 : decode cJ6_bitCount_0f7a4 41 = .ok (.iload_n 0, 1) := by decide +kernel
theorem dJ6_bitCount_0f7a4_42 : decode cJ6_bitCount_0f7a4 42 = .ok (.iload_n 0, 1) := by decide +kernel
theorem dJ6_bitCount_0f7a4_43 : decode cJ6_bitCount_0f7a4 43 = .ok (.bipush 16, 2) := by decide +kernel
theorem dJ6_bitCount_0f7a4_45 : decode cJ6_bitCount_0f7a4 45 = .ok (.iushr, 1) := by decide +kernel
theorem dJ6_bitCount_0f7a4_46 : decode cJ6_bitCount_0f7a4 46 = .ok (.iadd, 1) := by decide +kernel
theorem dJ6_bitCount_0f7a4_47 : decode cJ6_bitCount_0f7a4 47 = .ok (.istore_n 0, 1) := by decide +kernel
theorem dJ6_bitCount_0f7a4_48 : decode cJ6_bitCount_0f7a4 48 = .ok (.iload_n 0, 1) := by decide +kernel
theorem dJ6_bitCount_0f7a4_49 : decode cJ6_bitCount_0f7a4 49 = .ok (.bipush 63, 2) := by decide +kernel
theorem dJ6_bitCount_0f7a4_51 : decode cJ6_bitCount_0f7a4 51 = .ok (.iand, 1) := by decide +kernel
theorem dJ6_bitCount_0f7a4_52 : decode cJ6_bitCount_0f7a4 52 = .ok (.ireturn, 1) := by decide +kernel
theorem dJ9_max_7cf53_0 : decode cJ9_max_7cf53 0 = .ok (.iload_n 0, 1) := by decide +kernel
theorem dJ9_max_7cf53_1 : decode cJ9_max_7cf53 1 = .ok (.iload_n 1, 1) := by decide +kernel
theorem dJ9_max_7cf53_2 : decode cJ9_max_7cf53 2 = .ok (.if_icmp .lt 7, 3) := by decide +kernel
theorem dJ9_max_7cf53_5 : decode cJ9_max_7cf53 5 = .ok (.iload_n 0, 1) := by decide +kernel
theorem dJ9_max_7cf53_6 : decode cJ9_max_7cf53 6 = .ok (.goto 4, 3) := by decide +kernel
theorem dJ9_max_7cf53_9 : decode cJ9_max_7cf53 9 = .ok (.iload_n 1, 1) := by decide +kernel
theorem dJ9_max_7cf53_10 : decode cJ9_max_7cf53 10 = .ok (.ireturn, 1) := by decide +kernel
theorem dJ9_min_7cf53_0 : decode cJ9_min_7cf53 0 = .ok (.iload_n 0, 1) := by decide +kernel
theorem dJ9_min_7cf53_1 : decode cJ9_min_7cf53 1 = .ok (.iload_n 1, 1) := by decide +kernel
theorem dJ9_min_7cf53_2 : decode cJ9_min_7cf53 2 = .ok (.if_icmp .gt 7, 3) := by decide +kernel
theorem dJ9_min_7cf53_5 : decode cJ9_min_7cf53 5 = .ok (.iload_n 0, 1) := by decide +kernel
theorem dJ9_min_7cf53_6 : decode cJ9_min_7cf53 6 = .ok (.goto 4, 3) := by decide +kernel
theorem dJ9_min_7cf53_9 : decode cJ9_min_7cf53 9 = .ok (.iload_n 1, 1) := by decide +kernel
theorem dJ9_min_7cf53_10 : decode cJ9_min_7cf53 10 = .ok (.ireturn, 1) := by decide +kernel
end
section
theorem dX8_init_0 : decode cX8_init 0 = .ok (.aload_n 0, 1) := by decide +kernel
theorem dX8_init_1 : decode cX8_init 1 = .ok (.invokespecial 1, 3) := by decide +kernel
theorem dX8_init_4 : decode cX8_init 4 = .ok (.aload_n 0, 1) := by decide +kernel
theorem dX8_init_5 : decode cX8_init 5 = .ok (.new 7, 3) := by decide +kernel
theorem dX8_init_8 : decode cX8_init 8 = .ok (.dup, 1) := by decide +kernel
theorem dX8_init_9 : decode cX8_init 9 = .ok (.invokespecial 9, 3) := by decide +kernel
theorem dX8_init_12 : decode cX8_init 12 = .ok (.putfield 10, 3) := by decide +kernel
theorem dX8_init_15 : decode cX8_init 15 = .ok (.aload_n 0, 1) := by decide +kernel
theorem dX8_init_16 : decode cX8_init 16 = .ok (.iconst 5, 1) := by decide +kernel
theorem dX8_init_17 : decode cX8_init 17 = .ok (.anewarray 16, 3) := by decide +kernel
theorem dX8_init_20 : decode cX8_init 20 = .ok (.putfield 18, 3) := by decide +kernel
theorem dX8_init_23 : decode cX8_init 23 = .ok (.iconst 0, 1) := by decide +kernel
theorem dX8_init_24 : decode cX8_init 24 = .ok (.istore_n 1, 1) := by decide +kernel
theorem dX8_init_25 : decode cX8_init 25 = .ok (.iload_n 1, 1) := by decide +kernel
theorem dX8_init_26 : decode cX8_init 26 = .ok (.iconst 5, 1) := by decide +kernel
theorem dX8_init_27 : decode cX8_init 27 = .ok (.if_icmp .ge 22, 3) := by decide +kernel
theorem dX8_init_30 : decode cX8_init 30 = .ok (.aload_n 0, 1) := by decide +kernel
theorem dX8_init_31 : decode cX8_init 31 = .ok (.getfield 18, 3) := by decide +kernel
theorem dX8_init_34 : decode cX8_init 34 = .ok (.iload_n 1, 1) := by decide +kernel
theorem dX8_init_35 : decode cX8_init 35 = .ok (.new 16, 3) := by decide +kernel
theorem dX8_init_38 : decode cX8_init 38 = .ok (.dup, 1) := by decide +kernel
theorem dX8_init_39 : decode cX8_init 39 = .ok (.invokespecial 22, 3) := by decide +kernel
theorem dX8_init_42 : decode cX8_init 42 = .ok (.aastore, 1) := by decide +kernel
theorem dX8_init_43 : decode cX8_init 43 = .ok (.iinc 1 1, 3) := by decide +kernel
theorem dX8_init_46 : decode cX8_init 46 = .ok (.goto (-21), 3) := by decide +kernel
theorem dX8_init_49 : decode cX8_init 49 = .ok (.aload_n 0, 1) := by decide +kernel
theorem dX8_init_50 : decode cX8_init 50 = .ok (.new 23, 3) := by decide +kernel
theorem dX8_init_53 : decode cX8_init 53 = .ok (.dup, 1) := by decide +kernel
theorem dX8_init_54 : decode cX8_init 54 = .ok (.aload_n 0, 1) := by decide +kernel
theorem dX8_init_55 : decode cX8_init 55 = .ok (.getfield 10, 3) := by decide +kernel
theorem dX8_init_58 : decode cX8_init 58 = .ok (.invokespecial 25, 3) := by decide +kernel
theorem dX8_init_61 : decode cX8_init 61 = .ok (.putfield 28, 3) := by decide +kernel
theorem dX8_init_64 : decode cX8_init 64 = .ok (.aload_n 0, 1) := by decide +kernel
theorem dX8_init_65 : decode cX8_init 65 = .ok (.new 32, 3) := by decide +kernel
theorem dX8_init_68 : decode cX8_init 68 = .ok (.dup, 1) := by decide +kernel
theorem dX8_init_69 : decode cX8_init 69 = .ok (.invokespecial 34, 3) := by decide +kernel
theorem dX8_init_72 : decode cX8_init 72 = .ok (.putfield 35, 3) := by decide +kernel
theorem dX8_init_75 : decode cX8_init 75 = .ok (.aload_n 0, 1) := by decide +kernel
theorem dX8_init_76 : decode cX8_init 76 = .ok (.new 32, 3) := by decide +kernel
theorem dX8_init_79 : decode cX8_init 79 = .ok (.dup, 1) := by decide +kernel
theorem dX8_init_80 : decode cX8_init 80 = .ok (.invokespecial 34, 3) := by decide +kernel
theorem dX8_init_83 : decode cX8_init 83 = .ok (.putfield 39, 3) := by decide +kernel
theorem dX8_init_86 : decode cX8_init 86 = .ok (.aload_n 0, 1) := by decide +kernel
theorem dX8_init_87 : decode cX8_init 87 = .ok (.new 42, 3) := by decide +kernel
theorem dX8_init_90 : decode cX8_init 90 = .ok (.dup, 1) := by decide +kernel
theorem dX8_init_91 : decode cX8_init 91 = .ok (.invokespecial 44, 3) := by decide +kernel
theorem dX8_init_94 : decode cX8_init 94 = .ok (.putfield 45, 3) := by decide +kernel
theorem dX8_init_97 : decode cX8_init 97 = .ok (.aload_n 0, 1) := by decide +kernel
theorem dX8_init_98 : decode cX8_init 98 = .ok (.new 49, 3) := by decide +kernel
theorem dX8_init_101 : decode cX8_init 101 = .ok (.dup, 1) := by decide +kernel
theorem dX8_init_102 : decode cX8_init 102 = .ok (.invokespecial 51, 3) := by decide +kernel
theorem dX8_init_105 : decode cX8_init 105 = .ok (.putfield 52, 3) := by decide +kernel
theorem dX8_init_108 : decode cX8_init 108 = .ok (.aload_n 0, 1) := by decide +kernel
theorem dX8_init_109 : decode cX8_init 109 = .ok (.iconst 5, 1) := by decide +kernel
theorem dX8_init_110 : decode cX8_init 110 = .ok (.newarray .int, 2) := by decide +kernel
theorem dX8_init_112 : decode cX8_init 112 = .ok (.putfield 56, 3) := by decide +kernel
theorem dX8_init_115 : decode cX8_init 115 = .ok (.aload_n 0, 1) := by decide +kernel
theorem dX8_init_116 : decode cX8_init 116 = .ok (.bipush 12, 2) := by decide +kernel
theorem dX8_init_118 : decode cX8_init 118 = .ok (.putfield 60, 3) := by decide +kernel
theorem dX8_init_121 : decode cX8_init 121 = .ok (.return_, 1) := by decide +kernel
theorem dX8_card_0 : decode cX8_card 0 = .ok (.iload_n 1, 1) := by decide +kernel
theorem dX8_card_1 : decode cX8_card 1 = .ok (.iconst 0, 1) := by decide +kernel
theorem dX8_card_2 : decode cX8_card 2 = .ok (.iconst 2, 1) := by decide +kernel
theorem dX8_card_3 : decode cX8_card 3 = .ok (.invokestatic 64, 3) := by decide +kernel
theorem dX8_card_6 : decode cX8_card 6 = .ok (.ifCond .ne 22, 3) := by decide +kernel
theorem dX8_card_9 : decode cX8_card 9 = .ok (.iload_n 2, 1) := by decide +kernel
theorem dX8_card_10 : decode cX8_card 10 = .ok (.iconst 0, 1) := by decide +kernel
theorem dX8_card_11 : decode cX8_card 11 = .ok (.iconst 5, 1) := by decide +kernel
theorem dX8_card_12 : decode cX8_card 12 = .ok (.invokestatic 64, 3) := by decide +kernel
theorem dX8_card_15 : decode cX8_card 15 = .ok (.ifCond .ne 13, 3) := by decide +kernel
theorem dX8_card_18 : decode cX8_card 18 = .ok (.iload_n 3, 1) := by decide +kernel
theorem dX8_card_19 : decode cX8_card 19 = .ok (.iconst 0, 1) := by decide +kernel
theorem dX8_card_20 : decode cX8_card 20 = .ok (.bipush 9, 2) := by decide +kernel
theorem dX8_card_22 : decode cX8_card 22 = .ok (.invokestatic 64, 3) := by decide +kernel
theorem dX8_card_25 : decode cX8_card 25 = .ok (.ifCond .eq 6, 3) := by decide +kernel
theorem dX8_card_28 : decode cX8_card 28 = .ok (.bipush (-2), 2) := by decide +kernel
theorem dX8_card_30 : decode cX8_card 30 = .ok (.ireturn, 1) := by decide +kernel
theorem dX8_card_31 : decode cX8_card 31 = .ok (.aload_n 0, 1) := by decide +kernel
theorem dX8_card_32 : decode cX8_card 32 = .ok (.getfield 10, 3) := by decide +kernel
theorem dX8_card_35 : decode cX8_card 35 = .ok (.iload_n 1, 1) := by decide +kernel
theorem dX8_card_36 : decode cX8_card 36 = .ok (.iload_n 2, 1) := by decide +kernel
theorem dX8_card_37 : decode cX8_card 37 = .ok (.iload_n 3, 1) := by decide +kernel
theorem dX8_card_38 : decode cX8_card 38 = .ok (.invokevirtual 68, 3) := by decide +kernel
theorem dX8_card_41 : decode cX8_card 41 = .ok (.ireturn, 1) := by decide +kernel
theorem dX8_power_0 : decode cX8_power 0 = .ok (.aload_n 0, 1) := by decide +kernel
theorem dX8_power_1 : decode cX8_power 1 = .ok (.iload_n 1, 1) := by decide +kernel
theorem dX8_power_2 : decode cX8_power 2 = .ok (.invokevirtual 72, 3) := by decide +kernel
theorem dX8_power_5 : decode cX8_power 5 = .ok (.ifCond .ne 13, 3) := by decide +kernel
theorem dX8_power_8 : decode cX8_power 8 = .ok (.iload_n 2, 1) := by decide +kernel
theorem dX8_power_9 : decode cX8_power 9 = .ok (.iconst 0, 1) := by decide +kernel
theorem dX8_power_10 : decode cX8_power 10 = .ok (.bipush 9, 2) := by decide +kernel
theorem dX8_power_12 : decode cX8_power 12 = .ok (.invokestatic 64, 3) := by decide +kernel
theorem dX8_power_15 : decode cX8_power 15 = .ok (.ifCond .eq 6, 3) := by decide +kernel
theorem dX8_power_18 : decode cX8_power 18 = .ok (.bipush (-2), 2) := by decide +kernel
theorem dX8_power_20 : decode cX8_power 20 = .ok (.ireturn, 1) := by decide +kernel
theorem dX8_power_21 : decode cX8_power 21 = .ok (.aload_n 0, 1) := by decide +kernel
theorem dX8_power_22 : decode cX8_power 22 = .ok (.getfield 10, 3) := by decide +kernel
theorem dX8_power_25 : decode cX8_power 25 = .ok (.getfield 76, 3) := by decide +kernel
theorem dX8_power_28 : decode cX8_power 28 = .ok (.iload_n 1, 1) := by decide +kernel
theorem dX8_power_29 : decode cX8_power 29 = .ok (.iaload, 1) := by decide +kernel
theorem dX8_power_30 : decode cX8_power 30 = .ok (.istore_n 3, 1) := by decide +kernel
theorem dX8_power_31 : decode cX8_power 31 = .ok (.aload_n 0, 1) := by decide +kernel
theorem dX8_power_32 : decode cX8_power 32 = .ok (.getfield 10, 3) := by decide +kernel
theorem dX8_power_35 : decode cX8_power 35 = .ok (.getfield 76, 3) := by decide +kernel
theorem dX8_power_38 : decode cX8_power 38 = .ok (.iload_n 1, 1) := by decide +kernel
theorem dX8_power_39 : decode cX8_power 39 = .ok (.iload_n 2, 1) := by decide +kernel
theorem dX8_power_40 : decode cX8_power 40 = .ok (.iastore, 1) := by decide +kernel
theorem dX8_power_41 : decode cX8_power 41 = .ok (.aload_n 0, 1) := by decide +kernel
theorem dX8_power_42 : decode cX8_power 42 = .ok (.invokevirtual 79, 3) := by decide +kernel
theorem dX8_power_45 : decode cX8_power 45 = .ok (.iload_n 3, 1) := by decide +kernel
theorem dX8_power_46 : decode cX8_power 46 = .ok (.ireturn, 1) := by decide +kernel
theorem dX8_deck_0 : decode cX8_deck 0 = .ok (.aload_n 0, 1) := by decide +kernel
theorem dX8_deck_1 : decode cX8_deck 1 = .ok (.getfield 82, 3) := by decide +kernel
theorem dX8_deck_4 : decode cX8_deck 4 = .ok (.iconst 5, 1) := by decide +kernel
theorem dX8_deck_5 : decode cX8_deck 5 = .ok (.if_icmp .lt 6, 3) := by decide +kernel
theorem dX8_deck_8 : decode cX8_deck 8 = .ok (.bipush (-4), 2) := by decide +kernel
theorem dX8_deck_10 : decode cX8_deck 10 = .ok (.ireturn, 1) := by decide +kernel
theorem dX8_deck_11 : decode cX8_deck 11 = .ok (.aload_n 0, 1) := by decide +kernel
theorem dX8_deck_12 : decode cX8_deck 12 = .ok (.dup, 1) := by decide +kernel
theorem dX8_deck_13 : decode cX8_deck 13 = .ok (.getfield 82, 3) := by decide +kernel
theorem dX8_deck_16 : decode cX8_deck 16 = .ok (.iconst 1, 1) := by decide +kernel
theorem dX8_deck_17 : decode cX8_deck 17 = .ok (.iadd, 1) := by decide +kernel
theorem dX8_deck_18 : decode cX8_deck 18 = .ok (.putfield 82, 3) := by decide +kernel
theorem dX8_deck_21 : decode cX8_deck 21 = .ok (.aload_n 0, 1) := by decide +kernel
theorem dX8_deck_22 : decode cX8_deck 22 = .ok (.invokevirtual 79, 3) := by decide +kernel
theorem dX8_deck_25 : decode cX8_deck 25 = .ok (.aload_n 0, 1) := by decide +kernel
theorem dX8_deck_26 : decode cX8_deck 26 = .ok (.getfield 82, 3) := by decide +kernel
theorem dX8_deck_29 : decode cX8_deck 29 = .ok (.iconst 1, 1) := by decide +kernel
theorem dX8_deck_30 : decode cX8_deck 30 = .ok (.isub, 1) := by decide +kernel
theorem dX8_deck_31 : decode cX8_deck 31 = .ok (.ireturn, 1) := by decide +kernel
theorem dX8_add_0 : decode cX8_add 0 = .ok (.aload_n 0, 1) := by decide +kernel
theorem dX8_add_1 : decode cX8_add 1 = .ok (.iload_n 1, 1) := by decide +kernel
theorem dX8_add_2 : decode cX8_add 2 = .ok (.invokevirtual 85, 3) := by decide +kernel
theorem dX8_add_5 : decode cX8_add 5 = .ok (.ifCond .ne 11, 3) := by decide +kernel
theorem dX8_add_8 : decode cX8_add 8 = .ok (.aload_n 0, 1) := by decide +kernel
theorem dX8_add_9 : decode cX8_add 9 = .ok (.iload_n 2, 1) := by decide +kernel
theorem dX8_add_10 : decode cX8_add 10 = .ok (.invokevirtual 72, 3) := by decide +kernel
theorem dX8_add_13 : decode cX8_add 13 = .ok (.ifCond .eq 6, 3) := by decide +kernel
theorem dX8_add_16 : decode cX8_add 16 = .ok (.bipush (-2), 2) := by decide +kernel
theorem dX8_add_18 : decode cX8_add 18 = .ok (.ireturn, 1) := by decide +kernel
theorem dX8_add_19 : decode cX8_add 19 = .ok (.aload_n 0, 1) := by decide +kernel
theorem dX8_add_20 : decode cX8_add 20 = .ok (.invokevirtual 79, 3) := by decide +kernel
theorem dX8_add_23 : decode cX8_add 23 = .ok (.aload_n 0, 1) := by decide +kernel
theorem dX8_add_24 : decode cX8_add 24 = .ok (.getfield 18, 3) := by decide +kernel
theorem dX8_add_27 : decode cX8_add 27 = .ok (.iload_n 1, 1) := by decide +kernel
theorem dX8_add_28 : decode cX8_add 28 = .ok (.aaload, 1) := by decide +kernel
theorem dX8_add_29 : decode cX8_add 29 = .ok (.iload_n 2, 1) := by decide +kernel
theorem dX8_add_30 : decode cX8_add 30 = .ok (.invokevirtual 88, 3) := by decide +kernel
theorem dX8_add_33 : decode cX8_add 33 = .ok (.ireturn, 1) := by decide +kernel
theorem dX8_drop_0 : decode cX8_drop 0 = .ok (.aload_n 0, 1) := by decide +kernel
theorem dX8_drop_1 : decode cX8_drop 1 = .ok (.iload_n 1, 1) := by decide +kernel
theorem dX8_drop_2 : decode cX8_drop 2 = .ok (.invokevirtual 85, 3) := by decide +kernel
theorem dX8_drop_5 : decode cX8_drop 5 = .ok (.ifCond .ne 12, 3) := by decide +kernel
theorem dX8_drop_8 : decode cX8_drop 8 = .ok (.aload_n 0, 1) := by decide +kernel
theorem dX8_drop_9 : decode cX8_drop 9 = .ok (.iload_n 1, 1) := by decide +kernel
theorem dX8_drop_10 : decode cX8_drop 10 = .ok (.iload_n 2, 1) := by decide +kernel
theorem dX8_drop_11 : decode cX8_drop 11 = .ok (.invokevirtual 92, 3) := by decide +kernel
theorem dX8_drop_14 : decode cX8_drop 14 = .ok (.ifCond .eq 6, 3) := by decide +kernel
theorem dX8_drop_17 : decode cX8_drop 17 = .ok (.bipush (-2), 2) := by decide +kernel
theorem dX8_drop_19 : decode cX8_drop 19 = .ok (.ireturn, 1) := by decide +kernel
theorem dX8_drop_20 : decode cX8_drop 20 = .ok (.aload_n 0, 1) := by decide +kernel
theorem dX8_drop_21 : decode cX8_drop 21 = .ok (.getfield 18, 3) := by decide +kernel
theorem dX8_drop_24 : decode cX8_drop 24 = .ok (.iload_n 1, 1) := by decide +kernel
theorem dX8_drop_25 : decode cX8_drop 25 = .ok (.aaload, 1) := by decide +kernel
theorem dX8_drop_26 : decode cX8_drop 26 = .ok (.iload_n 2, 1) := by decide +kernel
theorem dX8_drop_27 : decode cX8_drop 27 = .ok (.invokevirtual 96, 3) := by decide +kernel
theorem dX8_drop_30 : decode cX8_drop 30 = .ok (.istore_n 3, 1) := by decide +kernel
theorem dX8_drop_31 : decode cX8_drop 31 = .ok (.aload_n 0, 1) := by decide +kernel
theorem dX8_drop_32 : decode cX8_drop 32 = .ok (.invokevirtual 79, 3) := by decide +kernel
theorem dX8_drop_35 : decode cX8_drop 35 = .ok (.iload_n 3, 1) := by decide +kernel
theorem dX8_drop_36 : decode cX8_drop 36 = .ok (.ireturn, 1) := by decide +kernel
theorem dX8_swap_0 : decode cX8_swap 0 = .ok (.aload_n 0, 1) := by decide +kernel
theorem dX8_swap_1 : decode cX8_swap 1 = .ok (.iload_n 1, 1) := by decide +kernel
theorem dX8_swap_2 : decode cX8_swap 2 = .ok (.invokevirtual 85, 3) := by decide +kernel
theorem dX8_swap_5 : decode cX8_swap 5 = .ok (.ifCond .ne 21, 3) := by decide +kernel
theorem dX8_swap_8 : decode cX8_swap 8 = .ok (.aload_n 0, 1) := by decide +kernel
theorem dX8_swap_9 : decode cX8_swap 9 = .ok (.iload_n 1, 1) := by decide +kernel
theorem dX8_swap_10 : decode cX8_swap 10 = .ok (.iload_n 2, 1) := by decide +kernel
theorem dX8_swap_11 : decode cX8_swap 11 = .ok (.invokevirtual 92, 3) := by decide +kernel
theorem dX8_swap_14 : decode cX8_swap 14 = .ok (.ifCond .ne 12, 3) := by decide +kernel
theorem dX8_swap_17 : decode cX8_swap 17 = .ok (.aload_n 0, 1) := by decide +kernel
theorem dX8_swap_18 : decode cX8_swap 18 = .ok (.iload_n 1, 1) := by decide +kernel
theorem dX8_swap_19 : decode cX8_swap 19 = .ok (.iload_n 3, 1) := by decide +kernel
theorem dX8_swap_20 : decode cX8_swap 20 = .ok (.invokevirtual 92, 3) := by decide +kernel
theorem dX8_swap_23 : decode cX8_swap 23 = .ok (.ifCond .eq 6, 3) := by decide +kernel
theorem dX8_swap_26 : decode cX8_swap 26 = .ok (.bipush (-2), 2) := by decide +kernel
theorem dX8_swap_28 : decode cX8_swap 28 = .ok (.ireturn, 1) := by decide +kernel
theorem dX8_swap_29 : decode cX8_swap 29 = .ok (.aload_n 0, 1) := by decide +kernel
theorem dX8_swap_30 : decode cX8_swap 30 = .ok (.getfield 18, 3) := by decide +kernel
theorem dX8_swap_33 : decode cX8_swap 33 = .ok (.iload_n 1, 1) := by decide +kernel
theorem dX8_swap_34 : decode cX8_swap 34 = .ok (.aaload, 1) := by decide +kernel
theorem dX8_swap_35 : decode cX8_swap 35 = .ok (.iload_n 2, 1) := by decide +kernel
theorem dX8_swap_36 : decode cX8_swap 36 = .ok (.iload_n 3, 1) := by decide +kernel
theorem dX8_swap_37 : decode cX8_swap 37 = .ok (.invokevirtual 99, 3) := by decide +kernel
theorem dX8_swap_40 : decode cX8_swap 40 = .ok (.aload_n 0, 1) := by decide +kernel
theorem dX8_swap_41 : decode cX8_swap 41 = .ok (.invokevirtual 79, 3) := by decide +kernel
theorem dX8_swap_44 : decode cX8_swap 44 = .ok (.iconst 1, 1) := by decide +kernel
theorem dX8_swap_45 : decode cX8_swap 45 = .ok (.ireturn, 1) := by decide +kernel
theorem dX8_at_0 : decode cX8_at 0 = .ok (.aload_n 0, 1) := by decide +kernel
theorem dX8_at_1 : decode cX8_at 1 = .ok (.iload_n 1, 1) := by decide +kernel
theorem dX8_at_2 : decode cX8_at 2 = .ok (.invokevirtual 85, 3) := by decide +kernel
theorem dX8_at_5 : decode cX8_at 5 = .ok (.ifCond .ne 7, 3) := by decide +kernel
theorem dX8_at_8 : decode cX8_at 8 = .ok (.iload_n 2, 1) := by decide +kernel
theorem dX8_at_9 : decode cX8_at 9 = .ok (.ifCond .ge 6, 3) := by decide +kernel
theorem dX8_at_12 : decode cX8_at 12 = .ok (.bipush (-2), 2) := by decide +kernel
theorem dX8_at_14 : decode cX8_at 14 = .ok (.ireturn, 1) := by decide +kernel
theorem dX8_at_15 : decode cX8_at 15 = .ok (.aload_n 0, 1) := by decide +kernel
theorem dX8_at_16 : decode cX8_at 16 = .ok (.iload_n 1, 1) := by decide +kernel
theorem dX8_at_17 : decode cX8_at 17 = .ok (.iload_n 2, 1) := by decide +kernel
theorem dX8_at_18 : decode cX8_at 18 = .ok (.invokevirtual 92, 3) := by decide +kernel
theorem dX8_at_21 : decode cX8_at 21 = .ok (.ifCond .eq 7, 3) := by decide +kernel
theorem dX8_at_24 : decode cX8_at 24 = .ok (.iconst (-1), 1) := by decide +kernel
theorem dX8_at_25 : decode cX8_at 25 = .ok (.goto 14, 3) := by decide +kernel
theorem dX8_at_28 : decode cX8_at 28 = .ok (.aload_n 0, 1) := by decide +kernel
theorem dX8_at_29 : decode cX8_at 29 = .ok (.getfield 18, 3) := by decide +kernel
theorem dX8_at_32 : decode cX8_at 32 = .ok (.iload_n 1, 1) := by decide +kernel
theorem dX8_at_33 : decode cX8_at 33 = .ok (.aaload, 1) := by decide +kernel
theorem dX8_at_34 : decode cX8_at 34 = .ok (.getfield 103, 3) := by decide +kernel
theorem dX8_at_37 : decode cX8_at 37 = .ok (.iload_n 2, 1) := by decide +kernel
theorem dX8_at_38 : decode cX8_at 38 = .ok (.iaload, 1) := by decide +kernel
theorem dX8_at_39 : decode cX8_at 39 = .ok (.ireturn, 1) := by decide +kernel
theorem dX8_life_0 : decode cX8_life 0 = .ok (.iload_n 1, 1) := by decide +kernel
theorem dX8_life_1 : decode cX8_life 1 = .ok (.iconst 5, 1) := by decide +kernel
theorem dX8_life_2 : decode cX8_life 2 = .ok (.bipush 40, 2) := by decide +kernel
theorem dX8_life_4 : decode cX8_life 4 = .ok (.invokestatic 64, 3) := by decide +kernel
theorem dX8_life_7 : decode cX8_life 7 = .ok (.ifCond .eq 6, 3) := by decide +kernel
theorem dX8_life_10 : decode cX8_life 10 = .ok (.bipush (-2), 2) := by decide +kernel
theorem dX8_life_12 : decode cX8_life 12 = .ok (.ireturn, 1) := by decide +kernel
theorem dX8_life_13 : decode cX8_life 13 = .ok (.aload_n 0, 1) := by decide +kernel
theorem dX8_life_14 : decode cX8_life 14 = .ok (.getfield 60, 3) := by decide +kernel
theorem dX8_life_17 : decode cX8_life 17 = .ok (.istore_n 2, 1) := by decide +kernel
theorem dX8_life_18 : decode cX8_life 18 = .ok (.aload_n 0, 1) := by decide +kernel
theorem dX8_life_19 : decode cX8_life 19 = .ok (.iload_n 1, 1) := by decide +kernel
theorem dX8_life_20 : decode cX8_life 20 = .ok (.putfield 60, 3) := by decide +kernel
theorem dX8_life_23 : decode cX8_life 23 = .ok (.aload_n 0, 1) := by decide +kernel
theorem dX8_life_24 : decode cX8_life 24 = .ok (.invokevirtual 79, 3) := by decide +kernel
theorem dX8_life_27 : decode cX8_life 27 = .ok (.iload_n 2, 1) := by decide +kernel
theorem dX8_life_28 : decode cX8_life 28 = .ok (.ireturn, 1) := by decide +kernel
theorem dX8_play_0 : decode cX8_play 0 = .ok (.aload_n 0, 1) := by decide +kernel
theorem dX8_play_1 : decode cX8_play 1 = .ok (.iload_n 1, 1) := by decide +kernel
theorem dX8_play_2 : decode cX8_play 2 = .ok (.invokevirtual 85, 3) := by decide +kernel
theorem dX8_play_5 : decode cX8_play 5 = .ok (.ifCond .ne 11, 3) := by decide +kernel
theorem dX8_play_8 : decode cX8_play 8 = .ok (.aload_n 0, 1) := by decide +kernel
theorem dX8_play_9 : decode cX8_play 9 = .ok (.iload_n 2, 1) := by decide +kernel
theorem dX8_play_10 : decode cX8_play 10 = .ok (.invokevirtual 85, 3) := by decide +kernel
theorem dX8_play_13 : decode cX8_play 13 = .ok (.ifCond .eq 6, 3) := by decide +kernel
theorem dX8_play_16 : decode cX8_play 16 = .ok (.bipush (-2), 2) := by decide +kernel
theorem dX8_play_18 : decode cX8_play 18 = .ok (.ireturn, 1) := by decide +kernel
theorem dX8_play_19 : decode cX8_play 19 = .ok (.aload_n 0, 1) := by decide +kernel
theorem dX8_play_20 : decode cX8_play 20 = .ok (.invokevirtual 106, 3) := by decide +kernel
theorem dX8_play_23 : decode cX8_play 23 = .ok (.aload_n 0, 1) := by decide +kernel
theorem dX8_play_24 : decode cX8_play 24 = .ok (.getfield 28, 3) := by decide +kernel
theorem dX8_play_27 : decode cX8_play 27 = .ok (.aload_n 0, 1) := by decide +kernel
theorem dX8_play_28 : decode cX8_play 28 = .ok (.getfield 35, 3) := by decide +kernel
theorem dX8_play_31 : decode cX8_play 31 = .ok (.getfield 109, 3) := by decide +kernel
theorem dX8_play_34 : decode cX8_play 34 = .ok (.iload_n 1, 1) := by decide +kernel
theorem dX8_play_35 : decode cX8_play 35 = .ok (.aaload, 1) := by decide +kernel
theorem dX8_play_36 : decode cX8_play 36 = .ok (.aload_n 0, 1) := by decide +kernel
theorem dX8_play_37 : decode cX8_play 37 = .ok (.getfield 35, 3) := by decide +kernel
theorem dX8_play_40 : decode cX8_play 40 = .ok (.getfield 109, 3) := by decide +kernel
theorem dX8_play_43 : decode cX8_play 43 = .ok (.iload_n 2, 1) := by decide +kernel
theorem dX8_play_44 : decode cX8_play 44 = .ok (.aaload, 1) := by decide +kernel
theorem dX8_play_45 : decode cX8_play 45 = .ok (.aload_n 0, 1) := by decide +kernel
theorem dX8_play_46 : decode cX8_play 46 = .ok (.getfield 60, 3) := by decide +kernel
theorem dX8_play_49 : decode cX8_play 49 = .ok (.invokevirtual 113, 3) := by decide +kernel
theorem dX8_play_52 : decode cX8_play 52 = .ok (.ireturn, 1) := by decide +kernel
theorem dX8_told_0 : decode cX8_told 0 = .ok (.aload_n 0, 1) := by decide +kernel
theorem dX8_told_1 : decode cX8_told 1 = .ok (.iload_n 1, 1) := by decide +kernel
theorem dX8_told_2 : decode cX8_told 2 = .ok (.invokevirtual 85, 3) := by decide +kernel
theorem dX8_told_5 : decode cX8_told 5 = .ok (.ifCond .ne 20, 3) := by decide +kernel
theorem dX8_told_8 : decode cX8_told 8 = .ok (.aload_n 0, 1) := by decide +kernel
theorem dX8_told_9 : decode cX8_told 9 = .ok (.iload_n 2, 1) := by decide +kernel
theorem dX8_told_10 : decode cX8_told 10 = .ok (.invokevirtual 85, 3) := by decide +kernel
theorem dX8_told_13 : decode cX8_told 13 = .ok (.ifCond .ne 12, 3) := by decide +kernel
theorem dX8_told_16 : decode cX8_told 16 = .ok (.iload_n 3, 1) := by decide +kernel
theorem dX8_told_17 : decode cX8_told 17 = .ok (.iconst 0, 1) := by decide +kernel
theorem dX8_told_18 : decode cX8_told 18 = .ok (.iconst 4, 1) := by decide +kernel
theorem dX8_told_19 : decode cX8_told 19 = .ok (.invokestatic 64, 3) := by decide +kernel
theorem dX8_told_22 : decode cX8_told 22 = .ok (.ifCond .eq 6, 3) := by decide +kernel
theorem dX8_told_25 : decode cX8_told 25 = .ok (.ldc 117, 2) := by decide +kernel
theorem dX8_told_27 : decode cX8_told 27 = .ok (.ireturn, 1) := by decide +kernel
theorem dX8_told_28 : decode cX8_told 28 = .ok (.aload_n 0, 1) := by decide +kernel
theorem dX8_told_29 : decode cX8_told 29 = .ok (.invokevirtual 106, 3) := by decide +kernel
theorem dX8_told_32 : decode cX8_told 32 = .ok (.aload_n 0, 1) := by decide +kernel
theorem dX8_told_33 : decode cX8_told 33 = .ok (.getfield 28, 3) := by decide +kernel
theorem dX8_told_36 : decode cX8_told 36 = .ok (.aload_n 0, 1) := by decide +kernel
theorem dX8_told_37 : decode cX8_told 37 = .ok (.getfield 35, 3) := by decide +kernel
theorem dX8_told_40 : decode cX8_told 40 = .ok (.getfield 109, 3) := by decide +kernel
theorem dX8_told_43 : decode cX8_told 43 = .ok (.iload_n 1, 1) := by decide +kernel
theorem dX8_told_44 : decode cX8_told 44 = .ok (.aaload, 1) := by decide +kernel
theorem dX8_told_45 : decode cX8_told 45 = .ok (.aload_n 0, 1) := by decide +kernel
theorem dX8_told_46 : decode cX8_told 46 = .ok (.getfield 35, 3) := by decide +kernel
theorem dX8_told_49 : decode cX8_told 49 = .ok (.getfield 109, 3) := by decide +kernel
theorem dX8_told_52 : decode cX8_told 52 = .ok (.iload_n 2, 1) := by decide +kernel
theorem dX8_told_53 : decode cX8_told 53 = .ok (.aaload, 1) := by decide +kernel
theorem dX8_told_54 : decode cX8_told 54 = .ok (.aload_n 0, 1) := by decide +kernel
theorem dX8_told_55 : decode cX8_told 55 = .ok (.getfield 60, 3) := by decide +kernel
theorem dX8_told_58 : decode cX8_told 58 = .ok (.invokevirtual 113, 3) := by decide +kernel
theorem dX8_told_61 : decode cX8_told 61 = .ok (.pop, 1) := by decide +kernel
theorem dX8_told_62 : decode cX8_told 62 = .ok (.iload_n 3, 1) := by decide +kernel
theorem dX8_told_63 : decode cX8_told 63 = .ok (.tableswitch 70 0 3 #[29, 37, 48, 59], 29) := by decide +kernel
theorem dX8_told_92 : decode cX8_told 92 = .ok (.aload_n 0, 1) := by decide +kernel
theorem dX8_told_93 : decode cX8_told 93 = .ok (.getfield 28, 3) := by decide +kernel
theorem dX8_told_96 : decode cX8_told 96 = .ok (.getfield 118, 3) := by decide +kernel
theorem dX8_told_99 : decode cX8_told 99 = .ok (.ireturn, 1) := by decide +kernel
theorem dX8_told_100 : decode cX8_told 100 = .ok (.aload_n 0, 1) := by decide +kernel
theorem dX8_told_101 : decode cX8_told 101 = .ok (.getfield 28, 3) := by decide +kernel
theorem dX8_told_104 : decode cX8_told 104 = .ok (.getfield 121, 3) := by decide +kernel
theorem dX8_told_107 : decode cX8_told 107 = .ok (.getfield 125, 3) := by decide +kernel
theorem dX8_told_110 : decode cX8_told 110 = .ok (.ireturn, 1) := by decide +kernel
theorem dX8_told_111 : decode cX8_told 111 = .ok (.aload_n 0, 1) := by decide +kernel
theorem dX8_told_112 : decode cX8_told 112 = .ok (.getfield 28, 3) := by decide +kernel
theorem dX8_told_115 : decode cX8_told 115 = .ok (.getfield 130, 3) := by decide +kernel
theorem dX8_told_118 : decode cX8_told 118 = .ok (.getfield 125, 3) := by decide +kernel
theorem dX8_told_121 : decode cX8_told 121 = .ok (.ireturn, 1) := by decide +kernel
theorem dX8_told_122 : decode cX8_told 122 = .ok (.aload_n 0, 1) := by decide +kernel
theorem dX8_told_123 : decode cX8_told 123 = .ok (.getfield 28, 3) := by decide +kernel
theorem dX8_told_126 : decode cX8_told 126 = .ok (.getfield 121, 3) := by decide +kernel
theorem dX8_told_129 : decode cX8_told 129 = .ok (.getfield 133, 3) := by decide +kernel
theorem dX8_told_132 : decode cX8_told 132 = .ok (.ireturn, 1) := by decide +kernel
theorem dX8_told_133 : decode cX8_told 133 = .ok (.aload_n 0, 1) := by decide +kernel
theorem dX8_told_134 : decode cX8_told 134 = .ok (.getfield 28, 3) := by decide +kernel
theorem dX8_told_137 : decode cX8_told 137 = .ok (.getfield 130, 3) := by decide +kernel
theorem dX8_told_140 : decode cX8_told 140 = .ok (.getfield 133, 3) := by decide +kernel
theorem dX8_told_143 : decode cX8_told 143 = .ok (.ireturn, 1) := by decide +kernel
theorem dX8_table_0 : decode cX8_table 0 = .ok (.aload_n 0, 1) := by decide +kernel
theorem dX8_table_1 : decode cX8_table 1 = .ok (.iload_n 1, 1) := by decide +kernel
theorem dX8_table_2 : decode cX8_table 2 = .ok (.invokevirtual 85, 3) := by decide +kernel
theorem dX8_table_5 : decode cX8_table 5 = .ok (.ifCond .ne 11, 3) := by decide +kernel
theorem dX8_table_8 : decode cX8_table 8 = .ok (.aload_n 0, 1) := by decide +kernel
theorem dX8_table_9 : decode cX8_table 9 = .ok (.iload_n 2, 1) := by decide +kernel
theorem dX8_table_10 : decode cX8_table 10 = .ok (.invokevirtual 85, 3) := by decide +kernel
theorem dX8_table_13 : decode cX8_table 13 = .ok (.ifCond .eq 6, 3) := by decide +kernel
theorem dX8_table_16 : decode cX8_table 16 = .ok (.ldc 117, 2) := by decide +kernel
theorem dX8_table_18 : decode cX8_table 18 = .ok (.ireturn, 1) := by decide +kernel
theorem dX8_table_19 : decode cX8_table 19 = .ok (.aload_n 0, 1) := by decide +kernel
theorem dX8_table_20 : decode cX8_table 20 = .ok (.invokevirtual 106, 3) := by decide +kernel
theorem dX8_table_23 : decode cX8_table 23 = .ok (.aload_n 0, 1) := by decide +kernel
theorem dX8_table_24 : decode cX8_table 24 = .ok (.getfield 35, 3) := by decide +kernel
theorem dX8_table_27 : decode cX8_table 27 = .ok (.getfield 136, 3) := by decide +kernel
theorem dX8_table_30 : decode cX8_table 30 = .ok (.iload_n 1, 1) := by decide +kernel
theorem dX8_table_31 : decode cX8_table 31 = .ok (.aaload, 1) := by decide +kernel
theorem dX8_table_32 : decode cX8_table 32 = .ok (.iload_n 2, 1) := by decide +kernel
theorem dX8_table_33 : decode cX8_table 33 = .ok (.iaload, 1) := by decide +kernel
theorem dX8_table_34 : decode cX8_table 34 = .ok (.ireturn, 1) := by decide +kernel
theorem dX8_rings_0 : decode cX8_rings 0 = .ok (.aload_n 0, 1) := by decide +kernel
theorem dX8_rings_1 : decode cX8_rings 1 = .ok (.invokevirtual 106, 3) := by decide +kernel
theorem dX8_rings_4 : decode cX8_rings 4 = .ok (.aload_n 0, 1) := by decide +kernel
theorem dX8_rings_5 : decode cX8_rings 5 = .ok (.getfield 45, 3) := by decide +kernel
theorem dX8_rings_8 : decode cX8_rings 8 = .ok (.getfield 140, 3) := by decide +kernel
theorem dX8_rings_11 : decode cX8_rings 11 = .ok (.ireturn, 1) := by decide +kernel
theorem dX8_ring_0 : decode cX8_ring 0 = .ok (.aload_n 0, 1) := by decide +kernel
theorem dX8_ring_1 : decode cX8_ring 1 = .ok (.invokevirtual 106, 3) := by decide +kernel
theorem dX8_ring_4 : decode cX8_ring 4 = .ok (.iload_n 1, 1) := by decide +kernel
theorem dX8_ring_5 : decode cX8_ring 5 = .ok (.iconst 0, 1) := by decide +kernel
theorem dX8_ring_6 : decode cX8_ring 6 = .ok (.aload_n 0, 1) := by decide +kernel
theorem dX8_ring_7 : decode cX8_ring 7 = .ok (.getfield 45, 3) := by decide +kernel
theorem dX8_ring_10 : decode cX8_ring 10 = .ok (.getfield 140, 3) := by decide +kernel
theorem dX8_ring_13 : decode cX8_ring 13 = .ok (.iconst 1, 1) := by decide +kernel
theorem dX8_ring_14 : decode cX8_ring 14 = .ok (.isub, 1) := by decide +kernel
theorem dX8_ring_15 : decode cX8_ring 15 = .ok (.invokestatic 64, 3) := by decide +kernel
theorem dX8_ring_18 : decode cX8_ring 18 = .ok (.ifCond .ne 12, 3) := by decide +kernel
theorem dX8_ring_21 : decode cX8_ring 21 = .ok (.iload_n 2, 1) := by decide +kernel
theorem dX8_ring_22 : decode cX8_ring 22 = .ok (.iconst 0, 1) := by decide +kernel
theorem dX8_ring_23 : decode cX8_ring 23 = .ok (.iconst 2, 1) := by decide +kernel
theorem dX8_ring_24 : decode cX8_ring 24 = .ok (.invokestatic 64, 3) := by decide +kernel
theorem dX8_ring_27 : decode cX8_ring 27 = .ok (.ifCond .eq 6, 3) := by decide +kernel
theorem dX8_ring_30 : decode cX8_ring 30 = .ok (.bipush (-2), 2) := by decide +kernel
theorem dX8_ring_32 : decode cX8_ring 32 = .ok (.ireturn, 1) := by decide +kernel
theorem dX8_ring_33 : decode cX8_ring 33 = .ok (.aload_n 0, 1) := by decide +kernel
theorem dX8_ring_34 : decode cX8_ring 34 = .ok (.getfield 45, 3) := by decide +kernel
theorem dX8_ring_37 : decode cX8_ring 37 = .ok (.getfield 143, 3) := by decide +kernel
theorem dX8_ring_40 : decode cX8_ring 40 = .ok (.iconst 3, 1) := by decide +kernel
theorem dX8_ring_41 : decode cX8_ring 41 = .ok (.iload_n 1, 1) := by decide +kernel
theorem dX8_ring_42 : decode cX8_ring 42 = .ok (.imul, 1) := by decide +kernel
theorem dX8_ring_43 : decode cX8_ring 43 = .ok (.iload_n 2, 1) := by decide +kernel
theorem dX8_ring_44 : decode cX8_ring 44 = .ok (.iadd, 1) := by decide +kernel
theorem dX8_ring_45 : decode cX8_ring 45 = .ok (.iaload, 1) := by decide +kernel
theorem dX8_ring_46 : decode cX8_ring 46 = .ok (.ireturn, 1) := by decide +kernel
theorem dX8_share_0 : decode cX8_share 0 = .ok (.aload_n 0, 1) := by decide +kernel
theorem dX8_share_1 : decode cX8_share 1 = .ok (.iload_n 1, 1) := by decide +kernel
theorem dX8_share_2 : decode cX8_share 2 = .ok (.invokevirtual 85, 3) := by decide +kernel
theorem dX8_share_5 : decode cX8_share 5 = .ok (.ifCond .ne 12, 3) := by decide +kernel
theorem dX8_share_8 : decode cX8_share 8 = .ok (.iload_n 2, 1) := by decide +kernel
theorem dX8_share_9 : decode cX8_share 9 = .ok (.iconst 0, 1) := by decide +kernel
theorem dX8_share_10 : decode cX8_share 10 = .ok (.iconst 1, 1) := by decide +kernel
theorem dX8_share_11 : decode cX8_share 11 = .ok (.invokestatic 64, 3) := by decide +kernel
theorem dX8_share_14 : decode cX8_share 14 = .ok (.ifCond .eq 7, 3) := by decide +kernel
theorem dX8_share_17 : decode cX8_share 17 = .ok (.ldc2_w 145, 3) := by decide +kernel
theorem dX8_share_20 : decode cX8_share 20 = .ok (.lreturn, 1) := by decide +kernel
theorem dX8_share_21 : decode cX8_share 21 = .ok (.aload_n 0, 1) := by decide +kernel
theorem dX8_share_22 : decode cX8_share 22 = .ok (.invokevirtual 147, 3) := by decide +kernel
theorem dX8_share_25 : decode cX8_share 25 = .ok (.aload_n 0, 1) := by decide +kernel
theorem dX8_share_26 : decode cX8_share 26 = .ok (.getfield 35, 3) := by decide +kernel
theorem dX8_share_29 : decode cX8_share 29 = .ok (.getfield 150, 3) := by decide +kernel
theorem dX8_share_32 : decode cX8_share 32 = .ok (.getfield 154, 3) := by decide +kernel
theorem dX8_share_35 : decode cX8_share 35 = .ok (.iload_n 1, 1) := by decide +kernel
theorem dX8_share_36 : decode cX8_share 36 = .ok (.iaload, 1) := by decide +kernel
theorem dX8_share_37 : decode cX8_share 37 = .ok (.istore_n 3, 1) := by decide +kernel
theorem dX8_share_38 : decode cX8_share 38 = .ok (.aload_n 0, 1) := by decide +kernel
theorem dX8_share_39 : decode cX8_share 39 = .ok (.getfield 35, 3) := by decide +kernel
theorem dX8_share_42 : decode cX8_share 42 = .ok (.getfield 150, 3) := by decide +kernel
theorem dX8_share_45 : decode cX8_share 45 = .ok (.getfield 159, 3) := by decide +kernel
theorem dX8_share_48 : decode cX8_share 48 = .ok (.istore 4, 2) := by decide +kernel
theorem dX8_share_50 : decode cX8_share 50 = .ok (.iload_n 3, 1) := by decide +kernel
theorem dX8_share_51 : decode cX8_share 51 = .ok (.iload 4, 2) := by decide +kernel
theorem dX8_share_53 : decode cX8_share 53 = .ok (.invokestatic 162, 3) := by decide +kernel
theorem dX8_share_56 : decode cX8_share 56 = .ok (.istore 5, 2) := by decide +kernel
theorem dX8_share_58 : decode cX8_share 58 = .ok (.iload 5, 2) := by decide +kernel
theorem dX8_share_60 : decode cX8_share 60 = .ok (.ifCond .ne 7, 3) := by decide +kernel
theorem dX8_share_63 : decode cX8_share 63 = .ok (.ldc2_w 145, 3) := by decide +kernel
theorem dX8_share_66 : decode cX8_share 66 = .ok (.lreturn, 1) := by decide +kernel
theorem dX8_share_67 : decode cX8_share 67 = .ok (.iload_n 2, 1) := by decide +kernel
theorem dX8_share_68 : decode cX8_share 68 = .ok (.ifCond .ne 7, 3) := by decide +kernel
theorem dX8_share_71 : decode cX8_share 71 = .ok (.iload_n 3, 1) := by decide +kernel
theorem dX8_share_72 : decode cX8_share 72 = .ok (.goto 5, 3) := by decide +kernel
theorem dX8_share_75 : decode cX8_share 75 = .ok (.iload 4, 2) := by decide +kernel
theorem dX8_share_77 : decode cX8_share 77 = .ok (.iload 5, 2) := by decide +kernel
theorem dX8_share_79 : decode cX8_share 79 = .ok (.idiv, 1) := by decide +kernel
theorem dX8_share_80 : decode cX8_share 80 = .ok (.i2l, 1) := by decide +kernel
theorem dX8_share_81 : decode cX8_share 81 = .ok (.lreturn, 1) := by decide +kernel
theorem dX8_live_0 : decode cX8_live 0 = .ok (.aload_n 0, 1) := by decide +kernel
theorem dX8_live_1 : decode cX8_live 1 = .ok (.getfield 82, 3) := by decide +kernel
theorem dX8_live_4 : decode cX8_live 4 = .ok (.ifCond .ne 6, 3) := by decide +kernel
theorem dX8_live_7 : decode cX8_live 7 = .ok (.bipush (-3), 2) := by decide +kernel
theorem dX8_live_9 : decode cX8_live 9 = .ok (.ireturn, 1) := by decide +kernel
theorem dX8_live_10 : decode cX8_live 10 = .ok (.aload_n 0, 1) := by decide +kernel
theorem dX8_live_11 : decode cX8_live 11 = .ok (.invokevirtual 147, 3) := by decide +kernel
theorem dX8_live_14 : decode cX8_live 14 = .ok (.iconst 0, 1) := by decide +kernel
theorem dX8_live_15 : decode cX8_live 15 = .ok (.istore_n 1, 1) := by decide +kernel
theorem dX8_live_16 : decode cX8_live 16 = .ok (.iconst 0, 1) := by decide +kernel
theorem dX8_live_17 : decode cX8_live 17 = .ok (.istore_n 2, 1) := by decide +kernel
theorem dX8_live_18 : decode cX8_live 18 = .ok (.iload_n 2, 1) := by decide +kernel
theorem dX8_live_19 : decode cX8_live 19 = .ok (.aload_n 0, 1) := by decide +kernel
theorem dX8_live_20 : decode cX8_live 20 = .ok (.getfield 82, 3) := by decide +kernel
theorem dX8_live_23 : decode cX8_live 23 = .ok (.if_icmp .ge 27, 3) := by decide +kernel
theorem dX8_live_26 : decode cX8_live 26 = .ok (.aload_n 0, 1) := by decide +kernel
theorem dX8_live_27 : decode cX8_live 27 = .ok (.getfield 35, 3) := by decide +kernel
theorem dX8_live_30 : decode cX8_live 30 = .ok (.getfield 150, 3) := by decide +kernel
theorem dX8_live_33 : decode cX8_live 33 = .ok (.getfield 154, 3) := by decide +kernel
theorem dX8_live_36 : decode cX8_live 36 = .ok (.iload_n 2, 1) := by decide +kernel
theorem dX8_live_37 : decode cX8_live 37 = .ok (.iaload, 1) := by decide +kernel
theorem dX8_live_38 : decode cX8_live 38 = .ok (.ifCond .le 6, 3) := by decide +kernel
theorem dX8_live_41 : decode cX8_live 41 = .ok (.iinc 1 1, 3) := by decide +kernel
theorem dX8_live_44 : decode cX8_live 44 = .ok (.iinc 2 1, 3) := by decide +kernel
theorem dX8_live_47 : decode cX8_live 47 = .ok (.goto (-29), 3) := by decide +kernel
theorem dX8_live_50 : decode cX8_live 50 = .ok (.iload_n 1, 1) := by decide +kernel
theorem dX8_live_51 : decode cX8_live 51 = .ok (.ireturn, 1) := by decide +kernel
theorem dX8_standing_0 : decode cX8_standing 0 = .ok (.aload_n 0, 1) := by decide +kernel
theorem dX8_standing_1 : decode cX8_standing 1 = .ok (.iload_n 1, 1) := by decide +kernel
theorem dX8_standing_2 : decode cX8_standing 2 = .ok (.invokevirtual 85, 3) := by decide +kernel
theorem dX8_standing_5 : decode cX8_standing 5 = .ok (.ifCond .eq 6, 3) := by decide +kernel
theorem dX8_standing_8 : decode cX8_standing 8 = .ok (.ldc 117, 2) := by decide +kernel
theorem dX8_standing_10 : decode cX8_standing 10 = .ok (.ireturn, 1) := by decide +kernel
theorem dX8_standing_11 : decode cX8_standing 11 = .ok (.aload_n 0, 1) := by decide +kernel
theorem dX8_standing_12 : decode cX8_standing 12 = .ok (.invokevirtual 106, 3) := by decide +kernel
theorem dX8_standing_15 : decode cX8_standing 15 = .ok (.aload_n 0, 1) := by decide +kernel
theorem dX8_standing_16 : decode cX8_standing 16 = .ok (.aload_n 0, 1) := by decide +kernel
theorem dX8_standing_17 : decode cX8_standing 17 = .ok (.getfield 35, 3) := by decide +kernel
theorem dX8_standing_20 : decode cX8_standing 20 = .ok (.getfield 136, 3) := by decide +kernel
theorem dX8_standing_23 : decode cX8_standing 23 = .ok (.iload_n 1, 1) := by decide +kernel
theorem dX8_standing_24 : decode cX8_standing 24 = .ok (.aaload, 1) := by decide +kernel
theorem dX8_standing_25 : decode cX8_standing 25 = .ok (.invokevirtual 166, 3) := by decide +kernel
theorem dX8_standing_28 : decode cX8_standing 28 = .ok (.ireturn, 1) := by decide +kernel
theorem dX8_worth_0 : decode cX8_worth 0 = .ok (.aload_n 0, 1) := by decide +kernel
theorem dX8_worth_1 : decode cX8_worth 1 = .ok (.iload_n 1, 1) := by decide +kernel
theorem dX8_worth_2 : decode cX8_worth 2 = .ok (.invokevirtual 85, 3) := by decide +kernel
theorem dX8_worth_5 : decode cX8_worth 5 = .ok (.ifCond .ne 25, 3) := by decide +kernel
theorem dX8_worth_8 : decode cX8_worth 8 = .ok (.aload_n 0, 1) := by decide +kernel
theorem dX8_worth_9 : decode cX8_worth 9 = .ok (.iload_n 2, 1) := by decide +kernel
theorem dX8_worth_10 : decode cX8_worth 10 = .ok (.invokevirtual 72, 3) := by decide +kernel
theorem dX8_worth_13 : decode cX8_worth 13 = .ok (.ifCond .ne 17, 3) := by decide +kernel
theorem dX8_worth_16 : decode cX8_worth 16 = .ok (.aload_n 0, 1) := by decide +kernel
theorem dX8_worth_17 : decode cX8_worth 17 = .ok (.getfield 18, 3) := by decide +kernel
theorem dX8_worth_20 : decode cX8_worth 20 = .ok (.iload_n 1, 1) := by decide +kernel
theorem dX8_worth_21 : decode cX8_worth 21 = .ok (.aaload, 1) := by decide +kernel
theorem dX8_worth_22 : decode cX8_worth 22 = .ok (.iload_n 2, 1) := by decide +kernel
theorem dX8_worth_23 : decode cX8_worth 23 = .ok (.invokevirtual 170, 3) := by decide +kernel
theorem dX8_worth_26 : decode cX8_worth 26 = .ok (.iconst (-1), 1) := by decide +kernel
theorem dX8_worth_27 : decode cX8_worth 27 = .ok (.if_icmp .ne 6, 3) := by decide +kernel
theorem dX8_worth_30 : decode cX8_worth 30 = .ok (.ldc 117, 2) := by decide +kernel
theorem dX8_worth_32 : decode cX8_worth 32 = .ok (.ireturn, 1) := by decide +kernel
theorem dX8_worth_33 : decode cX8_worth 33 = .ok (.aload_n 0, 1) := by decide +kernel
theorem dX8_worth_34 : decode cX8_worth 34 = .ok (.invokevirtual 106, 3) := by decide +kernel
theorem dX8_worth_37 : decode cX8_worth 37 = .ok (.aload_n 0, 1) := by decide +kernel
theorem dX8_worth_38 : decode cX8_worth 38 = .ok (.iload_n 1, 1) := by decide +kernel
theorem dX8_worth_39 : decode cX8_worth 39 = .ok (.iload_n 2, 1) := by decide +kernel
theorem dX8_worth_40 : decode cX8_worth 40 = .ok (.invokevirtual 173, 3) := by decide +kernel
theorem dX8_worth_43 : decode cX8_worth 43 = .ok (.aload_n 0, 1) := by decide +kernel
theorem dX8_worth_44 : decode cX8_worth 44 = .ok (.aload_n 0, 1) := by decide +kernel
theorem dX8_worth_45 : decode cX8_worth 45 = .ok (.getfield 35, 3) := by decide +kernel
theorem dX8_worth_48 : decode cX8_worth 48 = .ok (.getfield 136, 3) := by decide +kernel
theorem dX8_worth_51 : decode cX8_worth 51 = .ok (.iload_n 1, 1) := by decide +kernel
theorem dX8_worth_52 : decode cX8_worth 52 = .ok (.aaload, 1) := by decide +kernel
theorem dX8_worth_53 : decode cX8_worth 53 = .ok (.invokevirtual 166, 3) := by decide +kernel
theorem dX8_worth_56 : decode cX8_worth 56 = .ok (.aload_n 0, 1) := by decide +kernel
theorem dX8_worth_57 : decode cX8_worth 57 = .ok (.aload_n 0, 1) := by decide +kernel
theorem dX8_worth_58 : decode cX8_worth 58 = .ok (.getfield 56, 3) := by decide +kernel
theorem dX8_worth_61 : decode cX8_worth 61 = .ok (.invokevirtual 166, 3) := by decide +kernel
theorem dX8_worth_64 : decode cX8_worth 64 = .ok (.isub, 1) := by decide +kernel
theorem dX8_worth_65 : decode cX8_worth 65 = .ok (.ireturn, 1) := by decide +kernel
theorem dX8_idle_0 : decode cX8_idle 0 = .ok (.aload_n 0, 1) := by decide +kernel
theorem dX8_idle_1 : decode cX8_idle 1 = .ok (.iload_n 1, 1) := by decide +kernel
theorem dX8_idle_2 : decode cX8_idle 2 = .ok (.invokevirtual 85, 3) := by decide +kernel
theorem dX8_idle_5 : decode cX8_idle 5 = .ok (.ifCond .ne 11, 3) := by decide +kernel
theorem dX8_idle_8 : decode cX8_idle 8 = .ok (.aload_n 0, 1) := by decide +kernel
theorem dX8_idle_9 : decode cX8_idle 9 = .ok (.iload_n 2, 1) := by decide +kernel
theorem dX8_idle_10 : decode cX8_idle 10 = .ok (.invokevirtual 72, 3) := by decide +kernel
theorem dX8_idle_13 : decode cX8_idle 13 = .ok (.ifCond .eq 6, 3) := by decide +kernel
theorem dX8_idle_16 : decode cX8_idle 16 = .ok (.bipush (-2), 2) := by decide +kernel
theorem dX8_idle_18 : decode cX8_idle 18 = .ok (.ireturn, 1) := by decide +kernel
theorem dX8_idle_19 : decode cX8_idle 19 = .ok (.aload_n 0, 1) := by decide +kernel
theorem dX8_idle_20 : decode cX8_idle 20 = .ok (.getfield 18, 3) := by decide +kernel
theorem dX8_idle_23 : decode cX8_idle 23 = .ok (.iload_n 1, 1) := by decide +kernel
theorem dX8_idle_24 : decode cX8_idle 24 = .ok (.aaload, 1) := by decide +kernel
theorem dX8_idle_25 : decode cX8_idle 25 = .ok (.iload_n 2, 1) := by decide +kernel
theorem dX8_idle_26 : decode cX8_idle 26 = .ok (.invokevirtual 170, 3) := by decide +kernel
theorem dX8_idle_29 : decode cX8_idle 29 = .ok (.iconst (-1), 1) := by decide +kernel
theorem dX8_idle_30 : decode cX8_idle 30 = .ok (.if_icmp .ne 6, 3) := by decide +kernel
theorem dX8_idle_33 : decode cX8_idle 33 = .ok (.bipush (-3), 2) := by decide +kernel
theorem dX8_idle_35 : decode cX8_idle 35 = .ok (.ireturn, 1) := by decide +kernel
theorem dX8_idle_36 : decode cX8_idle 36 = .ok (.aload_n 0, 1) := by decide +kernel
theorem dX8_idle_37 : decode cX8_idle 37 = .ok (.invokevirtual 106, 3) := by decide +kernel
theorem dX8_idle_40 : decode cX8_idle 40 = .ok (.aload_n 0, 1) := by decide +kernel
theorem dX8_idle_41 : decode cX8_idle 41 = .ok (.iload_n 1, 1) := by decide +kernel
theorem dX8_idle_42 : decode cX8_idle 42 = .ok (.iload_n 2, 1) := by decide +kernel
theorem dX8_idle_43 : decode cX8_idle 43 = .ok (.invokevirtual 173, 3) := by decide +kernel
theorem dX8_idle_46 : decode cX8_idle 46 = .ok (.iconst 0, 1) := by decide +kernel
theorem dX8_idle_47 : decode cX8_idle 47 = .ok (.istore_n 3, 1) := by decide +kernel
theorem dX8_idle_48 : decode cX8_idle 48 = .ok (.iload_n 3, 1) := by decide +kernel
theorem dX8_idle_49 : decode cX8_idle 49 = .ok (.aload_n 0, 1) := by decide +kernel
theorem dX8_idle_50 : decode cX8_idle 50 = .ok (.getfield 82, 3) := by decide +kernel
theorem dX8_idle_53 : decode cX8_idle 53 = .ok (.if_icmp .ge 31, 3) := by decide +kernel
theorem dX8_idle_56 : decode cX8_idle 56 = .ok (.aload_n 0, 1) := by decide +kernel
theorem dX8_idle_57 : decode cX8_idle 57 = .ok (.getfield 56, 3) := by decide +kernel
theorem dX8_idle_60 : decode cX8_idle 60 = .ok (.iload_n 3, 1) := by decide +kernel
theorem dX8_idle_61 : decode cX8_idle 61 = .ok (.iaload, 1) := by decide +kernel
theorem dX8_idle_62 : decode cX8_idle 62 = .ok (.aload_n 0, 1) := by decide +kernel
theorem dX8_idle_63 : decode cX8_idle 63 = .ok (.getfield 35, 3) := by decide +kernel
theorem dX8_idle_66 : decode cX8_idle 66 = .ok (.getfield 136, 3) := by decide +kernel
theorem dX8_idle_69 : decode cX8_idle 69 = .ok (.iload_n 1, 1) := by decide +kernel
theorem dX8_idle_70 : decode cX8_idle 70 = .ok (.aaload, 1) := by decide +kernel
theorem dX8_idle_71 : decode cX8_idle 71 = .ok (.iload_n 3, 1) := by decide +kernel
theorem dX8_idle_72 : decode cX8_idle 72 = .ok (.iaload, 1) := by decide +kernel
theorem dX8_idle_73 : decode cX8_idle 73 = .ok (.if_icmp .eq 5, 3) := by decide +kernel
theorem dX8_idle_76 : decode cX8_idle 76 = .ok (.iconst 0, 1) := by decide +kernel
theorem dX8_idle_77 : decode cX8_idle 77 = .ok (.ireturn, 1) := by decide +kernel
theorem dX8_idle_78 : decode cX8_idle 78 = .ok (.iinc 3 1, 3) := by decide +kernel
theorem dX8_idle_81 : decode cX8_idle 81 = .ok (.goto (-33), 3) := by decide +kernel
theorem dX8_idle_84 : decode cX8_idle 84 = .ok (.iconst 1, 1) := by decide +kernel
theorem dX8_idle_85 : decode cX8_idle 85 = .ok (.ireturn, 1) := by decide +kernel
theorem dX8_remedy_0 : decode cX8_remedy 0 = .ok (.iload_n 2, 1) := by decide +kernel
theorem dX8_remedy_1 : decode cX8_remedy 1 = .ok (.iconst 1, 1) := by decide +kernel
theorem dX8_remedy_2 : decode cX8_remedy 2 = .ok (.bipush 20, 2) := by decide +kernel
theorem dX8_remedy_4 : decode cX8_remedy 4 = .ok (.invokestatic 64, 3) := by decide +kernel
theorem dX8_remedy_7 : decode cX8_remedy 7 = .ok (.ifCond .ne 12, 3) := by decide +kernel
theorem dX8_remedy_10 : decode cX8_remedy 10 = .ok (.iload_n 1, 1) := by decide +kernel
theorem dX8_remedy_11 : decode cX8_remedy 11 = .ok (.iconst 1, 1) := by decide +kernel
theorem dX8_remedy_12 : decode cX8_remedy 12 = .ok (.iload_n 2, 1) := by decide +kernel
theorem dX8_remedy_13 : decode cX8_remedy 13 = .ok (.invokestatic 64, 3) := by decide +kernel
theorem dX8_remedy_16 : decode cX8_remedy 16 = .ok (.ifCond .eq 6, 3) := by decide +kernel
theorem dX8_remedy_19 : decode cX8_remedy 19 = .ok (.bipush (-2), 2) := by decide +kernel
theorem dX8_remedy_21 : decode cX8_remedy 21 = .ok (.ireturn, 1) := by decide +kernel
theorem dX8_remedy_22 : decode cX8_remedy 22 = .ok (.aload_n 0, 1) := by decide +kernel
theorem dX8_remedy_23 : decode cX8_remedy 23 = .ok (.getfield 82, 3) := by decide +kernel
theorem dX8_remedy_26 : decode cX8_remedy 26 = .ok (.ifCond .ne 6, 3) := by decide +kernel
theorem dX8_remedy_29 : decode cX8_remedy 29 = .ok (.bipush (-3), 2) := by decide +kernel
theorem dX8_remedy_31 : decode cX8_remedy 31 = .ok (.ireturn, 1) := by decide +kernel
theorem dX8_remedy_32 : decode cX8_remedy 32 = .ok (.aload_n 0, 1) := by decide +kernel
theorem dX8_remedy_33 : decode cX8_remedy 33 = .ok (.invokevirtual 147, 3) := by decide +kernel
theorem dX8_remedy_36 : decode cX8_remedy 36 = .ok (.iconst 1, 1) := by decide +kernel
theorem dX8_remedy_37 : decode cX8_remedy 37 = .ok (.istore_n 3, 1) := by decide +kernel
theorem dX8_remedy_38 : decode cX8_remedy 38 = .ok (.iload_n 3, 1) := by decide +kernel
theorem dX8_remedy_39 : decode cX8_remedy 39 = .ok (.bipush 9, 2) := by decide +kernel
theorem dX8_remedy_41 : decode cX8_remedy 41 = .ok (.if_icmp .gt 114, 3) := by decide +kernel
theorem dX8_remedy_44 : decode cX8_remedy 44 = .ok (.iconst 0, 1) := by decide +kernel
theorem dX8_remedy_45 : decode cX8_remedy 45 = .ok (.istore 4, 2) := by decide +kernel
theorem dX8_remedy_47 : decode cX8_remedy 47 = .ok (.iload 4, 2) := by decide +kernel
theorem dX8_remedy_49 : decode cX8_remedy 49 = .ok (.aload_n 0, 1) := by decide +kernel
theorem dX8_remedy_50 : decode cX8_remedy 50 = .ok (.getfield 10, 3) := by decide +kernel
theorem dX8_remedy_53 : decode cX8_remedy 53 = .ok (.getfield 176, 3) := by decide +kernel
theorem dX8_remedy_56 : decode cX8_remedy 56 = .ok (.if_icmp .ge 93, 3) := by decide +kernel
theorem dX8_remedy_59 : decode cX8_remedy 59 = .ok (.aload_n 0, 1) := by decide +kernel
theorem dX8_remedy_60 : decode cX8_remedy 60 = .ok (.getfield 10, 3) := by decide +kernel
theorem dX8_remedy_63 : decode cX8_remedy 63 = .ok (.getfield 76, 3) := by decide +kernel
theorem dX8_remedy_66 : decode cX8_remedy 66 = .ok (.iload 4, 2) := by decide +kernel
theorem dX8_remedy_68 : decode cX8_remedy 68 = .ok (.iaload, 1) := by decide +kernel
theorem dX8_remedy_69 : decode cX8_remedy 69 = .ok (.iload_n 3, 1) := by decide +kernel
theorem dX8_remedy_70 : decode cX8_remedy 70 = .ok (.isub, 1) := by decide +kernel
theorem dX8_remedy_71 : decode cX8_remedy 71 = .ok (.istore 5, 2) := by decide +kernel
theorem dX8_remedy_73 : decode cX8_remedy 73 = .ok (.aload_n 0, 1) := by decide +kernel
theorem dX8_remedy_74 : decode cX8_remedy 74 = .ok (.getfield 10, 3) := by decide +kernel
theorem dX8_remedy_77 : decode cX8_remedy 77 = .ok (.getfield 76, 3) := by decide +kernel
theorem dX8_remedy_80 : decode cX8_remedy 80 = .ok (.iload 4, 2) := by decide +kernel
theorem dX8_remedy_82 : decode cX8_remedy 82 = .ok (.iaload, 1) := by decide +kernel
theorem dX8_remedy_83 : decode cX8_remedy 83 = .ok (.iload_n 3, 1) := by decide +kernel
theorem dX8_remedy_84 : decode cX8_remedy 84 = .ok (.iadd, 1) := by decide +kernel
theorem dX8_remedy_85 : decode cX8_remedy 85 = .ok (.istore 6, 2) := by decide +kernel
theorem dX8_remedy_87 : decode cX8_remedy 87 = .ok (.iload 5, 2) := by decide +kernel
theorem dX8_remedy_89 : decode cX8_remedy 89 = .ok (.ifCond .lt 25, 3) := by decide +kernel
theorem dX8_remedy_92 : decode cX8_remedy 92 = .ok (.aload_n 0, 1) := by decide +kernel
theorem dX8_remedy_93 : decode cX8_remedy 93 = .ok (.iload_n 1, 1) := by decide +kernel
theorem dX8_remedy_94 : decode cX8_remedy 94 = .ok (.iload_n 2, 1) := by decide +kernel
theorem dX8_remedy_95 : decode cX8_remedy 95 = .ok (.iload 4, 2) := by decide +kernel
theorem dX8_remedy_97 : decode cX8_remedy 97 = .ok (.iload 5, 2) := by decide +kernel
theorem dX8_remedy_99 : decode cX8_remedy 99 = .ok (.invokevirtual 177, 3) := by decide +kernel
theorem dX8_remedy_102 : decode cX8_remedy 102 = .ok (.ifCond .eq 12, 3) := by decide +kernel
theorem dX8_remedy_105 : decode cX8_remedy 105 = .ok (.bipush 10, 2) := by decide +kernel
theorem dX8_remedy_107 : decode cX8_remedy 107 = .ok (.iload 4, 2) := by decide +kernel
theorem dX8_remedy_109 : decode cX8_remedy 109 = .ok (.imul, 1) := by decide +kernel
theorem dX8_remedy_110 : decode cX8_remedy 110 = .ok (.iload 5, 2) := by decide +kernel
theorem dX8_remedy_112 : decode cX8_remedy 112 = .ok (.iadd, 1) := by decide +kernel
theorem dX8_remedy_113 : decode cX8_remedy 113 = .ok (.ireturn, 1) := by decide +kernel
theorem dX8_remedy_114 : decode cX8_remedy 114 = .ok (.iload 6, 2) := by decide +kernel
theorem dX8_remedy_116 : decode cX8_remedy 116 = .ok (.bipush 9, 2) := by decide +kernel
theorem dX8_remedy_118 : decode cX8_remedy 118 = .ok (.if_icmp .gt 25, 3) := by decide +kernel
theorem dX8_remedy_121 : decode cX8_remedy 121 = .ok (.aload_n 0, 1) := by decide +kernel
theorem dX8_remedy_122 : decode cX8_remedy 122 = .ok (.iload_n 1, 1) := by decide +kernel
theorem dX8_remedy_123 : decode cX8_remedy 123 = .ok (.iload_n 2, 1) := by decide +kernel
theorem dX8_remedy_124 : decode cX8_remedy 124 = .ok (.iload 4, 2) := by decide +kernel
theorem dX8_remedy_126 : decode cX8_remedy 126 = .ok (.iload 6, 2) := by decide +kernel
theorem dX8_remedy_128 : decode cX8_remedy 128 = .ok (.invokevirtual 177, 3) := by decide +kernel
theorem dX8_remedy_131 : decode cX8_remedy 131 = .ok (.ifCond .eq 12, 3) := by decide +kernel
theorem dX8_remedy_134 : decode cX8_remedy 134 = .ok (.bipush 10, 2) := by decide +kernel
theorem dX8_remedy_136 : decode cX8_remedy 136 = .ok (.iload 4, 2) := by decide +kernel
theorem dX8_remedy_138 : decode cX8_remedy 138 = .ok (.imul, 1) := by decide +kernel
theorem dX8_remedy_139 : decode cX8_remedy 139 = .ok (.iload 6, 2) := by decide +kernel
theorem dX8_remedy_141 : decode cX8_remedy 141 = .ok (.iadd, 1) := by decide +kernel
theorem dX8_remedy_142 : decode cX8_remedy 142 = .ok (.ireturn, 1) := by decide +kernel
theorem dX8_remedy_143 : decode cX8_remedy 143 = .ok (.iinc 4 1, 3) := by decide +kernel
theorem dX8_remedy_146 : decode cX8_remedy 146 = .ok (.goto (-99), 3) := by decide +kernel
theorem dX8_remedy_149 : decode cX8_remedy 149 = .ok (.iinc 3 1, 3) := by decide +kernel
theorem dX8_remedy_152 : decode cX8_remedy 152 = .ok (.goto (-114), 3) := by decide +kernel
theorem dX8_remedy_155 : decode cX8_remedy 155 = .ok (.iconst (-1), 1) := by decide +kernel
theorem dX8_remedy_156 : decode cX8_remedy 156 = .ok (.ireturn, 1) := by decide +kernel
theorem dX8_count_0 : decode cX8_count 0 = .ok (.iload_n 1, 1) := by decide +kernel
theorem dX8_count_1 : decode cX8_count 1 = .ok (.tableswitch 54 0 3 #[31, 39, 44, 49], 31) := by decide +kernel
theorem dX8_count_32 : decode cX8_count 32 = .ok (.aload_n 0, 1) := by decide +kernel
theorem dX8_count_33 : decode cX8_count 33 = .ok (.getfield 10, 3) := by decide +kernel
theorem dX8_count_36 : decode cX8_count 36 = .ok (.getfield 176, 3) := by decide +kernel
theorem dX8_count_39 : decode cX8_count 39 = .ok (.ireturn, 1) := by decide +kernel
theorem dX8_count_40 : decode cX8_count 40 = .ok (.aload_n 0, 1) := by decide +kernel
theorem dX8_count_41 : decode cX8_count 41 = .ok (.getfield 82, 3) := by decide +kernel
theorem dX8_count_44 : decode cX8_count 44 = .ok (.ireturn, 1) := by decide +kernel
theorem dX8_count_45 : decode cX8_count 45 = .ok (.aload_n 0, 1) := by decide +kernel
theorem dX8_count_46 : decode cX8_count 46 = .ok (.invokevirtual 181, 3) := by decide +kernel
theorem dX8_count_49 : decode cX8_count 49 = .ok (.ireturn, 1) := by decide +kernel
theorem dX8_count_50 : decode cX8_count 50 = .ok (.aload_n 0, 1) := by decide +kernel
theorem dX8_count_51 : decode cX8_count 51 = .ok (.getfield 60, 3) := by decide +kernel
theorem dX8_count_54 : decode cX8_count 54 = .ok (.ireturn, 1) := by decide +kernel
theorem dX8_count_55 : decode cX8_count 55 = .ok (.bipush (-2), 2) := by decide +kernel
theorem dX8_count_57 : decode cX8_count 57 = .ok (.ireturn, 1) := by decide +kernel
theorem dX8_isOutside_0 : decode cX8_isOutside 0 = .ok (.iload_n 0, 1) := by decide +kernel
theorem dX8_isOutside_1 : decode cX8_isOutside 1 = .ok (.iload_n 1, 1) := by decide +kernel
theorem dX8_isOutside_2 : decode cX8_isOutside 2 = .ok (.if_icmp .lt 8, 3) := by decide +kernel
theorem dX8_isOutside_5 : decode cX8_isOutside 5 = .ok (.iload_n 0, 1) := by decide +kernel
theorem dX8_isOutside_6 : decode cX8_isOutside 6 = .ok (.iload_n 2, 1) := by decide +kernel
theorem dX8_isOutside_7 : decode cX8_isOutside 7 = .ok (.if_icmp .le 7, 3) := by decide +kernel
theorem dX8_isOutside_10 : decode cX8_isOutside 10 = .ok (.iconst 1, 1) := by decide +kernel
theorem dX8_isOutside_11 : decode cX8_isOutside 11 = .ok (.goto 4, 3) := by decide +kernel
theorem dX8_isOutside_14 : decode cX8_isOutside 14 = .ok (.iconst 0, 1) := by decide +kernel
theorem dX8_isOutside_15 : decode cX8_isOutside 15 = .ok (.ireturn, 1) := by decide +kernel
theorem dX8_isNoCard_0 : decode cX8_isNoCard 0 = .ok (.iload_n 1, 1) := by decide +kernel
theorem dX8_isNoCard_1 : decode cX8_isNoCard 1 = .ok (.iconst 0, 1) := by decide +kernel
theorem dX8_isNoCard_2 : decode cX8_isNoCard 2 = .ok (.aload_n 0, 1) := by decide +kernel
theorem dX8_isNoCard_3 : decode cX8_isNoCard 3 = .ok (.getfield 10, 3) := by decide +kernel
theorem dX8_isNoCard_6 : decode cX8_isNoCard 6 = .ok (.getfield 176, 3) := by decide +kernel
theorem dX8_isNoCard_9 : decode cX8_isNoCard 9 = .ok (.iconst 1, 1) := by decide +kernel
theorem dX8_isNoCard_10 : decode cX8_isNoCard 10 = .ok (.isub, 1) := by decide +kernel
theorem dX8_isNoCard_11 : decode cX8_isNoCard 11 = .ok (.invokestatic 64, 3) := by decide +kernel
theorem dX8_isNoCard_14 : decode cX8_isNoCard 14 = .ok (.ireturn, 1) := by decide +kernel
theorem dX8_isNoDeck_0 : decode cX8_isNoDeck 0 = .ok (.iload_n 1, 1) := by decide +kernel
theorem dX8_isNoDeck_1 : decode cX8_isNoDeck 1 = .ok (.iconst 0, 1) := by decide +kernel
theorem dX8_isNoDeck_2 : decode cX8_isNoDeck 2 = .ok (.aload_n 0, 1) := by decide +kernel
theorem dX8_isNoDeck_3 : decode cX8_isNoDeck 3 = .ok (.getfield 82, 3) := by decide +kernel
theorem dX8_isNoDeck_6 : decode cX8_isNoDeck 6 = .ok (.iconst 1, 1) := by decide +kernel
theorem dX8_isNoDeck_7 : decode cX8_isNoDeck 7 = .ok (.isub, 1) := by decide +kernel
theorem dX8_isNoDeck_8 : decode cX8_isNoDeck 8 = .ok (.invokestatic 64, 3) := by decide +kernel
theorem dX8_isNoDeck_11 : decode cX8_isNoDeck 11 = .ok (.ireturn, 1) := by decide +kernel
theorem dX8_isNoPlace_0 : decode cX8_isNoPlace 0 = .ok (.iload_n 2, 1) := by decide +kernel
theorem dX8_isNoPlace_1 : decode cX8_isNoPlace 1 = .ok (.iconst 0, 1) := by decide +kernel
theorem dX8_isNoPlace_2 : decode cX8_isNoPlace 2 = .ok (.aload_n 0, 1) := by decide +kernel
theorem dX8_isNoPlace_3 : decode cX8_isNoPlace 3 = .ok (.getfield 18, 3) := by decide +kernel
theorem dX8_isNoPlace_6 : decode cX8_isNoPlace 6 = .ok (.iload_n 1, 1) := by decide +kernel
theorem dX8_isNoPlace_7 : decode cX8_isNoPlace 7 = .ok (.aaload, 1) := by decide +kernel
theorem dX8_isNoPlace_8 : decode cX8_isNoPlace 8 = .ok (.getfield 185, 3) := by decide +kernel
theorem dX8_isNoPlace_11 : decode cX8_isNoPlace 11 = .ok (.iconst 1, 1) := by decide +kernel
theorem dX8_isNoPlace_12 : decode cX8_isNoPlace 12 = .ok (.isub, 1) := by decide +kernel
theorem dX8_isNoPlace_13 : decode cX8_isNoPlace 13 = .ok (.invokestatic 64, 3) := by decide +kernel
theorem dX8_isNoPlace_16 : decode cX8_isNoPlace 16 = .ok (.ireturn, 1) := by decide +kernel
theorem dX8_cardsInDecks_0 : decode cX8_cardsInDecks 0 = .ok (.iconst 0, 1) := by decide +kernel
theorem dX8_cardsInDecks_1 : decode cX8_cardsInDecks 1 = .ok (.istore_n 1, 1) := by decide +kernel
theorem dX8_cardsInDecks_2 : decode cX8_cardsInDecks 2 = .ok (.iconst 0, 1) := by decide +kernel
theorem dX8_cardsInDecks_3 : decode cX8_cardsInDecks 3 = .ok (.istore_n 2, 1) := by decide +kernel
theorem dX8_cardsInDecks_4 : decode cX8_cardsInDecks 4 = .ok (.iload_n 2, 1) := by decide +kernel
theorem dX8_cardsInDecks_5 : decode cX8_cardsInDecks 5 = .ok (.aload_n 0, 1) := by decide +kernel
theorem dX8_cardsInDecks_6 : decode cX8_cardsInDecks 6 = .ok (.getfield 82, 3) := by decide +kernel
theorem dX8_cardsInDecks_9 : decode cX8_cardsInDecks 9 = .ok (.if_icmp .ge 21, 3) := by decide +kernel
theorem dX8_cardsInDecks_12 : decode cX8_cardsInDecks 12 = .ok (.iload_n 1, 1) := by decide +kernel
theorem dX8_cardsInDecks_13 : decode cX8_cardsInDecks 13 = .ok (.aload_n 0, 1) := by decide +kernel
end
section
theorem dX8_cardsInDecks_14 : decode cX8_cardsInDecks 14 = .ok (.getfield 18, 3) := by decide +kernel
theorem dX8_cardsInDecks_17 : decode cX8_cardsInDecks 17 = .ok (.iload_n 2, 1) := by decide +kernel
theorem dX8_cardsInDecks_18 : decode cX8_cardsInDecks 18 = .ok (.aaload, 1) := by decide +kernel
theorem dX8_cardsInDecks_19 : decode cX8_cardsInDecks 19 = .ok (.getfield 185, 3) := by decide +kernel
theorem dX8_cardsInDecks_22 : decode cX8_cardsInDecks 22 = .ok (.iadd, 1) := by decide +kernel
theorem dX8_cardsInDecks_23 : decode cX8_cardsInDecks 23 = .ok (.istore_n 1, 1) := by decide +kernel
theorem dX8_cardsInDecks_24 : decode cX8_cardsInDecks 24 = .ok (.iinc 2 1, 3) := by decide +kernel
theorem dX8_cardsInDecks_27 : decode cX8_cardsInDecks 27 = .ok (.goto (-23), 3) := by decide +kernel
theorem dX8_cardsInDecks_30 : decode cX8_cardsInDecks 30 = .ok (.iload_n 1, 1) := by decide +kernel
theorem dX8_cardsInDecks_31 : decode cX8_cardsInDecks 31 = .ok (.ireturn, 1) := by decide +kernel
theorem dX8_sumOf_0 : decode cX8_sumOf 0 = .ok (.iconst 0, 1) := by decide +kernel
theorem dX8_sumOf_1 : decode cX8_sumOf 1 = .ok (.istore_n 2, 1) := by decide +kernel
theorem dX8_sumOf_2 : decode cX8_sumOf 2 = .ok (.iconst 0, 1) := by decide +kernel
theorem dX8_sumOf_3 : decode cX8_sumOf 3 = .ok (.istore_n 3, 1) := by decide +kernel
theorem dX8_sumOf_4 : decode cX8_sumOf 4 = .ok (.iload_n 3, 1) := by decide +kernel
theorem dX8_sumOf_5 : decode cX8_sumOf 5 = .ok (.aload_n 0, 1) := by decide +kernel
theorem dX8_sumOf_6 : decode cX8_sumOf 6 = .ok (.getfield 82, 3) := by decide +kernel
theorem dX8_sumOf_9 : decode cX8_sumOf 9 = .ok (.if_icmp .ge 15, 3) := by decide +kernel
theorem dX8_sumOf_12 : decode cX8_sumOf 12 = .ok (.iload_n 2, 1) := by decide +kernel
theorem dX8_sumOf_13 : decode cX8_sumOf 13 = .ok (.aload_n 1, 1) := by decide +kernel
theorem dX8_sumOf_14 : decode cX8_sumOf 14 = .ok (.iload_n 3, 1) := by decide +kernel
theorem dX8_sumOf_15 : decode cX8_sumOf 15 = .ok (.iaload, 1) := by decide +kernel
theorem dX8_sumOf_16 : decode cX8_sumOf 16 = .ok (.iadd, 1) := by decide +kernel
theorem dX8_sumOf_17 : decode cX8_sumOf 17 = .ok (.istore_n 2, 1) := by decide +kernel
theorem dX8_sumOf_18 : decode cX8_sumOf 18 = .ok (.iinc 3 1, 3) := by decide +kernel
theorem dX8_sumOf_21 : decode cX8_sumOf 21 = .ok (.goto (-17), 3) := by decide +kernel
theorem dX8_sumOf_24 : decode cX8_sumOf 24 = .ok (.iload_n 2, 1) := by decide +kernel
theorem dX8_sumOf_25 : decode cX8_sumOf 25 = .ok (.ireturn, 1) := by decide +kernel
theorem dX8_greatestDivisor_0 : decode cX8_greatestDivisor 0 = .ok (.iload_n 0, 1) := by decide +kernel
theorem dX8_greatestDivisor_1 : decode cX8_greatestDivisor 1 = .ok (.istore_n 2, 1) := by decide +kernel
theorem dX8_greatestDivisor_2 : decode cX8_greatestDivisor 2 = .ok (.iload_n 1, 1) := by decide +kernel
theorem dX8_greatestDivisor_3 : decode cX8_greatestDivisor 3 = .ok (.istore_n 3, 1) := by decide +kernel
theorem dX8_greatestDivisor_4 : decode cX8_greatestDivisor 4 = .ok (.iconst 0, 1) := by decide +kernel
theorem dX8_greatestDivisor_5 : decode cX8_greatestDivisor 5 = .ok (.istore 4, 2) := by decide +kernel
theorem dX8_greatestDivisor_7 : decode cX8_greatestDivisor 7 = .ok (.iload 4, 2) := by decide +kernel
theorem dX8_greatestDivisor_9 : decode cX8_greatestDivisor 9 = .ok (.bipush 64, 2) := by decide +kernel
theorem dX8_greatestDivisor_11 : decode cX8_greatestDivisor 11 = .ok (.if_icmp .ge 23, 3) := by decide +kernel
theorem dX8_greatestDivisor_14 : decode cX8_greatestDivisor 14 = .ok (.iload_n 3, 1) := by decide +kernel
theorem dX8_greatestDivisor_15 : decode cX8_greatestDivisor 15 = .ok (.ifCond .eq 19, 3) := by decide +kernel
theorem dX8_greatestDivisor_18 : decode cX8_greatestDivisor 18 = .ok (.iload_n 2, 1) := by decide +kernel
theorem dX8_greatestDivisor_19 : decode cX8_greatestDivisor 19 = .ok (.iload_n 3, 1) := by decide +kernel
theorem dX8_greatestDivisor_20 : decode cX8_greatestDivisor 20 = .ok (.irem, 1) := by decide +kernel
theorem dX8_greatestDivisor_21 : decode cX8_greatestDivisor 21 = .ok (.istore 5, 2) := by decide +kernel
theorem dX8_greatestDivisor_23 : decode cX8_greatestDivisor 23 = .ok (.iload_n 3, 1) := by decide +kernel
theorem dX8_greatestDivisor_24 : decode cX8_greatestDivisor 24 = .ok (.istore_n 2, 1) := by decide +kernel
theorem dX8_greatestDivisor_25 : decode cX8_greatestDivisor 25 = .ok (.iload 5, 2) := by decide +kernel
theorem dX8_greatestDivisor_27 : decode cX8_greatestDivisor 27 = .ok (.istore_n 3, 1) := by decide +kernel
theorem dX8_greatestDivisor_28 : decode cX8_greatestDivisor 28 = .ok (.iinc 4 1, 3) := by decide +kernel
theorem dX8_greatestDivisor_31 : decode cX8_greatestDivisor 31 = .ok (.goto (-24), 3) := by decide +kernel
theorem dX8_greatestDivisor_34 : decode cX8_greatestDivisor 34 = .ok (.iload_n 2, 1) := by decide +kernel
theorem dX8_greatestDivisor_35 : decode cX8_greatestDivisor 35 = .ok (.ireturn, 1) := by decide +kernel
theorem dX8_forgetTables_0 : decode cX8_forgetTables 0 = .ok (.aload_n 0, 1) := by decide +kernel
theorem dX8_forgetTables_1 : decode cX8_forgetTables 1 = .ok (.iconst 0, 1) := by decide +kernel
theorem dX8_forgetTables_2 : decode cX8_forgetTables 2 = .ok (.putfield 186, 3) := by decide +kernel
theorem dX8_forgetTables_5 : decode cX8_forgetTables 5 = .ok (.aload_n 0, 1) := by decide +kernel
theorem dX8_forgetTables_6 : decode cX8_forgetTables 6 = .ok (.iconst 0, 1) := by decide +kernel
theorem dX8_forgetTables_7 : decode cX8_forgetTables 7 = .ok (.putfield 190, 3) := by decide +kernel
theorem dX8_forgetTables_10 : decode cX8_forgetTables 10 = .ok (.return_, 1) := by decide +kernel
theorem dX8_learnTables_0 : decode cX8_learnTables 0 = .ok (.aload_n 0, 1) := by decide +kernel
theorem dX8_learnTables_1 : decode cX8_learnTables 1 = .ok (.getfield 186, 3) := by decide +kernel
theorem dX8_learnTables_4 : decode cX8_learnTables 4 = .ok (.ifCond .eq 4, 3) := by decide +kernel
theorem dX8_learnTables_7 : decode cX8_learnTables 7 = .ok (.return_, 1) := by decide +kernel
theorem dX8_learnTables_8 : decode cX8_learnTables 8 = .ok (.iconst 0, 1) := by decide +kernel
theorem dX8_learnTables_9 : decode cX8_learnTables 9 = .ok (.istore_n 1, 1) := by decide +kernel
theorem dX8_learnTables_10 : decode cX8_learnTables 10 = .ok (.iload_n 1, 1) := by decide +kernel
theorem dX8_learnTables_11 : decode cX8_learnTables 11 = .ok (.aload_n 0, 1) := by decide +kernel
theorem dX8_learnTables_12 : decode cX8_learnTables 12 = .ok (.getfield 82, 3) := by decide +kernel
theorem dX8_learnTables_15 : decode cX8_learnTables 15 = .ok (.if_icmp .ge 32, 3) := by decide +kernel
theorem dX8_learnTables_18 : decode cX8_learnTables 18 = .ok (.aload_n 0, 1) := by decide +kernel
theorem dX8_learnTables_19 : decode cX8_learnTables 19 = .ok (.getfield 35, 3) := by decide +kernel
theorem dX8_learnTables_22 : decode cX8_learnTables 22 = .ok (.getfield 109, 3) := by decide +kernel
theorem dX8_learnTables_25 : decode cX8_learnTables 25 = .ok (.iload_n 1, 1) := by decide +kernel
theorem dX8_learnTables_26 : decode cX8_learnTables 26 = .ok (.aaload, 1) := by decide +kernel
theorem dX8_learnTables_27 : decode cX8_learnTables 27 = .ok (.aload_n 0, 1) := by decide +kernel
theorem dX8_learnTables_28 : decode cX8_learnTables 28 = .ok (.getfield 10, 3) := by decide +kernel
theorem dX8_learnTables_31 : decode cX8_learnTables 31 = .ok (.aload_n 0, 1) := by decide +kernel
theorem dX8_learnTables_32 : decode cX8_learnTables 32 = .ok (.getfield 18, 3) := by decide +kernel
theorem dX8_learnTables_35 : decode cX8_learnTables 35 = .ok (.iload_n 1, 1) := by decide +kernel
theorem dX8_learnTables_36 : decode cX8_learnTables 36 = .ok (.aaload, 1) := by decide +kernel
theorem dX8_learnTables_37 : decode cX8_learnTables 37 = .ok (.iconst (-1), 1) := by decide +kernel
theorem dX8_learnTables_38 : decode cX8_learnTables 38 = .ok (.invokevirtual 193, 3) := by decide +kernel
theorem dX8_learnTables_41 : decode cX8_learnTables 41 = .ok (.iinc 1 1, 3) := by decide +kernel
theorem dX8_learnTables_44 : decode cX8_learnTables 44 = .ok (.goto (-34), 3) := by decide +kernel
theorem dX8_learnTables_47 : decode cX8_learnTables 47 = .ok (.iconst 0, 1) := by decide +kernel
theorem dX8_learnTables_48 : decode cX8_learnTables 48 = .ok (.istore_n 1, 1) := by decide +kernel
theorem dX8_learnTables_49 : decode cX8_learnTables 49 = .ok (.iload_n 1, 1) := by decide +kernel
theorem dX8_learnTables_50 : decode cX8_learnTables 50 = .ok (.aload_n 0, 1) := by decide +kernel
theorem dX8_learnTables_51 : decode cX8_learnTables 51 = .ok (.getfield 82, 3) := by decide +kernel
theorem dX8_learnTables_54 : decode cX8_learnTables 54 = .ok (.if_icmp .ge 58, 3) := by decide +kernel
theorem dX8_learnTables_57 : decode cX8_learnTables 57 = .ok (.iload_n 1, 1) := by decide +kernel
theorem dX8_learnTables_58 : decode cX8_learnTables 58 = .ok (.iconst 1, 1) := by decide +kernel
theorem dX8_learnTables_59 : decode cX8_learnTables 59 = .ok (.iadd, 1) := by decide +kernel
theorem dX8_learnTables_60 : decode cX8_learnTables 60 = .ok (.istore_n 2, 1) := by decide +kernel
theorem dX8_learnTables_61 : decode cX8_learnTables 61 = .ok (.iload_n 2, 1) := by decide +kernel
theorem dX8_learnTables_62 : decode cX8_learnTables 62 = .ok (.aload_n 0, 1) := by decide +kernel
theorem dX8_learnTables_63 : decode cX8_learnTables 63 = .ok (.getfield 82, 3) := by decide +kernel
theorem dX8_learnTables_66 : decode cX8_learnTables 66 = .ok (.if_icmp .ge 40, 3) := by decide +kernel
theorem dX8_learnTables_69 : decode cX8_learnTables 69 = .ok (.aload_n 0, 1) := by decide +kernel
theorem dX8_learnTables_70 : decode cX8_learnTables 70 = .ok (.getfield 35, 3) := by decide +kernel
theorem dX8_learnTables_73 : decode cX8_learnTables 73 = .ok (.iload_n 1, 1) := by decide +kernel
theorem dX8_learnTables_74 : decode cX8_learnTables 74 = .ok (.iload_n 2, 1) := by decide +kernel
theorem dX8_learnTables_75 : decode cX8_learnTables 75 = .ok (.aload_n 0, 1) := by decide +kernel
theorem dX8_learnTables_76 : decode cX8_learnTables 76 = .ok (.aload_n 0, 1) := by decide +kernel
theorem dX8_learnTables_77 : decode cX8_learnTables 77 = .ok (.getfield 35, 3) := by decide +kernel
theorem dX8_learnTables_80 : decode cX8_learnTables 80 = .ok (.getfield 109, 3) := by decide +kernel
theorem dX8_learnTables_83 : decode cX8_learnTables 83 = .ok (.iload_n 1, 1) := by decide +kernel
theorem dX8_learnTables_84 : decode cX8_learnTables 84 = .ok (.aaload, 1) := by decide +kernel
theorem dX8_learnTables_85 : decode cX8_learnTables 85 = .ok (.aload_n 0, 1) := by decide +kernel
theorem dX8_learnTables_86 : decode cX8_learnTables 86 = .ok (.getfield 35, 3) := by decide +kernel
theorem dX8_learnTables_89 : decode cX8_learnTables 89 = .ok (.getfield 109, 3) := by decide +kernel
theorem dX8_learnTables_92 : decode cX8_learnTables 92 = .ok (.iload_n 2, 1) := by decide +kernel
theorem dX8_learnTables_93 : decode cX8_learnTables 93 = .ok (.aaload, 1) := by decide +kernel
theorem dX8_learnTables_94 : decode cX8_learnTables 94 = .ok (.invokevirtual 197, 3) := by decide +kernel
theorem dX8_learnTables_97 : decode cX8_learnTables 97 = .ok (.invokevirtual 201, 3) := by decide +kernel
theorem dX8_learnTables_100 : decode cX8_learnTables 100 = .ok (.iinc 2 1, 3) := by decide +kernel
theorem dX8_learnTables_103 : decode cX8_learnTables 103 = .ok (.goto (-42), 3) := by decide +kernel
theorem dX8_learnTables_106 : decode cX8_learnTables 106 = .ok (.iinc 1 1, 3) := by decide +kernel
theorem dX8_learnTables_109 : decode cX8_learnTables 109 = .ok (.goto (-60), 3) := by decide +kernel
theorem dX8_learnTables_112 : decode cX8_learnTables 112 = .ok (.aload_n 0, 1) := by decide +kernel
theorem dX8_learnTables_113 : decode cX8_learnTables 113 = .ok (.getfield 45, 3) := by decide +kernel
theorem dX8_learnTables_116 : decode cX8_learnTables 116 = .ok (.aload_n 0, 1) := by decide +kernel
theorem dX8_learnTables_117 : decode cX8_learnTables 117 = .ok (.getfield 35, 3) := by decide +kernel
theorem dX8_learnTables_120 : decode cX8_learnTables 120 = .ok (.getfield 136, 3) := by decide +kernel
theorem dX8_learnTables_123 : decode cX8_learnTables 123 = .ok (.aload_n 0, 1) := by decide +kernel
theorem dX8_learnTables_124 : decode cX8_learnTables 124 = .ok (.getfield 82, 3) := by decide +kernel
theorem dX8_learnTables_127 : decode cX8_learnTables 127 = .ok (.invokevirtual 204, 3) := by decide +kernel
theorem dX8_learnTables_130 : decode cX8_learnTables 130 = .ok (.aload_n 0, 1) := by decide +kernel
theorem dX8_learnTables_131 : decode cX8_learnTables 131 = .ok (.iconst 1, 1) := by decide +kernel
theorem dX8_learnTables_132 : decode cX8_learnTables 132 = .ok (.putfield 186, 3) := by decide +kernel
theorem dX8_learnTables_135 : decode cX8_learnTables 135 = .ok (.return_, 1) := by decide +kernel
theorem dX8_learnMix_0 : decode cX8_learnMix 0 = .ok (.aload_n 0, 1) := by decide +kernel
theorem dX8_learnMix_1 : decode cX8_learnMix 1 = .ok (.invokevirtual 106, 3) := by decide +kernel
theorem dX8_learnMix_4 : decode cX8_learnMix 4 = .ok (.aload_n 0, 1) := by decide +kernel
theorem dX8_learnMix_5 : decode cX8_learnMix 5 = .ok (.getfield 190, 3) := by decide +kernel
theorem dX8_learnMix_8 : decode cX8_learnMix 8 = .ok (.ifCond .ne 29, 3) := by decide +kernel
theorem dX8_learnMix_11 : decode cX8_learnMix 11 = .ok (.aload_n 0, 1) := by decide +kernel
theorem dX8_learnMix_12 : decode cX8_learnMix 12 = .ok (.getfield 35, 3) := by decide +kernel
theorem dX8_learnMix_15 : decode cX8_learnMix 15 = .ok (.getfield 150, 3) := by decide +kernel
theorem dX8_learnMix_18 : decode cX8_learnMix 18 = .ok (.aload_n 0, 1) := by decide +kernel
theorem dX8_learnMix_19 : decode cX8_learnMix 19 = .ok (.getfield 35, 3) := by decide +kernel
theorem dX8_learnMix_22 : decode cX8_learnMix 22 = .ok (.getfield 136, 3) := by decide +kernel
theorem dX8_learnMix_25 : decode cX8_learnMix 25 = .ok (.aload_n 0, 1) := by decide +kernel
theorem dX8_learnMix_26 : decode cX8_learnMix 26 = .ok (.getfield 82, 3) := by decide +kernel
theorem dX8_learnMix_29 : decode cX8_learnMix 29 = .ok (.invokevirtual 208, 3) := by decide +kernel
theorem dX8_learnMix_32 : decode cX8_learnMix 32 = .ok (.aload_n 0, 1) := by decide +kernel
theorem dX8_learnMix_33 : decode cX8_learnMix 33 = .ok (.iconst 1, 1) := by decide +kernel
theorem dX8_learnMix_34 : decode cX8_learnMix 34 = .ok (.putfield 190, 3) := by decide +kernel
theorem dX8_learnMix_37 : decode cX8_learnMix 37 = .ok (.return_, 1) := by decide +kernel
theorem dX8_tableOf_0 : decode cX8_tableOf 0 = .ok (.aload_n 0, 1) := by decide +kernel
theorem dX8_tableOf_1 : decode cX8_tableOf 1 = .ok (.getfield 28, 3) := by decide +kernel
theorem dX8_tableOf_4 : decode cX8_tableOf 4 = .ok (.aload_n 1, 1) := by decide +kernel
theorem dX8_tableOf_5 : decode cX8_tableOf 5 = .ok (.aload_n 2, 1) := by decide +kernel
theorem dX8_tableOf_6 : decode cX8_tableOf 6 = .ok (.aload_n 0, 1) := by decide +kernel
theorem dX8_tableOf_7 : decode cX8_tableOf 7 = .ok (.getfield 60, 3) := by decide +kernel
theorem dX8_tableOf_10 : decode cX8_tableOf 10 = .ok (.invokevirtual 113, 3) := by decide +kernel
theorem dX8_tableOf_13 : decode cX8_tableOf 13 = .ok (.aload_n 0, 1) := by decide +kernel
theorem dX8_tableOf_14 : decode cX8_tableOf 14 = .ok (.getfield 28, 3) := by decide +kernel
theorem dX8_tableOf_17 : decode cX8_tableOf 17 = .ok (.aload_n 2, 1) := by decide +kernel
theorem dX8_tableOf_18 : decode cX8_tableOf 18 = .ok (.aload_n 1, 1) := by decide +kernel
theorem dX8_tableOf_19 : decode cX8_tableOf 19 = .ok (.aload_n 0, 1) := by decide +kernel
theorem dX8_tableOf_20 : decode cX8_tableOf 20 = .ok (.getfield 60, 3) := by decide +kernel
theorem dX8_tableOf_23 : decode cX8_tableOf 23 = .ok (.invokevirtual 113, 3) := by decide +kernel
theorem dX8_tableOf_26 : decode cX8_tableOf 26 = .ok (.isub, 1) := by decide +kernel
theorem dX8_tableOf_27 : decode cX8_tableOf 27 = .ok (.ireturn, 1) := by decide +kernel
theorem dX8_learnTablesWithout_0 : decode cX8_learnTablesWithout 0 = .ok (.aload_n 0, 1) := by decide +kernel
theorem dX8_learnTablesWithout_1 : decode cX8_learnTablesWithout 1 = .ok (.getfield 52, 3) := by decide +kernel
theorem dX8_learnTablesWithout_4 : decode cX8_learnTablesWithout 4 = .ok (.aload_n 0, 1) := by decide +kernel
theorem dX8_learnTablesWithout_5 : decode cX8_learnTablesWithout 5 = .ok (.getfield 10, 3) := by decide +kernel
theorem dX8_learnTablesWithout_8 : decode cX8_learnTablesWithout 8 = .ok (.aload_n 0, 1) := by decide +kernel
theorem dX8_learnTablesWithout_9 : decode cX8_learnTablesWithout 9 = .ok (.getfield 18, 3) := by decide +kernel
theorem dX8_learnTablesWithout_12 : decode cX8_learnTablesWithout 12 = .ok (.iload_n 1, 1) := by decide +kernel
theorem dX8_learnTablesWithout_13 : decode cX8_learnTablesWithout 13 = .ok (.aaload, 1) := by decide +kernel
theorem dX8_learnTablesWithout_14 : decode cX8_learnTablesWithout 14 = .ok (.aload_n 0, 1) := by decide +kernel
theorem dX8_learnTablesWithout_15 : decode cX8_learnTablesWithout 15 = .ok (.getfield 18, 3) := by decide +kernel
theorem dX8_learnTablesWithout_18 : decode cX8_learnTablesWithout 18 = .ok (.iload_n 1, 1) := by decide +kernel
theorem dX8_learnTablesWithout_19 : decode cX8_learnTablesWithout 19 = .ok (.aaload, 1) := by decide +kernel
theorem dX8_learnTablesWithout_20 : decode cX8_learnTablesWithout 20 = .ok (.iload_n 2, 1) := by decide +kernel
theorem dX8_learnTablesWithout_21 : decode cX8_learnTablesWithout 21 = .ok (.invokevirtual 170, 3) := by decide +kernel
theorem dX8_learnTablesWithout_24 : decode cX8_learnTablesWithout 24 = .ok (.invokevirtual 193, 3) := by decide +kernel
theorem dX8_learnTablesWithout_27 : decode cX8_learnTablesWithout 27 = .ok (.iconst 0, 1) := by decide +kernel
theorem dX8_learnTablesWithout_28 : decode cX8_learnTablesWithout 28 = .ok (.istore_n 3, 1) := by decide +kernel
theorem dX8_learnTablesWithout_29 : decode cX8_learnTablesWithout 29 = .ok (.iload_n 3, 1) := by decide +kernel
theorem dX8_learnTablesWithout_30 : decode cX8_learnTablesWithout 30 = .ok (.aload_n 0, 1) := by decide +kernel
theorem dX8_learnTablesWithout_31 : decode cX8_learnTablesWithout 31 = .ok (.getfield 82, 3) := by decide +kernel
theorem dX8_learnTablesWithout_34 : decode cX8_learnTablesWithout 34 = .ok (.if_icmp .ge 41, 3) := by decide +kernel
theorem dX8_learnTablesWithout_37 : decode cX8_learnTablesWithout 37 = .ok (.aload_n 0, 1) := by decide +kernel
theorem dX8_learnTablesWithout_38 : decode cX8_learnTablesWithout 38 = .ok (.getfield 56, 3) := by decide +kernel
theorem dX8_learnTablesWithout_41 : decode cX8_learnTablesWithout 41 = .ok (.iload_n 3, 1) := by decide +kernel
theorem dX8_learnTablesWithout_42 : decode cX8_learnTablesWithout 42 = .ok (.iload_n 3, 1) := by decide +kernel
theorem dX8_learnTablesWithout_43 : decode cX8_learnTablesWithout 43 = .ok (.iload_n 1, 1) := by decide +kernel
theorem dX8_learnTablesWithout_44 : decode cX8_learnTablesWithout 44 = .ok (.if_icmp .ne 7, 3) := by decide +kernel
theorem dX8_learnTablesWithout_47 : decode cX8_learnTablesWithout 47 = .ok (.iconst 0, 1) := by decide +kernel
theorem dX8_learnTablesWithout_48 : decode cX8_learnTablesWithout 48 = .ok (.goto 20, 3) := by decide +kernel
theorem dX8_learnTablesWithout_51 : decode cX8_learnTablesWithout 51 = .ok (.aload_n 0, 1) := by decide +kernel
theorem dX8_learnTablesWithout_52 : decode cX8_learnTablesWithout 52 = .ok (.aload_n 0, 1) := by decide +kernel
theorem dX8_learnTablesWithout_53 : decode cX8_learnTablesWithout 53 = .ok (.getfield 52, 3) := by decide +kernel
theorem dX8_learnTablesWithout_56 : decode cX8_learnTablesWithout 56 = .ok (.aload_n 0, 1) := by decide +kernel
theorem dX8_learnTablesWithout_57 : decode cX8_learnTablesWithout 57 = .ok (.getfield 35, 3) := by decide +kernel
theorem dX8_learnTablesWithout_60 : decode cX8_learnTablesWithout 60 = .ok (.getfield 109, 3) := by decide +kernel
theorem dX8_learnTablesWithout_63 : decode cX8_learnTablesWithout 63 = .ok (.iload_n 3, 1) := by decide +kernel
theorem dX8_learnTablesWithout_64 : decode cX8_learnTablesWithout 64 = .ok (.aaload, 1) := by decide +kernel
theorem dX8_learnTablesWithout_65 : decode cX8_learnTablesWithout 65 = .ok (.invokevirtual 197, 3) := by decide +kernel
theorem dX8_learnTablesWithout_68 : decode cX8_learnTablesWithout 68 = .ok (.iastore, 1) := by decide +kernel
theorem dX8_learnTablesWithout_69 : decode cX8_learnTablesWithout 69 = .ok (.iinc 3 1, 3) := by decide +kernel
theorem dX8_learnTablesWithout_72 : decode cX8_learnTablesWithout 72 = .ok (.goto (-43), 3) := by decide +kernel
theorem dX8_learnTablesWithout_75 : decode cX8_learnTablesWithout 75 = .ok (.return_, 1) := by decide +kernel
theorem dX8_isMixWithin_0 : decode cX8_isMixWithin 0 = .ok (.aload_n 0, 1) := by decide +kernel
theorem dX8_isMixWithin_1 : decode cX8_isMixWithin 1 = .ok (.getfield 10, 3) := by decide +kernel
theorem dX8_isMixWithin_4 : decode cX8_isMixWithin 4 = .ok (.getfield 76, 3) := by decide +kernel
theorem dX8_isMixWithin_7 : decode cX8_isMixWithin 7 = .ok (.iload_n 3, 1) := by decide +kernel
theorem dX8_isMixWithin_8 : decode cX8_isMixWithin 8 = .ok (.iaload, 1) := by decide +kernel
theorem dX8_isMixWithin_9 : decode cX8_isMixWithin 9 = .ok (.istore 5, 2) := by decide +kernel
theorem dX8_isMixWithin_11 : decode cX8_isMixWithin 11 = .ok (.aload_n 0, 1) := by decide +kernel
theorem dX8_isMixWithin_12 : decode cX8_isMixWithin 12 = .ok (.getfield 10, 3) := by decide +kernel
theorem dX8_isMixWithin_15 : decode cX8_isMixWithin 15 = .ok (.getfield 76, 3) := by decide +kernel
theorem dX8_isMixWithin_18 : decode cX8_isMixWithin 18 = .ok (.iload_n 3, 1) := by decide +kernel
theorem dX8_isMixWithin_19 : decode cX8_isMixWithin 19 = .ok (.iload 4, 2) := by decide +kernel
theorem dX8_isMixWithin_21 : decode cX8_isMixWithin 21 = .ok (.iastore, 1) := by decide +kernel
theorem dX8_isMixWithin_22 : decode cX8_isMixWithin 22 = .ok (.aload_n 0, 1) := by decide +kernel
theorem dX8_isMixWithin_23 : decode cX8_isMixWithin 23 = .ok (.iload_n 3, 1) := by decide +kernel
theorem dX8_isMixWithin_24 : decode cX8_isMixWithin 24 = .ok (.invokevirtual 209, 3) := by decide +kernel
theorem dX8_isMixWithin_27 : decode cX8_isMixWithin 27 = .ok (.aload_n 0, 1) := by decide +kernel
theorem dX8_isMixWithin_28 : decode cX8_isMixWithin 28 = .ok (.getfield 10, 3) := by decide +kernel
theorem dX8_isMixWithin_31 : decode cX8_isMixWithin 31 = .ok (.getfield 76, 3) := by decide +kernel
theorem dX8_isMixWithin_34 : decode cX8_isMixWithin 34 = .ok (.iload_n 3, 1) := by decide +kernel
theorem dX8_isMixWithin_35 : decode cX8_isMixWithin 35 = .ok (.iload 5, 2) := by decide +kernel
theorem dX8_isMixWithin_37 : decode cX8_isMixWithin 37 = .ok (.iastore, 1) := by decide +kernel
theorem dX8_isMixWithin_38 : decode cX8_isMixWithin 38 = .ok (.aload_n 0, 1) := by decide +kernel
theorem dX8_isMixWithin_39 : decode cX8_isMixWithin 39 = .ok (.getfield 39, 3) := by decide +kernel
theorem dX8_isMixWithin_42 : decode cX8_isMixWithin 42 = .ok (.aload_n 0, 1) := by decide +kernel
theorem dX8_isMixWithin_43 : decode cX8_isMixWithin 43 = .ok (.getfield 35, 3) := by decide +kernel
theorem dX8_isMixWithin_46 : decode cX8_isMixWithin 46 = .ok (.aload_n 0, 1) := by decide +kernel
theorem dX8_isMixWithin_47 : decode cX8_isMixWithin 47 = .ok (.getfield 82, 3) := by decide +kernel
theorem dX8_isMixWithin_50 : decode cX8_isMixWithin 50 = .ok (.invokevirtual 213, 3) := by decide +kernel
theorem dX8_isMixWithin_53 : decode cX8_isMixWithin 53 = .ok (.ifCond .eq 16, 3) := by decide +kernel
theorem dX8_isMixWithin_56 : decode cX8_isMixWithin 56 = .ok (.aload_n 0, 1) := by decide +kernel
theorem dX8_isMixWithin_57 : decode cX8_isMixWithin 57 = .ok (.getfield 35, 3) := by decide +kernel
theorem dX8_isMixWithin_60 : decode cX8_isMixWithin 60 = .ok (.getfield 150, 3) := by decide +kernel
theorem dX8_isMixWithin_63 : decode cX8_isMixWithin 63 = .ok (.iload_n 1, 1) := by decide +kernel
theorem dX8_isMixWithin_64 : decode cX8_isMixWithin 64 = .ok (.iload_n 2, 1) := by decide +kernel
theorem dX8_isMixWithin_65 : decode cX8_isMixWithin 65 = .ok (.invokevirtual 217, 3) := by decide +kernel
theorem dX8_isMixWithin_68 : decode cX8_isMixWithin 68 = .ok (.ireturn, 1) := by decide +kernel
theorem dX8_isMixWithin_69 : decode cX8_isMixWithin 69 = .ok (.aload_n 0, 1) := by decide +kernel
theorem dX8_isMixWithin_70 : decode cX8_isMixWithin 70 = .ok (.getfield 39, 3) := by decide +kernel
theorem dX8_isMixWithin_73 : decode cX8_isMixWithin 73 = .ok (.getfield 150, 3) := by decide +kernel
theorem dX8_isMixWithin_76 : decode cX8_isMixWithin 76 = .ok (.aload_n 0, 1) := by decide +kernel
theorem dX8_isMixWithin_77 : decode cX8_isMixWithin 77 = .ok (.getfield 39, 3) := by decide +kernel
theorem dX8_isMixWithin_80 : decode cX8_isMixWithin 80 = .ok (.getfield 136, 3) := by decide +kernel
theorem dX8_isMixWithin_83 : decode cX8_isMixWithin 83 = .ok (.aload_n 0, 1) := by decide +kernel
theorem dX8_isMixWithin_84 : decode cX8_isMixWithin 84 = .ok (.getfield 82, 3) := by decide +kernel
theorem dX8_isMixWithin_87 : decode cX8_isMixWithin 87 = .ok (.invokevirtual 208, 3) := by decide +kernel
theorem dX8_isMixWithin_90 : decode cX8_isMixWithin 90 = .ok (.aload_n 0, 1) := by decide +kernel
theorem dX8_isMixWithin_91 : decode cX8_isMixWithin 91 = .ok (.getfield 39, 3) := by decide +kernel
theorem dX8_isMixWithin_94 : decode cX8_isMixWithin 94 = .ok (.getfield 150, 3) := by decide +kernel
theorem dX8_isMixWithin_97 : decode cX8_isMixWithin 97 = .ok (.iload_n 1, 1) := by decide +kernel
theorem dX8_isMixWithin_98 : decode cX8_isMixWithin 98 = .ok (.iload_n 2, 1) := by decide +kernel
theorem dX8_isMixWithin_99 : decode cX8_isMixWithin 99 = .ok (.invokevirtual 217, 3) := by decide +kernel
theorem dX8_isMixWithin_102 : decode cX8_isMixWithin 102 = .ok (.ireturn, 1) := by decide +kernel
theorem dX8_learnTrialTables_0 : decode cX8_learnTrialTables 0 = .ok (.iconst 0, 1) := by decide +kernel
theorem dX8_learnTrialTables_1 : decode cX8_learnTrialTables 1 = .ok (.istore_n 2, 1) := by decide +kernel
theorem dX8_learnTrialTables_2 : decode cX8_learnTrialTables 2 = .ok (.iload_n 2, 1) := by decide +kernel
theorem dX8_learnTrialTables_3 : decode cX8_learnTrialTables 3 = .ok (.aload_n 0, 1) := by decide +kernel
theorem dX8_learnTrialTables_4 : decode cX8_learnTrialTables 4 = .ok (.getfield 82, 3) := by decide +kernel
theorem dX8_learnTrialTables_7 : decode cX8_learnTrialTables 7 = .ok (.if_icmp .ge 41, 3) := by decide +kernel
theorem dX8_learnTrialTables_10 : decode cX8_learnTrialTables 10 = .ok (.aload_n 0, 1) := by decide +kernel
theorem dX8_learnTrialTables_11 : decode cX8_learnTrialTables 11 = .ok (.iload_n 2, 1) := by decide +kernel
theorem dX8_learnTrialTables_12 : decode cX8_learnTrialTables 12 = .ok (.iload_n 1, 1) := by decide +kernel
theorem dX8_learnTrialTables_13 : decode cX8_learnTrialTables 13 = .ok (.invokevirtual 220, 3) := by decide +kernel
theorem dX8_learnTrialTables_16 : decode cX8_learnTrialTables 16 = .ok (.ifCond .eq 26, 3) := by decide +kernel
theorem dX8_learnTrialTables_19 : decode cX8_learnTrialTables 19 = .ok (.aload_n 0, 1) := by decide +kernel
theorem dX8_learnTrialTables_20 : decode cX8_learnTrialTables 20 = .ok (.getfield 39, 3) := by decide +kernel
theorem dX8_learnTrialTables_23 : decode cX8_learnTrialTables 23 = .ok (.getfield 109, 3) := by decide +kernel
theorem dX8_learnTrialTables_26 : decode cX8_learnTrialTables 26 = .ok (.iload_n 2, 1) := by decide +kernel
theorem dX8_learnTrialTables_27 : decode cX8_learnTrialTables 27 = .ok (.aaload, 1) := by decide +kernel
theorem dX8_learnTrialTables_28 : decode cX8_learnTrialTables 28 = .ok (.aload_n 0, 1) := by decide +kernel
theorem dX8_learnTrialTables_29 : decode cX8_learnTrialTables 29 = .ok (.getfield 10, 3) := by decide +kernel
theorem dX8_learnTrialTables_32 : decode cX8_learnTrialTables 32 = .ok (.aload_n 0, 1) := by decide +kernel
theorem dX8_learnTrialTables_33 : decode cX8_learnTrialTables 33 = .ok (.getfield 18, 3) := by decide +kernel
theorem dX8_learnTrialTables_36 : decode cX8_learnTrialTables 36 = .ok (.iload_n 2, 1) := by decide +kernel
theorem dX8_learnTrialTables_37 : decode cX8_learnTrialTables 37 = .ok (.aaload, 1) := by decide +kernel
theorem dX8_learnTrialTables_38 : decode cX8_learnTrialTables 38 = .ok (.iconst (-1), 1) := by decide +kernel
theorem dX8_learnTrialTables_39 : decode cX8_learnTrialTables 39 = .ok (.invokevirtual 193, 3) := by decide +kernel
theorem dX8_learnTrialTables_42 : decode cX8_learnTrialTables 42 = .ok (.iinc 2 1, 3) := by decide +kernel
theorem dX8_learnTrialTables_45 : decode cX8_learnTrialTables 45 = .ok (.goto (-43), 3) := by decide +kernel
theorem dX8_learnTrialTables_48 : decode cX8_learnTrialTables 48 = .ok (.iconst 0, 1) := by decide +kernel
theorem dX8_learnTrialTables_49 : decode cX8_learnTrialTables 49 = .ok (.istore_n 2, 1) := by decide +kernel
theorem dX8_learnTrialTables_50 : decode cX8_learnTrialTables 50 = .ok (.iload_n 2, 1) := by decide +kernel
theorem dX8_learnTrialTables_51 : decode cX8_learnTrialTables 51 = .ok (.aload_n 0, 1) := by decide +kernel
theorem dX8_learnTrialTables_52 : decode cX8_learnTrialTables 52 = .ok (.getfield 82, 3) := by decide +kernel
theorem dX8_learnTrialTables_55 : decode cX8_learnTrialTables 55 = .ok (.if_icmp .ge 96, 3) := by decide +kernel
theorem dX8_learnTrialTables_58 : decode cX8_learnTrialTables 58 = .ok (.iload_n 2, 1) := by decide +kernel
theorem dX8_learnTrialTables_59 : decode cX8_learnTrialTables 59 = .ok (.iconst 1, 1) := by decide +kernel
theorem dX8_learnTrialTables_60 : decode cX8_learnTrialTables 60 = .ok (.iadd, 1) := by decide +kernel
theorem dX8_learnTrialTables_61 : decode cX8_learnTrialTables 61 = .ok (.istore_n 3, 1) := by decide +kernel
theorem dX8_learnTrialTables_62 : decode cX8_learnTrialTables 62 = .ok (.iload_n 3, 1) := by decide +kernel
theorem dX8_learnTrialTables_63 : decode cX8_learnTrialTables 63 = .ok (.aload_n 0, 1) := by decide +kernel
theorem dX8_learnTrialTables_64 : decode cX8_learnTrialTables 64 = .ok (.getfield 82, 3) := by decide +kernel
theorem dX8_learnTrialTables_67 : decode cX8_learnTrialTables 67 = .ok (.if_icmp .ge 78, 3) := by decide +kernel
theorem dX8_learnTrialTables_70 : decode cX8_learnTrialTables 70 = .ok (.aload_n 0, 1) := by decide +kernel
theorem dX8_learnTrialTables_71 : decode cX8_learnTrialTables 71 = .ok (.iload_n 2, 1) := by decide +kernel
theorem dX8_learnTrialTables_72 : decode cX8_learnTrialTables 72 = .ok (.iload_n 1, 1) := by decide +kernel
theorem dX8_learnTrialTables_73 : decode cX8_learnTrialTables 73 = .ok (.invokevirtual 220, 3) := by decide +kernel
theorem dX8_learnTrialTables_76 : decode cX8_learnTrialTables 76 = .ok (.ifCond .ne 12, 3) := by decide +kernel
theorem dX8_learnTrialTables_79 : decode cX8_learnTrialTables 79 = .ok (.aload_n 0, 1) := by decide +kernel
theorem dX8_learnTrialTables_80 : decode cX8_learnTrialTables 80 = .ok (.iload_n 3, 1) := by decide +kernel
theorem dX8_learnTrialTables_81 : decode cX8_learnTrialTables 81 = .ok (.iload_n 1, 1) := by decide +kernel
theorem dX8_learnTrialTables_82 : decode cX8_learnTrialTables 82 = .ok (.invokevirtual 220, 3) := by decide +kernel
theorem dX8_learnTrialTables_85 : decode cX8_learnTrialTables 85 = .ok (.ifCond .eq 7, 3) := by decide +kernel
theorem dX8_learnTrialTables_88 : decode cX8_learnTrialTables 88 = .ok (.iconst 1, 1) := by decide +kernel
theorem dX8_learnTrialTables_89 : decode cX8_learnTrialTables 89 = .ok (.goto 4, 3) := by decide +kernel
theorem dX8_learnTrialTables_92 : decode cX8_learnTrialTables 92 = .ok (.iconst 0, 1) := by decide +kernel
theorem dX8_learnTrialTables_93 : decode cX8_learnTrialTables 93 = .ok (.istore 4, 2) := by decide +kernel
theorem dX8_learnTrialTables_95 : decode cX8_learnTrialTables 95 = .ok (.aload_n 0, 1) := by decide +kernel
theorem dX8_learnTrialTables_96 : decode cX8_learnTrialTables 96 = .ok (.getfield 39, 3) := by decide +kernel
theorem dX8_learnTrialTables_99 : decode cX8_learnTrialTables 99 = .ok (.iload_n 2, 1) := by decide +kernel
theorem dX8_learnTrialTables_100 : decode cX8_learnTrialTables 100 = .ok (.iload_n 3, 1) := by decide +kernel
theorem dX8_learnTrialTables_101 : decode cX8_learnTrialTables 101 = .ok (.iload 4, 2) := by decide +kernel
theorem dX8_learnTrialTables_103 : decode cX8_learnTrialTables 103 = .ok (.ifCond .eq 22, 3) := by decide +kernel
theorem dX8_learnTrialTables_106 : decode cX8_learnTrialTables 106 = .ok (.aload_n 0, 1) := by decide +kernel
theorem dX8_learnTrialTables_107 : decode cX8_learnTrialTables 107 = .ok (.aload_n 0, 1) := by decide +kernel
theorem dX8_learnTrialTables_108 : decode cX8_learnTrialTables 108 = .ok (.iload_n 2, 1) := by decide +kernel
theorem dX8_learnTrialTables_109 : decode cX8_learnTrialTables 109 = .ok (.iload_n 1, 1) := by decide +kernel
theorem dX8_learnTrialTables_110 : decode cX8_learnTrialTables 110 = .ok (.invokevirtual 223, 3) := by decide +kernel
theorem dX8_learnTrialTables_113 : decode cX8_learnTrialTables 113 = .ok (.aload_n 0, 1) := by decide +kernel
theorem dX8_learnTrialTables_114 : decode cX8_learnTrialTables 114 = .ok (.iload_n 3, 1) := by decide +kernel
theorem dX8_learnTrialTables_115 : decode cX8_learnTrialTables 115 = .ok (.iload_n 1, 1) := by decide +kernel
theorem dX8_learnTrialTables_116 : decode cX8_learnTrialTables 116 = .ok (.invokevirtual 223, 3) := by decide +kernel
theorem dX8_learnTrialTables_119 : decode cX8_learnTrialTables 119 = .ok (.invokevirtual 197, 3) := by decide +kernel
theorem dX8_learnTrialTables_122 : decode cX8_learnTrialTables 122 = .ok (.goto 14, 3) := by decide +kernel
theorem dX8_learnTrialTables_125 : decode cX8_learnTrialTables 125 = .ok (.aload_n 0, 1) := by decide +kernel
theorem dX8_learnTrialTables_126 : decode cX8_learnTrialTables 126 = .ok (.getfield 35, 3) := by decide +kernel
theorem dX8_learnTrialTables_129 : decode cX8_learnTrialTables 129 = .ok (.getfield 136, 3) := by decide +kernel
theorem dX8_learnTrialTables_132 : decode cX8_learnTrialTables 132 = .ok (.iload_n 2, 1) := by decide +kernel
theorem dX8_learnTrialTables_133 : decode cX8_learnTrialTables 133 = .ok (.aaload, 1) := by decide +kernel
theorem dX8_learnTrialTables_134 : decode cX8_learnTrialTables 134 = .ok (.iload_n 3, 1) := by decide +kernel
theorem dX8_learnTrialTables_135 : decode cX8_learnTrialTables 135 = .ok (.iaload, 1) := by decide +kernel
theorem dX8_learnTrialTables_136 : decode cX8_learnTrialTables 136 = .ok (.invokevirtual 201, 3) := by decide +kernel
theorem dX8_learnTrialTables_139 : decode cX8_learnTrialTables 139 = .ok (.iinc 3 1, 3) := by decide +kernel
theorem dX8_learnTrialTables_142 : decode cX8_learnTrialTables 142 = .ok (.goto (-80), 3) := by decide +kernel
theorem dX8_learnTrialTables_145 : decode cX8_learnTrialTables 145 = .ok (.iinc 2 1, 3) := by decide +kernel
theorem dX8_learnTrialTables_148 : decode cX8_learnTrialTables 148 = .ok (.goto (-98), 3) := by decide +kernel
theorem dX8_learnTrialTables_151 : decode cX8_learnTrialTables 151 = .ok (.return_, 1) := by decide +kernel
theorem dX8_trialPlan_0 : decode cX8_trialPlan 0 = .ok (.aload_n 0, 1) := by decide +kernel
theorem dX8_trialPlan_1 : decode cX8_trialPlan 1 = .ok (.iload_n 1, 1) := by decide +kernel
theorem dX8_trialPlan_2 : decode cX8_trialPlan 2 = .ok (.iload_n 2, 1) := by decide +kernel
theorem dX8_trialPlan_3 : decode cX8_trialPlan 3 = .ok (.invokevirtual 220, 3) := by decide +kernel
theorem dX8_trialPlan_6 : decode cX8_trialPlan 6 = .ok (.ifCond .eq 15, 3) := by decide +kernel
theorem dX8_trialPlan_9 : decode cX8_trialPlan 9 = .ok (.aload_n 0, 1) := by decide +kernel
theorem dX8_trialPlan_10 : decode cX8_trialPlan 10 = .ok (.getfield 39, 3) := by decide +kernel
theorem dX8_trialPlan_13 : decode cX8_trialPlan 13 = .ok (.getfield 109, 3) := by decide +kernel
theorem dX8_trialPlan_16 : decode cX8_trialPlan 16 = .ok (.iload_n 1, 1) := by decide +kernel
theorem dX8_trialPlan_17 : decode cX8_trialPlan 17 = .ok (.aaload, 1) := by decide +kernel
theorem dX8_trialPlan_18 : decode cX8_trialPlan 18 = .ok (.goto 12, 3) := by decide +kernel
theorem dX8_trialPlan_21 : decode cX8_trialPlan 21 = .ok (.aload_n 0, 1) := by decide +kernel
theorem dX8_trialPlan_22 : decode cX8_trialPlan 22 = .ok (.getfield 35, 3) := by decide +kernel
theorem dX8_trialPlan_25 : decode cX8_trialPlan 25 = .ok (.getfield 109, 3) := by decide +kernel
theorem dX8_trialPlan_28 : decode cX8_trialPlan 28 = .ok (.iload_n 1, 1) := by decide +kernel
theorem dX8_trialPlan_29 : decode cX8_trialPlan 29 = .ok (.aaload, 1) := by decide +kernel
theorem dX8_trialPlan_30 : decode cX8_trialPlan 30 = .ok (.areturn, 1) := by decide +kernel
theorem dX8_hasCard_0 : decode cX8_hasCard 0 = .ok (.aload_n 0, 1) := by decide +kernel
theorem dX8_hasCard_1 : decode cX8_hasCard 1 = .ok (.getfield 18, 3) := by decide +kernel
theorem dX8_hasCard_4 : decode cX8_hasCard 4 = .ok (.iload_n 1, 1) := by decide +kernel
theorem dX8_hasCard_5 : decode cX8_hasCard 5 = .ok (.aaload, 1) := by decide +kernel
theorem dX8_hasCard_6 : decode cX8_hasCard 6 = .ok (.iload_n 2, 1) := by decide +kernel
theorem dX8_hasCard_7 : decode cX8_hasCard 7 = .ok (.invokevirtual 170, 3) := by decide +kernel
theorem dX8_hasCard_10 : decode cX8_hasCard 10 = .ok (.iconst (-1), 1) := by decide +kernel
theorem dX8_hasCard_11 : decode cX8_hasCard 11 = .ok (.if_icmp .eq 7, 3) := by decide +kernel
theorem dX8_hasCard_14 : decode cX8_hasCard 14 = .ok (.iconst 1, 1) := by decide +kernel
theorem dX8_hasCard_15 : decode cX8_hasCard 15 = .ok (.goto 4, 3) := by decide +kernel
theorem dX8_hasCard_18 : decode cX8_hasCard 18 = .ok (.iconst 0, 1) := by decide +kernel
theorem dX8_hasCard_19 : decode cX8_hasCard 19 = .ok (.ireturn, 1) := by decide +kernel
end
section
theorem dX9_init_0 : decode cX9_init 0 = .ok (.aload_n 0, 1) := by decide +kernel
theorem dX9_init_1 : decode cX9_init 1 = .ok (.invokespecial 1, 3) := by decide +kernel
theorem dX9_init_4 : decode cX9_init 4 = .ok (.aload_n 0, 1) := by decide +kernel
theorem dX9_init_5 : decode cX9_init 5 = .ok (.bipush 12, 2) := by decide +kernel
theorem dX9_init_7 : decode cX9_init 7 = .ok (.newarray .int, 2) := by decide +kernel
theorem dX9_init_9 : decode cX9_init 9 = .ok (.putfield 7, 3) := by decide +kernel
theorem dX9_init_12 : decode cX9_init 12 = .ok (.aload_n 0, 1) := by decide +kernel
theorem dX9_init_13 : decode cX9_init 13 = .ok (.bipush 12, 2) := by decide +kernel
theorem dX9_init_15 : decode cX9_init 15 = .ok (.newarray .int, 2) := by decide +kernel
theorem dX9_init_17 : decode cX9_init 17 = .ok (.putfield 13, 3) := by decide +kernel
theorem dX9_init_20 : decode cX9_init 20 = .ok (.aload_n 0, 1) := by decide +kernel
theorem dX9_init_21 : decode cX9_init 21 = .ok (.bipush 12, 2) := by decide +kernel
theorem dX9_init_23 : decode cX9_init 23 = .ok (.newarray .int, 2) := by decide +kernel
theorem dX9_init_25 : decode cX9_init 25 = .ok (.putfield 16, 3) := by decide +kernel
theorem dX9_init_28 : decode cX9_init 28 = .ok (.aload_n 0, 1) := by decide +kernel
theorem dX9_init_29 : decode cX9_init 29 = .ok (.iconst 5, 1) := by decide +kernel
theorem dX9_init_30 : decode cX9_init 30 = .ok (.newarray .int, 2) := by decide +kernel
theorem dX9_init_32 : decode cX9_init 32 = .ok (.putfield 19, 3) := by decide +kernel
theorem dX9_init_35 : decode cX9_init 35 = .ok (.aload_n 0, 1) := by decide +kernel
theorem dX9_init_36 : decode cX9_init 36 = .ok (.bipush 50, 2) := by decide +kernel
theorem dX9_init_38 : decode cX9_init 38 = .ok (.newarray .int, 2) := by decide +kernel
theorem dX9_init_40 : decode cX9_init 40 = .ok (.putfield 22, 3) := by decide +kernel
theorem dX9_init_43 : decode cX9_init 43 = .ok (.aload_n 0, 1) := by decide +kernel
theorem dX9_init_44 : decode cX9_init 44 = .ok (.bipush 12, 2) := by decide +kernel
theorem dX9_init_46 : decode cX9_init 46 = .ok (.putfield 25, 3) := by decide +kernel
theorem dX9_init_49 : decode cX9_init 49 = .ok (.aload_n 0, 1) := by decide +kernel
theorem dX9_init_50 : decode cX9_init 50 = .ok (.iconst 2, 1) := by decide +kernel
theorem dX9_init_51 : decode cX9_init 51 = .ok (.newarray .int, 2) := by decide +kernel
theorem dX9_init_53 : decode cX9_init 53 = .ok (.putfield 29, 3) := by decide +kernel
theorem dX9_init_56 : decode cX9_init 56 = .ok (.aload_n 0, 1) := by decide +kernel
theorem dX9_init_57 : decode cX9_init 57 = .ok (.iconst 2, 1) := by decide +kernel
theorem dX9_init_58 : decode cX9_init 58 = .ok (.newarray .int, 2) := by decide +kernel
theorem dX9_init_60 : decode cX9_init 60 = .ok (.putfield 32, 3) := by decide +kernel
theorem dX9_init_63 : decode cX9_init 63 = .ok (.aload_n 0, 1) := by decide +kernel
theorem dX9_init_64 : decode cX9_init 64 = .ok (.iconst 2, 1) := by decide +kernel
theorem dX9_init_65 : decode cX9_init 65 = .ok (.newarray .int, 2) := by decide +kernel
theorem dX9_init_67 : decode cX9_init 67 = .ok (.putfield 35, 3) := by decide +kernel
theorem dX9_init_70 : decode cX9_init 70 = .ok (.aload_n 0, 1) := by decide +kernel
theorem dX9_init_71 : decode cX9_init 71 = .ok (.iconst 2, 1) := by decide +kernel
theorem dX9_init_72 : decode cX9_init 72 = .ok (.newarray .int, 2) := by decide +kernel
theorem dX9_init_74 : decode cX9_init 74 = .ok (.putfield 38, 3) := by decide +kernel
theorem dX9_init_77 : decode cX9_init 77 = .ok (.aload_n 0, 1) := by decide +kernel
theorem dX9_init_78 : decode cX9_init 78 = .ok (.iconst 2, 1) := by decide +kernel
theorem dX9_init_79 : decode cX9_init 79 = .ok (.newarray .int, 2) := by decide +kernel
theorem dX9_init_81 : decode cX9_init 81 = .ok (.putfield 41, 3) := by decide +kernel
theorem dX9_init_84 : decode cX9_init 84 = .ok (.aload_n 0, 1) := by decide +kernel
theorem dX9_init_85 : decode cX9_init 85 = .ok (.iconst 2, 1) := by decide +kernel
theorem dX9_init_86 : decode cX9_init 86 = .ok (.newarray .int, 2) := by decide +kernel
theorem dX9_init_88 : decode cX9_init 88 = .ok (.putfield 44, 3) := by decide +kernel
theorem dX9_init_91 : decode cX9_init 91 = .ok (.aload_n 0, 1) := by decide +kernel
theorem dX9_init_92 : decode cX9_init 92 = .ok (.bipush 24, 2) := by decide +kernel
theorem dX9_init_94 : decode cX9_init 94 = .ok (.newarray .int, 2) := by decide +kernel
theorem dX9_init_96 : decode cX9_init 96 = .ok (.putfield 47, 3) := by decide +kernel
theorem dX9_init_99 : decode cX9_init 99 = .ok (.aload_n 0, 1) := by decide +kernel
theorem dX9_init_100 : decode cX9_init 100 = .ok (.bipush 25, 2) := by decide +kernel
theorem dX9_init_102 : decode cX9_init 102 = .ok (.newarray .int, 2) := by decide +kernel
theorem dX9_init_104 : decode cX9_init 104 = .ok (.putfield 50, 3) := by decide +kernel
theorem dX9_init_107 : decode cX9_init 107 = .ok (.aload_n 0, 1) := by decide +kernel
theorem dX9_init_108 : decode cX9_init 108 = .ok (.bipush 30, 2) := by decide +kernel
theorem dX9_init_110 : decode cX9_init 110 = .ok (.newarray .long, 2) := by decide +kernel
theorem dX9_init_112 : decode cX9_init 112 = .ok (.putfield 53, 3) := by decide +kernel
theorem dX9_init_115 : decode cX9_init 115 = .ok (.aload_n 0, 1) := by decide +kernel
theorem dX9_init_116 : decode cX9_init 116 = .ok (.iconst 5, 1) := by decide +kernel
theorem dX9_init_117 : decode cX9_init 117 = .ok (.newarray .long, 2) := by decide +kernel
theorem dX9_init_119 : decode cX9_init 119 = .ok (.putfield 57, 3) := by decide +kernel
theorem dX9_init_122 : decode cX9_init 122 = .ok (.aload_n 0, 1) := by decide +kernel
theorem dX9_init_123 : decode cX9_init 123 = .ok (.iconst 5, 1) := by decide +kernel
theorem dX9_init_124 : decode cX9_init 124 = .ok (.newarray .long, 2) := by decide +kernel
theorem dX9_init_126 : decode cX9_init 126 = .ok (.putfield 60, 3) := by decide +kernel
theorem dX9_init_129 : decode cX9_init 129 = .ok (.aload_n 0, 1) := by decide +kernel
theorem dX9_init_130 : decode cX9_init 130 = .ok (.iconst 5, 1) := by decide +kernel
theorem dX9_init_131 : decode cX9_init 131 = .ok (.newarray .long, 2) := by decide +kernel
theorem dX9_init_133 : decode cX9_init 133 = .ok (.putfield 63, 3) := by decide +kernel
theorem dX9_init_136 : decode cX9_init 136 = .ok (.aload_n 0, 1) := by decide +kernel
theorem dX9_init_137 : decode cX9_init 137 = .ok (.iconst 5, 1) := by decide +kernel
theorem dX9_init_138 : decode cX9_init 138 = .ok (.newarray .long, 2) := by decide +kernel
theorem dX9_init_140 : decode cX9_init 140 = .ok (.putfield 66, 3) := by decide +kernel
theorem dX9_init_143 : decode cX9_init 143 = .ok (.aload_n 0, 1) := by decide +kernel
theorem dX9_init_144 : decode cX9_init 144 = .ok (.iconst 5, 1) := by decide +kernel
theorem dX9_init_145 : decode cX9_init 145 = .ok (.newarray .int, 2) := by decide +kernel
theorem dX9_init_147 : decode cX9_init 147 = .ok (.putfield 69, 3) := by decide +kernel
theorem dX9_init_150 : decode cX9_init 150 = .ok (.return_, 1) := by decide +kernel
theorem dX9_in_0 : decode cX9_in 0 = .ok (.iload_n 0, 1) := by decide +kernel
theorem dX9_in_1 : decode cX9_in 1 = .ok (.iload_n 1, 1) := by decide +kernel
theorem dX9_in_2 : decode cX9_in 2 = .ok (.if_icmp .lt 12, 3) := by decide +kernel
theorem dX9_in_5 : decode cX9_in 5 = .ok (.iload_n 0, 1) := by decide +kernel
theorem dX9_in_6 : decode cX9_in 6 = .ok (.iload_n 2, 1) := by decide +kernel
theorem dX9_in_7 : decode cX9_in 7 = .ok (.if_icmp .gt 7, 3) := by decide +kernel
theorem dX9_in_10 : decode cX9_in 10 = .ok (.iconst 1, 1) := by decide +kernel
theorem dX9_in_11 : decode cX9_in 11 = .ok (.goto 4, 3) := by decide +kernel
theorem dX9_in_14 : decode cX9_in 14 = .ok (.iconst 0, 1) := by decide +kernel
theorem dX9_in_15 : decode cX9_in 15 = .ok (.ireturn, 1) := by decide +kernel
theorem dX9_isCard_0 : decode cX9_isCard 0 = .ok (.iload_n 1, 1) := by decide +kernel
theorem dX9_isCard_1 : decode cX9_isCard 1 = .ok (.iconst 0, 1) := by decide +kernel
theorem dX9_isCard_2 : decode cX9_isCard 2 = .ok (.aload_n 0, 1) := by decide +kernel
theorem dX9_isCard_3 : decode cX9_isCard 3 = .ok (.getfield 72, 3) := by decide +kernel
theorem dX9_isCard_6 : decode cX9_isCard 6 = .ok (.iconst 1, 1) := by decide +kernel
theorem dX9_isCard_7 : decode cX9_isCard 7 = .ok (.isub, 1) := by decide +kernel
theorem dX9_isCard_8 : decode cX9_isCard 8 = .ok (.invokestatic 75, 3) := by decide +kernel
theorem dX9_isCard_11 : decode cX9_isCard 11 = .ok (.ireturn, 1) := by decide +kernel
theorem dX9_isDeck_0 : decode cX9_isDeck 0 = .ok (.iload_n 1, 1) := by decide +kernel
theorem dX9_isDeck_1 : decode cX9_isDeck 1 = .ok (.iconst 0, 1) := by decide +kernel
theorem dX9_isDeck_2 : decode cX9_isDeck 2 = .ok (.aload_n 0, 1) := by decide +kernel
theorem dX9_isDeck_3 : decode cX9_isDeck 3 = .ok (.getfield 79, 3) := by decide +kernel
theorem dX9_isDeck_6 : decode cX9_isDeck 6 = .ok (.iconst 1, 1) := by decide +kernel
theorem dX9_isDeck_7 : decode cX9_isDeck 7 = .ok (.isub, 1) := by decide +kernel
theorem dX9_isDeck_8 : decode cX9_isDeck 8 = .ok (.invokestatic 75, 3) := by decide +kernel
theorem dX9_isDeck_11 : decode cX9_isDeck 11 = .ok (.ireturn, 1) := by decide +kernel
theorem dX9_card_0 : decode cX9_card 0 = .ok (.iload_n 1, 1) := by decide +kernel
theorem dX9_card_1 : decode cX9_card 1 = .ok (.iconst 0, 1) := by decide +kernel
theorem dX9_card_2 : decode cX9_card 2 = .ok (.iconst 2, 1) := by decide +kernel
theorem dX9_card_3 : decode cX9_card 3 = .ok (.invokestatic 75, 3) := by decide +kernel
theorem dX9_card_6 : decode cX9_card 6 = .ok (.ifCond .eq 22, 3) := by decide +kernel
theorem dX9_card_9 : decode cX9_card 9 = .ok (.iload_n 2, 1) := by decide +kernel
theorem dX9_card_10 : decode cX9_card 10 = .ok (.iconst 0, 1) := by decide +kernel
theorem dX9_card_11 : decode cX9_card 11 = .ok (.iconst 5, 1) := by decide +kernel
theorem dX9_card_12 : decode cX9_card 12 = .ok (.invokestatic 75, 3) := by decide +kernel
theorem dX9_card_15 : decode cX9_card 15 = .ok (.ifCond .eq 13, 3) := by decide +kernel
theorem dX9_card_18 : decode cX9_card 18 = .ok (.iload_n 3, 1) := by decide +kernel
theorem dX9_card_19 : decode cX9_card 19 = .ok (.iconst 0, 1) := by decide +kernel
theorem dX9_card_20 : decode cX9_card 20 = .ok (.bipush 9, 2) := by decide +kernel
theorem dX9_card_22 : decode cX9_card 22 = .ok (.invokestatic 75, 3) := by decide +kernel
theorem dX9_card_25 : decode cX9_card 25 = .ok (.ifCond .ne 6, 3) := by decide +kernel
theorem dX9_card_28 : decode cX9_card 28 = .ok (.bipush (-2), 2) := by decide +kernel
theorem dX9_card_30 : decode cX9_card 30 = .ok (.ireturn, 1) := by decide +kernel
theorem dX9_card_31 : decode cX9_card 31 = .ok (.aload_n 0, 1) := by decide +kernel
theorem dX9_card_32 : decode cX9_card 32 = .ok (.getfield 72, 3) := by decide +kernel
theorem dX9_card_35 : decode cX9_card 35 = .ok (.bipush 12, 2) := by decide +kernel
theorem dX9_card_37 : decode cX9_card 37 = .ok (.if_icmp .ne 6, 3) := by decide +kernel
theorem dX9_card_40 : decode cX9_card 40 = .ok (.bipush (-4), 2) := by decide +kernel
theorem dX9_card_42 : decode cX9_card 42 = .ok (.ireturn, 1) := by decide +kernel
theorem dX9_card_43 : decode cX9_card 43 = .ok (.aload_n 0, 1) := by decide +kernel
theorem dX9_card_44 : decode cX9_card 44 = .ok (.getfield 7, 3) := by decide +kernel
theorem dX9_card_47 : decode cX9_card 47 = .ok (.aload_n 0, 1) := by decide +kernel
theorem dX9_card_48 : decode cX9_card 48 = .ok (.getfield 72, 3) := by decide +kernel
theorem dX9_card_51 : decode cX9_card 51 = .ok (.iload_n 1, 1) := by decide +kernel
theorem dX9_card_52 : decode cX9_card 52 = .ok (.iastore, 1) := by decide +kernel
theorem dX9_card_53 : decode cX9_card 53 = .ok (.aload_n 0, 1) := by decide +kernel
theorem dX9_card_54 : decode cX9_card 54 = .ok (.getfield 13, 3) := by decide +kernel
theorem dX9_card_57 : decode cX9_card 57 = .ok (.aload_n 0, 1) := by decide +kernel
theorem dX9_card_58 : decode cX9_card 58 = .ok (.getfield 72, 3) := by decide +kernel
theorem dX9_card_61 : decode cX9_card 61 = .ok (.iload_n 2, 1) := by decide +kernel
theorem dX9_card_62 : decode cX9_card 62 = .ok (.iastore, 1) := by decide +kernel
theorem dX9_card_63 : decode cX9_card 63 = .ok (.aload_n 0, 1) := by decide +kernel
theorem dX9_card_64 : decode cX9_card 64 = .ok (.getfield 16, 3) := by decide +kernel
theorem dX9_card_67 : decode cX9_card 67 = .ok (.aload_n 0, 1) := by decide +kernel
theorem dX9_card_68 : decode cX9_card 68 = .ok (.getfield 72, 3) := by decide +kernel
theorem dX9_card_71 : decode cX9_card 71 = .ok (.iload_n 3, 1) := by decide +kernel
theorem dX9_card_72 : decode cX9_card 72 = .ok (.iastore, 1) := by decide +kernel
theorem dX9_card_73 : decode cX9_card 73 = .ok (.aload_n 0, 1) := by decide +kernel
theorem dX9_card_74 : decode cX9_card 74 = .ok (.dup, 1) := by decide +kernel
theorem dX9_card_75 : decode cX9_card 75 = .ok (.getfield 72, 3) := by decide +kernel
theorem dX9_card_78 : decode cX9_card 78 = .ok (.iconst 1, 1) := by decide +kernel
theorem dX9_card_79 : decode cX9_card 79 = .ok (.iadd, 1) := by decide +kernel
theorem dX9_card_80 : decode cX9_card 80 = .ok (.putfield 72, 3) := by decide +kernel
theorem dX9_card_83 : decode cX9_card 83 = .ok (.aload_n 0, 1) := by decide +kernel
theorem dX9_card_84 : decode cX9_card 84 = .ok (.getfield 72, 3) := by decide +kernel
theorem dX9_card_87 : decode cX9_card 87 = .ok (.iconst 1, 1) := by decide +kernel
theorem dX9_card_88 : decode cX9_card 88 = .ok (.isub, 1) := by decide +kernel
theorem dX9_card_89 : decode cX9_card 89 = .ok (.ireturn, 1) := by decide +kernel
theorem dX9_power_0 : decode cX9_power 0 = .ok (.aload_n 0, 1) := by decide +kernel
theorem dX9_power_1 : decode cX9_power 1 = .ok (.iload_n 1, 1) := by decide +kernel
theorem dX9_power_2 : decode cX9_power 2 = .ok (.invokevirtual 82, 3) := by decide +kernel
theorem dX9_power_5 : decode cX9_power 5 = .ok (.ifCond .eq 13, 3) := by decide +kernel
theorem dX9_power_8 : decode cX9_power 8 = .ok (.iload_n 2, 1) := by decide +kernel
theorem dX9_power_9 : decode cX9_power 9 = .ok (.iconst 0, 1) := by decide +kernel
theorem dX9_power_10 : decode cX9_power 10 = .ok (.bipush 9, 2) := by decide +kernel
theorem dX9_power_12 : decode cX9_power 12 = .ok (.invokestatic 75, 3) := by decide +kernel
theorem dX9_power_15 : decode cX9_power 15 = .ok (.ifCond .ne 6, 3) := by decide +kernel
theorem dX9_power_18 : decode cX9_power 18 = .ok (.bipush (-2), 2) := by decide +kernel
theorem dX9_power_20 : decode cX9_power 20 = .ok (.ireturn, 1) := by decide +kernel
theorem dX9_power_21 : decode cX9_power 21 = .ok (.aload_n 0, 1) := by decide +kernel
theorem dX9_power_22 : decode cX9_power 22 = .ok (.getfield 16, 3) := by decide +kernel
theorem dX9_power_25 : decode cX9_power 25 = .ok (.iload_n 1, 1) := by decide +kernel
theorem dX9_power_26 : decode cX9_power 26 = .ok (.iaload, 1) := by decide +kernel
theorem dX9_power_27 : decode cX9_power 27 = .ok (.istore_n 3, 1) := by decide +kernel
theorem dX9_power_28 : decode cX9_power 28 = .ok (.aload_n 0, 1) := by decide +kernel
theorem dX9_power_29 : decode cX9_power 29 = .ok (.getfield 16, 3) := by decide +kernel
theorem dX9_power_32 : decode cX9_power 32 = .ok (.iload_n 1, 1) := by decide +kernel
theorem dX9_power_33 : decode cX9_power 33 = .ok (.iload_n 2, 1) := by decide +kernel
theorem dX9_power_34 : decode cX9_power 34 = .ok (.iastore, 1) := by decide +kernel
theorem dX9_power_35 : decode cX9_power 35 = .ok (.iload_n 3, 1) := by decide +kernel
theorem dX9_power_36 : decode cX9_power 36 = .ok (.ireturn, 1) := by decide +kernel
theorem dX9_deck_0 : decode cX9_deck 0 = .ok (.aload_n 0, 1) := by decide +kernel
theorem dX9_deck_1 : decode cX9_deck 1 = .ok (.getfield 79, 3) := by decide +kernel
theorem dX9_deck_4 : decode cX9_deck 4 = .ok (.iconst 5, 1) := by decide +kernel
theorem dX9_deck_5 : decode cX9_deck 5 = .ok (.if_icmp .ne 6, 3) := by decide +kernel
theorem dX9_deck_8 : decode cX9_deck 8 = .ok (.bipush (-4), 2) := by decide +kernel
theorem dX9_deck_10 : decode cX9_deck 10 = .ok (.ireturn, 1) := by decide +kernel
theorem dX9_deck_11 : decode cX9_deck 11 = .ok (.aload_n 0, 1) := by decide +kernel
theorem dX9_deck_12 : decode cX9_deck 12 = .ok (.dup, 1) := by decide +kernel
theorem dX9_deck_13 : decode cX9_deck 13 = .ok (.getfield 79, 3) := by decide +kernel
theorem dX9_deck_16 : decode cX9_deck 16 = .ok (.iconst 1, 1) := by decide +kernel
theorem dX9_deck_17 : decode cX9_deck 17 = .ok (.iadd, 1) := by decide +kernel
theorem dX9_deck_18 : decode cX9_deck 18 = .ok (.putfield 79, 3) := by decide +kernel
theorem dX9_deck_21 : decode cX9_deck 21 = .ok (.aload_n 0, 1) := by decide +kernel
theorem dX9_deck_22 : decode cX9_deck 22 = .ok (.getfield 79, 3) := by decide +kernel
theorem dX9_deck_25 : decode cX9_deck 25 = .ok (.iconst 1, 1) := by decide +kernel
theorem dX9_deck_26 : decode cX9_deck 26 = .ok (.isub, 1) := by decide +kernel
theorem dX9_deck_27 : decode cX9_deck 27 = .ok (.ireturn, 1) := by decide +kernel
theorem dX9_add_0 : decode cX9_add 0 = .ok (.aload_n 0, 1) := by decide +kernel
theorem dX9_add_1 : decode cX9_add 1 = .ok (.iload_n 1, 1) := by decide +kernel
theorem dX9_add_2 : decode cX9_add 2 = .ok (.invokevirtual 86, 3) := by decide +kernel
theorem dX9_add_5 : decode cX9_add 5 = .ok (.ifCond .eq 11, 3) := by decide +kernel
theorem dX9_add_8 : decode cX9_add 8 = .ok (.aload_n 0, 1) := by decide +kernel
theorem dX9_add_9 : decode cX9_add 9 = .ok (.iload_n 2, 1) := by decide +kernel
theorem dX9_add_10 : decode cX9_add 10 = .ok (.invokevirtual 82, 3) := by decide +kernel
theorem dX9_add_13 : decode cX9_add 13 = .ok (.ifCond .ne 6, 3) := by decide +kernel
theorem dX9_add_16 : decode cX9_add 16 = .ok (.bipush (-2), 2) := by decide +kernel
theorem dX9_add_18 : decode cX9_add 18 = .ok (.ireturn, 1) := by decide +kernel
theorem dX9_add_19 : decode cX9_add 19 = .ok (.aload_n 0, 1) := by decide +kernel
theorem dX9_add_20 : decode cX9_add 20 = .ok (.getfield 19, 3) := by decide +kernel
theorem dX9_add_23 : decode cX9_add 23 = .ok (.iload_n 1, 1) := by decide +kernel
theorem dX9_add_24 : decode cX9_add 24 = .ok (.iaload, 1) := by decide +kernel
theorem dX9_add_25 : decode cX9_add 25 = .ok (.bipush 10, 2) := by decide +kernel
theorem dX9_add_27 : decode cX9_add 27 = .ok (.if_icmp .ne 6, 3) := by decide +kernel
theorem dX9_add_30 : decode cX9_add 30 = .ok (.bipush (-4), 2) := by decide +kernel
theorem dX9_add_32 : decode cX9_add 32 = .ok (.ireturn, 1) := by decide +kernel
theorem dX9_add_33 : decode cX9_add 33 = .ok (.aload_n 0, 1) := by decide +kernel
theorem dX9_add_34 : decode cX9_add 34 = .ok (.getfield 22, 3) := by decide +kernel
theorem dX9_add_37 : decode cX9_add 37 = .ok (.bipush 10, 2) := by decide +kernel
theorem dX9_add_39 : decode cX9_add 39 = .ok (.iload_n 1, 1) := by decide +kernel
theorem dX9_add_40 : decode cX9_add 40 = .ok (.imul, 1) := by decide +kernel
theorem dX9_add_41 : decode cX9_add 41 = .ok (.aload_n 0, 1) := by decide +kernel
theorem dX9_add_42 : decode cX9_add 42 = .ok (.getfield 19, 3) := by decide +kernel
theorem dX9_add_45 : decode cX9_add 45 = .ok (.iload_n 1, 1) := by decide +kernel
theorem dX9_add_46 : decode cX9_add 46 = .ok (.iaload, 1) := by decide +kernel
theorem dX9_add_47 : decode cX9_add 47 = .ok (.iadd, 1) := by decide +kernel
theorem dX9_add_48 : decode cX9_add 48 = .ok (.iload_n 2, 1) := by decide +kernel
theorem dX9_add_49 : decode cX9_add 49 = .ok (.iastore, 1) := by decide +kernel
theorem dX9_add_50 : decode cX9_add 50 = .ok (.aload_n 0, 1) := by decide +kernel
theorem dX9_add_51 : decode cX9_add 51 = .ok (.getfield 19, 3) := by decide +kernel
theorem dX9_add_54 : decode cX9_add 54 = .ok (.iload_n 1, 1) := by decide +kernel
theorem dX9_add_55 : decode cX9_add 55 = .ok (.dup2, 1) := by decide +kernel
theorem dX9_add_56 : decode cX9_add 56 = .ok (.iaload, 1) := by decide +kernel
theorem dX9_add_57 : decode cX9_add 57 = .ok (.iconst 1, 1) := by decide +kernel
theorem dX9_add_58 : decode cX9_add 58 = .ok (.iadd, 1) := by decide +kernel
theorem dX9_add_59 : decode cX9_add 59 = .ok (.iastore, 1) := by decide +kernel
theorem dX9_add_60 : decode cX9_add 60 = .ok (.aload_n 0, 1) := by decide +kernel
theorem dX9_add_61 : decode cX9_add 61 = .ok (.getfield 19, 3) := by decide +kernel
theorem dX9_add_64 : decode cX9_add 64 = .ok (.iload_n 1, 1) := by decide +kernel
theorem dX9_add_65 : decode cX9_add 65 = .ok (.iaload, 1) := by decide +kernel
theorem dX9_add_66 : decode cX9_add 66 = .ok (.ireturn, 1) := by decide +kernel
theorem dX9_isPlace_0 : decode cX9_isPlace 0 = .ok (.aload_n 0, 1) := by decide +kernel
theorem dX9_isPlace_1 : decode cX9_isPlace 1 = .ok (.iload_n 1, 1) := by decide +kernel
theorem dX9_isPlace_2 : decode cX9_isPlace 2 = .ok (.invokevirtual 86, 3) := by decide +kernel
theorem dX9_isPlace_5 : decode cX9_isPlace 5 = .ok (.ifCond .eq 23, 3) := by decide +kernel
theorem dX9_isPlace_8 : decode cX9_isPlace 8 = .ok (.iload_n 2, 1) := by decide +kernel
theorem dX9_isPlace_9 : decode cX9_isPlace 9 = .ok (.iconst 0, 1) := by decide +kernel
theorem dX9_isPlace_10 : decode cX9_isPlace 10 = .ok (.aload_n 0, 1) := by decide +kernel
theorem dX9_isPlace_11 : decode cX9_isPlace 11 = .ok (.getfield 19, 3) := by decide +kernel
theorem dX9_isPlace_14 : decode cX9_isPlace 14 = .ok (.iload_n 1, 1) := by decide +kernel
theorem dX9_isPlace_15 : decode cX9_isPlace 15 = .ok (.iaload, 1) := by decide +kernel
theorem dX9_isPlace_16 : decode cX9_isPlace 16 = .ok (.iconst 1, 1) := by decide +kernel
theorem dX9_isPlace_17 : decode cX9_isPlace 17 = .ok (.isub, 1) := by decide +kernel
theorem dX9_isPlace_18 : decode cX9_isPlace 18 = .ok (.invokestatic 75, 3) := by decide +kernel
theorem dX9_isPlace_21 : decode cX9_isPlace 21 = .ok (.ifCond .eq 7, 3) := by decide +kernel
theorem dX9_isPlace_24 : decode cX9_isPlace 24 = .ok (.iconst 1, 1) := by decide +kernel
theorem dX9_isPlace_25 : decode cX9_isPlace 25 = .ok (.goto 4, 3) := by decide +kernel
theorem dX9_isPlace_28 : decode cX9_isPlace 28 = .ok (.iconst 0, 1) := by decide +kernel
theorem dX9_isPlace_29 : decode cX9_isPlace 29 = .ok (.ireturn, 1) := by decide +kernel
theorem dX9_dropAt_0 : decode cX9_dropAt 0 = .ok (.aload_n 0, 1) := by decide +kernel
theorem dX9_dropAt_1 : decode cX9_dropAt 1 = .ok (.getfield 19, 3) := by decide +kernel
theorem dX9_dropAt_4 : decode cX9_dropAt 4 = .ok (.iload_n 1, 1) := by decide +kernel
theorem dX9_dropAt_5 : decode cX9_dropAt 5 = .ok (.dup2, 1) := by decide +kernel
theorem dX9_dropAt_6 : decode cX9_dropAt 6 = .ok (.iaload, 1) := by decide +kernel
theorem dX9_dropAt_7 : decode cX9_dropAt 7 = .ok (.iconst 1, 1) := by decide +kernel
theorem dX9_dropAt_8 : decode cX9_dropAt 8 = .ok (.isub, 1) := by decide +kernel
theorem dX9_dropAt_9 : decode cX9_dropAt 9 = .ok (.iastore, 1) := by decide +kernel
theorem dX9_dropAt_10 : decode cX9_dropAt 10 = .ok (.iload_n 2, 1) := by decide +kernel
theorem dX9_dropAt_11 : decode cX9_dropAt 11 = .ok (.istore_n 3, 1) := by decide +kernel
theorem dX9_dropAt_12 : decode cX9_dropAt 12 = .ok (.iload_n 3, 1) := by decide +kernel
theorem dX9_dropAt_13 : decode cX9_dropAt 13 = .ok (.aload_n 0, 1) := by decide +kernel
theorem dX9_dropAt_14 : decode cX9_dropAt 14 = .ok (.getfield 19, 3) := by decide +kernel
theorem dX9_dropAt_17 : decode cX9_dropAt 17 = .ok (.iload_n 1, 1) := by decide +kernel
theorem dX9_dropAt_18 : decode cX9_dropAt 18 = .ok (.iaload, 1) := by decide +kernel
theorem dX9_dropAt_19 : decode cX9_dropAt 19 = .ok (.if_icmp .ge 33, 3) := by decide +kernel
theorem dX9_dropAt_22 : decode cX9_dropAt 22 = .ok (.aload_n 0, 1) := by decide +kernel
theorem dX9_dropAt_23 : decode cX9_dropAt 23 = .ok (.getfield 22, 3) := by decide +kernel
theorem dX9_dropAt_26 : decode cX9_dropAt 26 = .ok (.bipush 10, 2) := by decide +kernel
theorem dX9_dropAt_28 : decode cX9_dropAt 28 = .ok (.iload_n 1, 1) := by decide +kernel
theorem dX9_dropAt_29 : decode cX9_dropAt 29 = .ok (.imul, 1) := by decide +kernel
theorem dX9_dropAt_30 : decode cX9_dropAt 30 = .ok (.iload_n 3, 1) := by decide +kernel
theorem dX9_dropAt_31 : decode cX9_dropAt 31 = .ok (.iadd, 1) := by decide +kernel
theorem dX9_dropAt_32 : decode cX9_dropAt 32 = .ok (.aload_n 0, 1) := by decide +kernel
theorem dX9_dropAt_33 : decode cX9_dropAt 33 = .ok (.getfield 22, 3) := by decide +kernel
theorem dX9_dropAt_36 : decode cX9_dropAt 36 = .ok (.bipush 10, 2) := by decide +kernel
theorem dX9_dropAt_38 : decode cX9_dropAt 38 = .ok (.iload_n 1, 1) := by decide +kernel
theorem dX9_dropAt_39 : decode cX9_dropAt 39 = .ok (.imul, 1) := by decide +kernel
theorem dX9_dropAt_40 : decode cX9_dropAt 40 = .ok (.iload_n 3, 1) := by decide +kernel
theorem dX9_dropAt_41 : decode cX9_dropAt 41 = .ok (.iadd, 1) := by decide +kernel
theorem dX9_dropAt_42 : decode cX9_dropAt 42 = .ok (.iconst 1, 1) := by decide +kernel
theorem dX9_dropAt_43 : decode cX9_dropAt 43 = .ok (.iadd, 1) := by decide +kernel
theorem dX9_dropAt_44 : decode cX9_dropAt 44 = .ok (.iaload, 1) := by decide +kernel
theorem dX9_dropAt_45 : decode cX9_dropAt 45 = .ok (.iastore, 1) := by decide +kernel
theorem dX9_dropAt_46 : decode cX9_dropAt 46 = .ok (.iinc 3 1, 3) := by decide +kernel
theorem dX9_dropAt_49 : decode cX9_dropAt 49 = .ok (.goto (-37), 3) := by decide +kernel
theorem dX9_dropAt_52 : decode cX9_dropAt 52 = .ok (.return_, 1) := by decide +kernel
theorem dX9_drop_0 : decode cX9_drop 0 = .ok (.aload_n 0, 1) := by decide +kernel
theorem dX9_drop_1 : decode cX9_drop 1 = .ok (.iload_n 1, 1) := by decide +kernel
theorem dX9_drop_2 : decode cX9_drop 2 = .ok (.iload_n 2, 1) := by decide +kernel
theorem dX9_drop_3 : decode cX9_drop 3 = .ok (.invokevirtual 89, 3) := by decide +kernel
theorem dX9_drop_6 : decode cX9_drop 6 = .ok (.ifCond .ne 6, 3) := by decide +kernel
theorem dX9_drop_9 : decode cX9_drop 9 = .ok (.bipush (-2), 2) := by decide +kernel
theorem dX9_drop_11 : decode cX9_drop 11 = .ok (.ireturn, 1) := by decide +kernel
theorem dX9_drop_12 : decode cX9_drop 12 = .ok (.aload_n 0, 1) := by decide +kernel
theorem dX9_drop_13 : decode cX9_drop 13 = .ok (.getfield 22, 3) := by decide +kernel
theorem dX9_drop_16 : decode cX9_drop 16 = .ok (.bipush 10, 2) := by decide +kernel
theorem dX9_drop_18 : decode cX9_drop 18 = .ok (.iload_n 1, 1) := by decide +kernel
theorem dX9_drop_19 : decode cX9_drop 19 = .ok (.imul, 1) := by decide +kernel
theorem dX9_drop_20 : decode cX9_drop 20 = .ok (.iload_n 2, 1) := by decide +kernel
theorem dX9_drop_21 : decode cX9_drop 21 = .ok (.iadd, 1) := by decide +kernel
theorem dX9_drop_22 : decode cX9_drop 22 = .ok (.iaload, 1) := by decide +kernel
theorem dX9_drop_23 : decode cX9_drop 23 = .ok (.istore_n 3, 1) := by decide +kernel
theorem dX9_drop_24 : decode cX9_drop 24 = .ok (.aload_n 0, 1) := by decide +kernel
theorem dX9_drop_25 : decode cX9_drop 25 = .ok (.iload_n 1, 1) := by decide +kernel
theorem dX9_drop_26 : decode cX9_drop 26 = .ok (.iload_n 2, 1) := by decide +kernel
theorem dX9_drop_27 : decode cX9_drop 27 = .ok (.invokevirtual 93, 3) := by decide +kernel
theorem dX9_drop_30 : decode cX9_drop 30 = .ok (.iload_n 3, 1) := by decide +kernel
theorem dX9_drop_31 : decode cX9_drop 31 = .ok (.ireturn, 1) := by decide +kernel
theorem dX9_swap_0 : decode cX9_swap 0 = .ok (.aload_n 0, 1) := by decide +kernel
theorem dX9_swap_1 : decode cX9_swap 1 = .ok (.iload_n 1, 1) := by decide +kernel
theorem dX9_swap_2 : decode cX9_swap 2 = .ok (.iload_n 2, 1) := by decide +kernel
theorem dX9_swap_3 : decode cX9_swap 3 = .ok (.invokevirtual 89, 3) := by decide +kernel
theorem dX9_swap_6 : decode cX9_swap 6 = .ok (.ifCond .eq 12, 3) := by decide +kernel
theorem dX9_swap_9 : decode cX9_swap 9 = .ok (.aload_n 0, 1) := by decide +kernel
theorem dX9_swap_10 : decode cX9_swap 10 = .ok (.iload_n 1, 1) := by decide +kernel
theorem dX9_swap_11 : decode cX9_swap 11 = .ok (.iload_n 3, 1) := by decide +kernel
theorem dX9_swap_12 : decode cX9_swap 12 = .ok (.invokevirtual 89, 3) := by decide +kernel
theorem dX9_swap_15 : decode cX9_swap 15 = .ok (.ifCond .ne 6, 3) := by decide +kernel
theorem dX9_swap_18 : decode cX9_swap 18 = .ok (.bipush (-2), 2) := by decide +kernel
theorem dX9_swap_20 : decode cX9_swap 20 = .ok (.ireturn, 1) := by decide +kernel
theorem dX9_swap_21 : decode cX9_swap 21 = .ok (.aload_n 0, 1) := by decide +kernel
theorem dX9_swap_22 : decode cX9_swap 22 = .ok (.getfield 22, 3) := by decide +kernel
theorem dX9_swap_25 : decode cX9_swap 25 = .ok (.bipush 10, 2) := by decide +kernel
theorem dX9_swap_27 : decode cX9_swap 27 = .ok (.iload_n 1, 1) := by decide +kernel
theorem dX9_swap_28 : decode cX9_swap 28 = .ok (.imul, 1) := by decide +kernel
theorem dX9_swap_29 : decode cX9_swap 29 = .ok (.iload_n 2, 1) := by decide +kernel
theorem dX9_swap_30 : decode cX9_swap 30 = .ok (.iadd, 1) := by decide +kernel
theorem dX9_swap_31 : decode cX9_swap 31 = .ok (.iaload, 1) := by decide +kernel
theorem dX9_swap_32 : decode cX9_swap 32 = .ok (.istore 4, 2) := by decide +kernel
theorem dX9_swap_34 : decode cX9_swap 34 = .ok (.aload_n 0, 1) := by decide +kernel
theorem dX9_swap_35 : decode cX9_swap 35 = .ok (.getfield 22, 3) := by decide +kernel
theorem dX9_swap_38 : decode cX9_swap 38 = .ok (.bipush 10, 2) := by decide +kernel
theorem dX9_swap_40 : decode cX9_swap 40 = .ok (.iload_n 1, 1) := by decide +kernel
theorem dX9_swap_41 : decode cX9_swap 41 = .ok (.imul, 1) := by decide +kernel
theorem dX9_swap_42 : decode cX9_swap 42 = .ok (.iload_n 2, 1) := by decide +kernel
theorem dX9_swap_43 : decode cX9_swap 43 = .ok (.iadd, 1) := by decide +kernel
theorem dX9_swap_44 : decode cX9_swap 44 = .ok (.aload_n 0, 1) := by decide +kernel
theorem dX9_swap_45 : decode cX9_swap 45 = .ok (.getfield 22, 3) := by decide +kernel
theorem dX9_swap_48 : decode cX9_swap 48 = .ok (.bipush 10, 2) := by decide +kernel
theorem dX9_swap_50 : decode cX9_swap 50 = .ok (.iload_n 1, 1) := by decide +kernel
theorem dX9_swap_51 : decode cX9_swap 51 = .ok (.imul, 1) := by decide +kernel
theorem dX9_swap_52 : decode cX9_swap 52 = .ok (.iload_n 3, 1) := by decide +kernel
theorem dX9_swap_53 : decode cX9_swap 53 = .ok (.iadd, 1) := by decide +kernel
theorem dX9_swap_54 : decode cX9_swap 54 = .ok (.iaload, 1) := by decide +kernel
theorem dX9_swap_55 : decode cX9_swap 55 = .ok (.iastore, 1) := by decide +kernel
theorem dX9_swap_56 : decode cX9_swap 56 = .ok (.aload_n 0, 1) := by decide +kernel
theorem dX9_swap_57 : decode cX9_swap 57 = .ok (.getfield 22, 3) := by decide +kernel
theorem dX9_swap_60 : decode cX9_swap 60 = .ok (.bipush 10, 2) := by decide +kernel
theorem dX9_swap_62 : decode cX9_swap 62 = .ok (.iload_n 1, 1) := by decide +kernel
theorem dX9_swap_63 : decode cX9_swap 63 = .ok (.imul, 1) := by decide +kernel
theorem dX9_swap_64 : decode cX9_swap 64 = .ok (.iload_n 3, 1) := by decide +kernel
theorem dX9_swap_65 : decode cX9_swap 65 = .ok (.iadd, 1) := by decide +kernel
theorem dX9_swap_66 : decode cX9_swap 66 = .ok (.iload 4, 2) := by decide +kernel
theorem dX9_swap_68 : decode cX9_swap 68 = .ok (.iastore, 1) := by decide +kernel
theorem dX9_swap_69 : decode cX9_swap 69 = .ok (.iconst 1, 1) := by decide +kernel
theorem dX9_swap_70 : decode cX9_swap 70 = .ok (.ireturn, 1) := by decide +kernel
theorem dX9_at_0 : decode cX9_at 0 = .ok (.aload_n 0, 1) := by decide +kernel
theorem dX9_at_1 : decode cX9_at 1 = .ok (.iload_n 1, 1) := by decide +kernel
theorem dX9_at_2 : decode cX9_at 2 = .ok (.invokevirtual 86, 3) := by decide +kernel
theorem dX9_at_5 : decode cX9_at 5 = .ok (.ifCond .eq 7, 3) := by decide +kernel
theorem dX9_at_8 : decode cX9_at 8 = .ok (.iload_n 2, 1) := by decide +kernel
theorem dX9_at_9 : decode cX9_at 9 = .ok (.ifCond .ge 6, 3) := by decide +kernel
theorem dX9_at_12 : decode cX9_at 12 = .ok (.bipush (-2), 2) := by decide +kernel
theorem dX9_at_14 : decode cX9_at 14 = .ok (.ireturn, 1) := by decide +kernel
theorem dX9_at_15 : decode cX9_at 15 = .ok (.iload_n 2, 1) := by decide +kernel
theorem dX9_at_16 : decode cX9_at 16 = .ok (.aload_n 0, 1) := by decide +kernel
theorem dX9_at_17 : decode cX9_at 17 = .ok (.getfield 19, 3) := by decide +kernel
theorem dX9_at_20 : decode cX9_at 20 = .ok (.iload_n 1, 1) := by decide +kernel
theorem dX9_at_21 : decode cX9_at 21 = .ok (.iaload, 1) := by decide +kernel
theorem dX9_at_22 : decode cX9_at 22 = .ok (.if_icmp .ge 17, 3) := by decide +kernel
theorem dX9_at_25 : decode cX9_at 25 = .ok (.aload_n 0, 1) := by decide +kernel
theorem dX9_at_26 : decode cX9_at 26 = .ok (.getfield 22, 3) := by decide +kernel
theorem dX9_at_29 : decode cX9_at 29 = .ok (.bipush 10, 2) := by decide +kernel
theorem dX9_at_31 : decode cX9_at 31 = .ok (.iload_n 1, 1) := by decide +kernel
theorem dX9_at_32 : decode cX9_at 32 = .ok (.imul, 1) := by decide +kernel
theorem dX9_at_33 : decode cX9_at 33 = .ok (.iload_n 2, 1) := by decide +kernel
theorem dX9_at_34 : decode cX9_at 34 = .ok (.iadd, 1) := by decide +kernel
theorem dX9_at_35 : decode cX9_at 35 = .ok (.iaload, 1) := by decide +kernel
theorem dX9_at_36 : decode cX9_at 36 = .ok (.goto 4, 3) := by decide +kernel
theorem dX9_at_39 : decode cX9_at 39 = .ok (.iconst (-1), 1) := by decide +kernel
theorem dX9_at_40 : decode cX9_at 40 = .ok (.ireturn, 1) := by decide +kernel
theorem dX9_life_0 : decode cX9_life 0 = .ok (.iload_n 1, 1) := by decide +kernel
theorem dX9_life_1 : decode cX9_life 1 = .ok (.iconst 5, 1) := by decide +kernel
theorem dX9_life_2 : decode cX9_life 2 = .ok (.bipush 40, 2) := by decide +kernel
theorem dX9_life_4 : decode cX9_life 4 = .ok (.invokestatic 75, 3) := by decide +kernel
theorem dX9_life_7 : decode cX9_life 7 = .ok (.ifCond .ne 6, 3) := by decide +kernel
theorem dX9_life_10 : decode cX9_life 10 = .ok (.bipush (-2), 2) := by decide +kernel
theorem dX9_life_12 : decode cX9_life 12 = .ok (.ireturn, 1) := by decide +kernel
theorem dX9_life_13 : decode cX9_life 13 = .ok (.aload_n 0, 1) := by decide +kernel
theorem dX9_life_14 : decode cX9_life 14 = .ok (.getfield 25, 3) := by decide +kernel
theorem dX9_life_17 : decode cX9_life 17 = .ok (.istore_n 2, 1) := by decide +kernel
theorem dX9_life_18 : decode cX9_life 18 = .ok (.aload_n 0, 1) := by decide +kernel
theorem dX9_life_19 : decode cX9_life 19 = .ok (.iload_n 1, 1) := by decide +kernel
theorem dX9_life_20 : decode cX9_life 20 = .ok (.putfield 25, 3) := by decide +kernel
theorem dX9_life_23 : decode cX9_life 23 = .ok (.iload_n 2, 1) := by decide +kernel
theorem dX9_life_24 : decode cX9_life 24 = .ok (.ireturn, 1) := by decide +kernel
theorem dX9_isOver_0 : decode cX9_isOver 0 = .ok (.aload_n 0, 1) := by decide +kernel
theorem dX9_isOver_1 : decode cX9_isOver 1 = .ok (.getfield 32, 3) := by decide +kernel
theorem dX9_isOver_4 : decode cX9_isOver 4 = .ok (.iconst 0, 1) := by decide +kernel
theorem dX9_isOver_5 : decode cX9_isOver 5 = .ok (.iaload, 1) := by decide +kernel
theorem dX9_isOver_6 : decode cX9_isOver 6 = .ok (.ifCond .le 12, 3) := by decide +kernel
theorem dX9_isOver_9 : decode cX9_isOver 9 = .ok (.aload_n 0, 1) := by decide +kernel
theorem dX9_isOver_10 : decode cX9_isOver 10 = .ok (.getfield 32, 3) := by decide +kernel
theorem dX9_isOver_13 : decode cX9_isOver 13 = .ok (.iconst 1, 1) := by decide +kernel
theorem dX9_isOver_14 : decode cX9_isOver 14 = .ok (.iaload, 1) := by decide +kernel
theorem dX9_isOver_15 : decode cX9_isOver 15 = .ok (.ifCond .gt 7, 3) := by decide +kernel
theorem dX9_isOver_18 : decode cX9_isOver 18 = .ok (.iconst 1, 1) := by decide +kernel
theorem dX9_isOver_19 : decode cX9_isOver 19 = .ok (.goto 4, 3) := by decide +kernel
theorem dX9_isOver_22 : decode cX9_isOver 22 = .ok (.iconst 0, 1) := by decide +kernel
theorem dX9_isOver_23 : decode cX9_isOver 23 = .ok (.ireturn, 1) := by decide +kernel
theorem dX9_nextCard_0 : decode cX9_nextCard 0 = .ok (.iconst (-1), 1) := by decide +kernel
theorem dX9_nextCard_1 : decode cX9_nextCard 1 = .ok (.istore_n 3, 1) := by decide +kernel
theorem dX9_nextCard_2 : decode cX9_nextCard 2 = .ok (.iconst 0, 1) := by decide +kernel
theorem dX9_nextCard_3 : decode cX9_nextCard 3 = .ok (.istore 4, 2) := by decide +kernel
theorem dX9_nextCard_5 : decode cX9_nextCard 5 = .ok (.iload 4, 2) := by decide +kernel
theorem dX9_nextCard_7 : decode cX9_nextCard 7 = .ok (.aload_n 0, 1) := by decide +kernel
theorem dX9_nextCard_8 : decode cX9_nextCard 8 = .ok (.getfield 72, 3) := by decide +kernel
theorem dX9_nextCard_11 : decode cX9_nextCard 11 = .ok (.if_icmp .ge 107, 3) := by decide +kernel
theorem dX9_nextCard_14 : decode cX9_nextCard 14 = .ok (.aload_n 0, 1) := by decide +kernel
theorem dX9_nextCard_15 : decode cX9_nextCard 15 = .ok (.getfield 47, 3) := by decide +kernel
theorem dX9_nextCard_18 : decode cX9_nextCard 18 = .ok (.bipush 12, 2) := by decide +kernel
theorem dX9_nextCard_20 : decode cX9_nextCard 20 = .ok (.iload_n 1, 1) := by decide +kernel
theorem dX9_nextCard_21 : decode cX9_nextCard 21 = .ok (.imul, 1) := by decide +kernel
theorem dX9_nextCard_22 : decode cX9_nextCard 22 = .ok (.iload 4, 2) := by decide +kernel
theorem dX9_nextCard_24 : decode cX9_nextCard 24 = .ok (.iadd, 1) := by decide +kernel
theorem dX9_nextCard_25 : decode cX9_nextCard 25 = .ok (.iaload, 1) := by decide +kernel
theorem dX9_nextCard_26 : decode cX9_nextCard 26 = .ok (.ifCond .le 86, 3) := by decide +kernel
theorem dX9_nextCard_29 : decode cX9_nextCard 29 = .ok (.aload_n 0, 1) := by decide +kernel
theorem dX9_nextCard_30 : decode cX9_nextCard 30 = .ok (.getfield 13, 3) := by decide +kernel
theorem dX9_nextCard_33 : decode cX9_nextCard 33 = .ok (.iload 4, 2) := by decide +kernel
theorem dX9_nextCard_35 : decode cX9_nextCard 35 = .ok (.iaload, 1) := by decide +kernel
theorem dX9_nextCard_36 : decode cX9_nextCard 36 = .ok (.iload_n 2, 1) := by decide +kernel
theorem dX9_nextCard_37 : decode cX9_nextCard 37 = .ok (.if_icmp .gt 75, 3) := by decide +kernel
theorem dX9_nextCard_40 : decode cX9_nextCard 40 = .ok (.iload_n 3, 1) := by decide +kernel
theorem dX9_nextCard_41 : decode cX9_nextCard 41 = .ok (.iconst (-1), 1) := by decide +kernel
theorem dX9_nextCard_42 : decode cX9_nextCard 42 = .ok (.if_icmp .eq 51, 3) := by decide +kernel
theorem dX9_nextCard_45 : decode cX9_nextCard 45 = .ok (.aload_n 0, 1) := by decide +kernel
theorem dX9_nextCard_46 : decode cX9_nextCard 46 = .ok (.getfield 13, 3) := by decide +kernel
theorem dX9_nextCard_49 : decode cX9_nextCard 49 = .ok (.iload 4, 2) := by decide +kernel
theorem dX9_nextCard_51 : decode cX9_nextCard 51 = .ok (.iaload, 1) := by decide +kernel
theorem dX9_nextCard_52 : decode cX9_nextCard 52 = .ok (.aload_n 0, 1) := by decide +kernel
theorem dX9_nextCard_53 : decode cX9_nextCard 53 = .ok (.getfield 13, 3) := by decide +kernel
theorem dX9_nextCard_56 : decode cX9_nextCard 56 = .ok (.iload_n 3, 1) := by decide +kernel
theorem dX9_nextCard_57 : decode cX9_nextCard 57 = .ok (.iaload, 1) := by decide +kernel
theorem dX9_nextCard_58 : decode cX9_nextCard 58 = .ok (.if_icmp .gt 35, 3) := by decide +kernel
theorem dX9_nextCard_61 : decode cX9_nextCard 61 = .ok (.aload_n 0, 1) := by decide +kernel
theorem dX9_nextCard_62 : decode cX9_nextCard 62 = .ok (.getfield 13, 3) := by decide +kernel
theorem dX9_nextCard_65 : decode cX9_nextCard 65 = .ok (.iload 4, 2) := by decide +kernel
theorem dX9_nextCard_67 : decode cX9_nextCard 67 = .ok (.iaload, 1) := by decide +kernel
theorem dX9_nextCard_68 : decode cX9_nextCard 68 = .ok (.aload_n 0, 1) := by decide +kernel
theorem dX9_nextCard_69 : decode cX9_nextCard 69 = .ok (.getfield 13, 3) := by decide +kernel
theorem dX9_nextCard_72 : decode cX9_nextCard 72 = .ok (.iload_n 3, 1) := by decide +kernel
theorem dX9_nextCard_73 : decode cX9_nextCard 73 = .ok (.iaload, 1) := by decide +kernel
theorem dX9_nextCard_74 : decode cX9_nextCard 74 = .ok (.if_icmp .ne 23, 3) := by decide +kernel
theorem dX9_nextCard_77 : decode cX9_nextCard 77 = .ok (.aload_n 0, 1) := by decide +kernel
theorem dX9_nextCard_78 : decode cX9_nextCard 78 = .ok (.getfield 16, 3) := by decide +kernel
theorem dX9_nextCard_81 : decode cX9_nextCard 81 = .ok (.iload 4, 2) := by decide +kernel
theorem dX9_nextCard_83 : decode cX9_nextCard 83 = .ok (.iaload, 1) := by decide +kernel
theorem dX9_nextCard_84 : decode cX9_nextCard 84 = .ok (.aload_n 0, 1) := by decide +kernel
theorem dX9_nextCard_85 : decode cX9_nextCard 85 = .ok (.getfield 16, 3) := by decide +kernel
theorem dX9_nextCard_88 : decode cX9_nextCard 88 = .ok (.iload_n 3, 1) := by decide +kernel
theorem dX9_nextCard_89 : decode cX9_nextCard 89 = .ok (.iaload, 1) := by decide +kernel
theorem dX9_nextCard_90 : decode cX9_nextCard 90 = .ok (.if_icmp .le 7, 3) := by decide +kernel
theorem dX9_nextCard_93 : decode cX9_nextCard 93 = .ok (.iconst 1, 1) := by decide +kernel
theorem dX9_nextCard_94 : decode cX9_nextCard 94 = .ok (.goto 4, 3) := by decide +kernel
theorem dX9_nextCard_97 : decode cX9_nextCard 97 = .ok (.iconst 0, 1) := by decide +kernel
theorem dX9_nextCard_98 : decode cX9_nextCard 98 = .ok (.istore 5, 2) := by decide +kernel
theorem dX9_nextCard_100 : decode cX9_nextCard 100 = .ok (.iload 5, 2) := by decide +kernel
theorem dX9_nextCard_102 : decode cX9_nextCard 102 = .ok (.ifCond .eq 8, 3) := by decide +kernel
theorem dX9_nextCard_105 : decode cX9_nextCard 105 = .ok (.iload 4, 2) := by decide +kernel
theorem dX9_nextCard_107 : decode cX9_nextCard 107 = .ok (.goto 4, 3) := by decide +kernel
theorem dX9_nextCard_110 : decode cX9_nextCard 110 = .ok (.iload_n 3, 1) := by decide +kernel
theorem dX9_nextCard_111 : decode cX9_nextCard 111 = .ok (.istore_n 3, 1) := by decide +kernel
theorem dX9_nextCard_112 : decode cX9_nextCard 112 = .ok (.iinc 4 1, 3) := by decide +kernel
theorem dX9_nextCard_115 : decode cX9_nextCard 115 = .ok (.goto (-110), 3) := by decide +kernel
theorem dX9_nextCard_118 : decode cX9_nextCard 118 = .ok (.iload_n 3, 1) := by decide +kernel
theorem dX9_nextCard_119 : decode cX9_nextCard 119 = .ok (.ireturn, 1) := by decide +kernel
theorem dX9_playCard_0 : decode cX9_playCard 0 = .ok (.aload_n 0, 1) := by decide +kernel
theorem dX9_playCard_1 : decode cX9_playCard 1 = .ok (.getfield 47, 3) := by decide +kernel
theorem dX9_playCard_4 : decode cX9_playCard 4 = .ok (.bipush 12, 2) := by decide +kernel
theorem dX9_playCard_6 : decode cX9_playCard 6 = .ok (.iload_n 1, 1) := by decide +kernel
theorem dX9_playCard_7 : decode cX9_playCard 7 = .ok (.imul, 1) := by decide +kernel
theorem dX9_playCard_8 : decode cX9_playCard 8 = .ok (.iload_n 2, 1) := by decide +kernel
theorem dX9_playCard_9 : decode cX9_playCard 9 = .ok (.iadd, 1) := by decide +kernel
theorem dX9_playCard_10 : decode cX9_playCard 10 = .ok (.dup2, 1) := by decide +kernel
theorem dX9_playCard_11 : decode cX9_playCard 11 = .ok (.iaload, 1) := by decide +kernel
theorem dX9_playCard_12 : decode cX9_playCard 12 = .ok (.iconst 1, 1) := by decide +kernel
theorem dX9_playCard_13 : decode cX9_playCard 13 = .ok (.isub, 1) := by decide +kernel
theorem dX9_playCard_14 : decode cX9_playCard 14 = .ok (.iastore, 1) := by decide +kernel
theorem dX9_playCard_15 : decode cX9_playCard 15 = .ok (.aload_n 0, 1) := by decide +kernel
theorem dX9_playCard_16 : decode cX9_playCard 16 = .ok (.getfield 44, 3) := by decide +kernel
theorem dX9_playCard_19 : decode cX9_playCard 19 = .ok (.iload_n 1, 1) := by decide +kernel
theorem dX9_playCard_20 : decode cX9_playCard 20 = .ok (.dup2, 1) := by decide +kernel
theorem dX9_playCard_21 : decode cX9_playCard 21 = .ok (.iaload, 1) := by decide +kernel
theorem dX9_playCard_22 : decode cX9_playCard 22 = .ok (.iconst 1, 1) := by decide +kernel
theorem dX9_playCard_23 : decode cX9_playCard 23 = .ok (.iadd, 1) := by decide +kernel
theorem dX9_playCard_24 : decode cX9_playCard 24 = .ok (.iastore, 1) := by decide +kernel
theorem dX9_playCard_25 : decode cX9_playCard 25 = .ok (.aload_n 0, 1) := by decide +kernel
theorem dX9_playCard_26 : decode cX9_playCard 26 = .ok (.getfield 7, 3) := by decide +kernel
theorem dX9_playCard_29 : decode cX9_playCard 29 = .ok (.iload_n 2, 1) := by decide +kernel
theorem dX9_playCard_30 : decode cX9_playCard 30 = .ok (.iaload, 1) := by decide +kernel
theorem dX9_playCard_31 : decode cX9_playCard 31 = .ok (.ifCond .ne 21, 3) := by decide +kernel
theorem dX9_playCard_34 : decode cX9_playCard 34 = .ok (.aload_n 0, 1) := by decide +kernel
theorem dX9_playCard_35 : decode cX9_playCard 35 = .ok (.getfield 38, 3) := by decide +kernel
theorem dX9_playCard_38 : decode cX9_playCard 38 = .ok (.iload_n 1, 1) := by decide +kernel
theorem dX9_playCard_39 : decode cX9_playCard 39 = .ok (.dup2, 1) := by decide +kernel
theorem dX9_playCard_40 : decode cX9_playCard 40 = .ok (.iaload, 1) := by decide +kernel
theorem dX9_playCard_41 : decode cX9_playCard 41 = .ok (.aload_n 0, 1) := by decide +kernel
theorem dX9_playCard_42 : decode cX9_playCard 42 = .ok (.getfield 16, 3) := by decide +kernel
theorem dX9_playCard_45 : decode cX9_playCard 45 = .ok (.iload_n 2, 1) := by decide +kernel
theorem dX9_playCard_46 : decode cX9_playCard 46 = .ok (.iaload, 1) := by decide +kernel
theorem dX9_playCard_47 : decode cX9_playCard 47 = .ok (.iadd, 1) := by decide +kernel
theorem dX9_playCard_48 : decode cX9_playCard 48 = .ok (.iastore, 1) := by decide +kernel
theorem dX9_playCard_49 : decode cX9_playCard 49 = .ok (.goto 48, 3) := by decide +kernel
theorem dX9_playCard_52 : decode cX9_playCard 52 = .ok (.aload_n 0, 1) := by decide +kernel
theorem dX9_playCard_53 : decode cX9_playCard 53 = .ok (.getfield 7, 3) := by decide +kernel
theorem dX9_playCard_56 : decode cX9_playCard 56 = .ok (.iload_n 2, 1) := by decide +kernel
theorem dX9_playCard_57 : decode cX9_playCard 57 = .ok (.iaload, 1) := by decide +kernel
theorem dX9_playCard_58 : decode cX9_playCard 58 = .ok (.iconst 1, 1) := by decide +kernel
theorem dX9_playCard_59 : decode cX9_playCard 59 = .ok (.if_icmp .ne 23, 3) := by decide +kernel
theorem dX9_playCard_62 : decode cX9_playCard 62 = .ok (.aload_n 0, 1) := by decide +kernel
theorem dX9_playCard_63 : decode cX9_playCard 63 = .ok (.getfield 32, 3) := by decide +kernel
theorem dX9_playCard_66 : decode cX9_playCard 66 = .ok (.iconst 1, 1) := by decide +kernel
theorem dX9_playCard_67 : decode cX9_playCard 67 = .ok (.iload_n 1, 1) := by decide +kernel
theorem dX9_playCard_68 : decode cX9_playCard 68 = .ok (.isub, 1) := by decide +kernel
theorem dX9_playCard_69 : decode cX9_playCard 69 = .ok (.dup2, 1) := by decide +kernel
theorem dX9_playCard_70 : decode cX9_playCard 70 = .ok (.iaload, 1) := by decide +kernel
theorem dX9_playCard_71 : decode cX9_playCard 71 = .ok (.aload_n 0, 1) := by decide +kernel
theorem dX9_playCard_72 : decode cX9_playCard 72 = .ok (.getfield 16, 3) := by decide +kernel
theorem dX9_playCard_75 : decode cX9_playCard 75 = .ok (.iload_n 2, 1) := by decide +kernel
theorem dX9_playCard_76 : decode cX9_playCard 76 = .ok (.iaload, 1) := by decide +kernel
theorem dX9_playCard_77 : decode cX9_playCard 77 = .ok (.isub, 1) := by decide +kernel
theorem dX9_playCard_78 : decode cX9_playCard 78 = .ok (.iastore, 1) := by decide +kernel
theorem dX9_playCard_79 : decode cX9_playCard 79 = .ok (.goto 18, 3) := by decide +kernel
theorem dX9_playCard_82 : decode cX9_playCard 82 = .ok (.aload_n 0, 1) := by decide +kernel
theorem dX9_playCard_83 : decode cX9_playCard 83 = .ok (.getfield 41, 3) := by decide +kernel
theorem dX9_playCard_86 : decode cX9_playCard 86 = .ok (.iload_n 1, 1) := by decide +kernel
theorem dX9_playCard_87 : decode cX9_playCard 87 = .ok (.dup2, 1) := by decide +kernel
theorem dX9_playCard_88 : decode cX9_playCard 88 = .ok (.iaload, 1) := by decide +kernel
theorem dX9_playCard_89 : decode cX9_playCard 89 = .ok (.aload_n 0, 1) := by decide +kernel
theorem dX9_playCard_90 : decode cX9_playCard 90 = .ok (.getfield 16, 3) := by decide +kernel
theorem dX9_playCard_93 : decode cX9_playCard 93 = .ok (.iload_n 2, 1) := by decide +kernel
theorem dX9_playCard_94 : decode cX9_playCard 94 = .ok (.iaload, 1) := by decide +kernel
theorem dX9_playCard_95 : decode cX9_playCard 95 = .ok (.iadd, 1) := by decide +kernel
theorem dX9_playCard_96 : decode cX9_playCard 96 = .ok (.iastore, 1) := by decide +kernel
theorem dX9_playCard_97 : decode cX9_playCard 97 = .ok (.return_, 1) := by decide +kernel
theorem dX9_move_0 : decode cX9_move 0 = .ok (.aload_n 0, 1) := by decide +kernel
theorem dX9_move_1 : decode cX9_move 1 = .ok (.getfield 29, 3) := by decide +kernel
theorem dX9_move_4 : decode cX9_move 4 = .ok (.iload_n 1, 1) := by decide +kernel
theorem dX9_move_5 : decode cX9_move 5 = .ok (.iaload, 1) := by decide +kernel
theorem dX9_move_6 : decode cX9_move 6 = .ok (.istore_n 2, 1) := by decide +kernel
theorem dX9_move_7 : decode cX9_move 7 = .ok (.aload_n 0, 1) := by decide +kernel
theorem dX9_move_8 : decode cX9_move 8 = .ok (.getfield 97, 3) := by decide +kernel
theorem dX9_move_11 : decode cX9_move 11 = .ok (.iconst 1, 1) := by decide +kernel
theorem dX9_move_12 : decode cX9_move 12 = .ok (.if_icmp .ne 7, 3) := by decide +kernel
theorem dX9_move_15 : decode cX9_move 15 = .ok (.iconst 2, 1) := by decide +kernel
theorem dX9_move_16 : decode cX9_move 16 = .ok (.goto 4, 3) := by decide +kernel
theorem dX9_move_19 : decode cX9_move 19 = .ok (.iconst 1, 1) := by decide +kernel
theorem dX9_move_20 : decode cX9_move 20 = .ok (.istore_n 3, 1) := by decide +kernel
theorem dX9_move_21 : decode cX9_move 21 = .ok (.iload_n 3, 1) := by decide +kernel
theorem dX9_move_22 : decode cX9_move 22 = .ok (.ifCond .le 64, 3) := by decide +kernel
theorem dX9_move_25 : decode cX9_move 25 = .ok (.aload_n 0, 1) := by decide +kernel
theorem dX9_move_26 : decode cX9_move 26 = .ok (.getfield 35, 3) := by decide +kernel
theorem dX9_move_29 : decode cX9_move 29 = .ok (.iload_n 1, 1) := by decide +kernel
theorem dX9_move_30 : decode cX9_move 30 = .ok (.iaload, 1) := by decide +kernel
theorem dX9_move_31 : decode cX9_move 31 = .ok (.aload_n 0, 1) := by decide +kernel
theorem dX9_move_32 : decode cX9_move 32 = .ok (.getfield 19, 3) := by decide +kernel
theorem dX9_move_35 : decode cX9_move 35 = .ok (.iload_n 2, 1) := by decide +kernel
theorem dX9_move_36 : decode cX9_move 36 = .ok (.iaload, 1) := by decide +kernel
theorem dX9_move_37 : decode cX9_move 37 = .ok (.if_icmp .ge 49, 3) := by decide +kernel
theorem dX9_move_40 : decode cX9_move 40 = .ok (.aload_n 0, 1) := by decide +kernel
theorem dX9_move_41 : decode cX9_move 41 = .ok (.getfield 47, 3) := by decide +kernel
theorem dX9_move_44 : decode cX9_move 44 = .ok (.bipush 12, 2) := by decide +kernel
theorem dX9_move_46 : decode cX9_move 46 = .ok (.iload_n 1, 1) := by decide +kernel
theorem dX9_move_47 : decode cX9_move 47 = .ok (.imul, 1) := by decide +kernel
theorem dX9_move_48 : decode cX9_move 48 = .ok (.aload_n 0, 1) := by decide +kernel
theorem dX9_move_49 : decode cX9_move 49 = .ok (.getfield 22, 3) := by decide +kernel
theorem dX9_move_52 : decode cX9_move 52 = .ok (.bipush 10, 2) := by decide +kernel
theorem dX9_move_54 : decode cX9_move 54 = .ok (.iload_n 2, 1) := by decide +kernel
theorem dX9_move_55 : decode cX9_move 55 = .ok (.imul, 1) := by decide +kernel
theorem dX9_move_56 : decode cX9_move 56 = .ok (.aload_n 0, 1) := by decide +kernel
theorem dX9_move_57 : decode cX9_move 57 = .ok (.getfield 35, 3) := by decide +kernel
theorem dX9_move_60 : decode cX9_move 60 = .ok (.iload_n 1, 1) := by decide +kernel
theorem dX9_move_61 : decode cX9_move 61 = .ok (.iaload, 1) := by decide +kernel
theorem dX9_move_62 : decode cX9_move 62 = .ok (.iadd, 1) := by decide +kernel
theorem dX9_move_63 : decode cX9_move 63 = .ok (.iaload, 1) := by decide +kernel
theorem dX9_move_64 : decode cX9_move 64 = .ok (.iadd, 1) := by decide +kernel
theorem dX9_move_65 : decode cX9_move 65 = .ok (.dup2, 1) := by decide +kernel
theorem dX9_move_66 : decode cX9_move 66 = .ok (.iaload, 1) := by decide +kernel
theorem dX9_move_67 : decode cX9_move 67 = .ok (.iconst 1, 1) := by decide +kernel
theorem dX9_move_68 : decode cX9_move 68 = .ok (.iadd, 1) := by decide +kernel
theorem dX9_move_69 : decode cX9_move 69 = .ok (.iastore, 1) := by decide +kernel
theorem dX9_move_70 : decode cX9_move 70 = .ok (.aload_n 0, 1) := by decide +kernel
theorem dX9_move_71 : decode cX9_move 71 = .ok (.getfield 35, 3) := by decide +kernel
theorem dX9_move_74 : decode cX9_move 74 = .ok (.iload_n 1, 1) := by decide +kernel
theorem dX9_move_75 : decode cX9_move 75 = .ok (.dup2, 1) := by decide +kernel
theorem dX9_move_76 : decode cX9_move 76 = .ok (.iaload, 1) := by decide +kernel
theorem dX9_move_77 : decode cX9_move 77 = .ok (.iconst 1, 1) := by decide +kernel
theorem dX9_move_78 : decode cX9_move 78 = .ok (.iadd, 1) := by decide +kernel
theorem dX9_move_79 : decode cX9_move 79 = .ok (.iastore, 1) := by decide +kernel
theorem dX9_move_80 : decode cX9_move 80 = .ok (.iinc 3 (-1), 3) := by decide +kernel
theorem dX9_move_83 : decode cX9_move 83 = .ok (.goto (-62), 3) := by decide +kernel
theorem dX9_move_86 : decode cX9_move 86 = .ok (.aload_n 0, 1) := by decide +kernel
theorem dX9_move_87 : decode cX9_move 87 = .ok (.getfield 38, 3) := by decide +kernel
theorem dX9_move_90 : decode cX9_move 90 = .ok (.iload_n 1, 1) := by decide +kernel
theorem dX9_move_91 : decode cX9_move 91 = .ok (.iaload, 1) := by decide +kernel
theorem dX9_move_92 : decode cX9_move 92 = .ok (.aload_n 0, 1) := by decide +kernel
theorem dX9_move_93 : decode cX9_move 93 = .ok (.getfield 41, 3) := by decide +kernel
theorem dX9_move_96 : decode cX9_move 96 = .ok (.iconst 1, 1) := by decide +kernel
theorem dX9_move_97 : decode cX9_move 97 = .ok (.iload_n 1, 1) := by decide +kernel
theorem dX9_move_98 : decode cX9_move 98 = .ok (.isub, 1) := by decide +kernel
theorem dX9_move_99 : decode cX9_move 99 = .ok (.iaload, 1) := by decide +kernel
theorem dX9_move_100 : decode cX9_move 100 = .ok (.isub, 1) := by decide +kernel
theorem dX9_move_101 : decode cX9_move 101 = .ok (.istore_n 3, 1) := by decide +kernel
theorem dX9_move_102 : decode cX9_move 102 = .ok (.aload_n 0, 1) := by decide +kernel
theorem dX9_move_103 : decode cX9_move 103 = .ok (.getfield 32, 3) := by decide +kernel
theorem dX9_move_106 : decode cX9_move 106 = .ok (.iconst 1, 1) := by decide +kernel
theorem dX9_move_107 : decode cX9_move 107 = .ok (.iload_n 1, 1) := by decide +kernel
theorem dX9_move_108 : decode cX9_move 108 = .ok (.isub, 1) := by decide +kernel
theorem dX9_move_109 : decode cX9_move 109 = .ok (.dup2, 1) := by decide +kernel
theorem dX9_move_110 : decode cX9_move 110 = .ok (.iaload, 1) := by decide +kernel
theorem dX9_move_111 : decode cX9_move 111 = .ok (.iload_n 3, 1) := by decide +kernel
theorem dX9_move_112 : decode cX9_move 112 = .ok (.ifCond .le 7, 3) := by decide +kernel
theorem dX9_move_115 : decode cX9_move 115 = .ok (.iload_n 3, 1) := by decide +kernel
theorem dX9_move_116 : decode cX9_move 116 = .ok (.goto 4, 3) := by decide +kernel
theorem dX9_move_119 : decode cX9_move 119 = .ok (.iconst 0, 1) := by decide +kernel
theorem dX9_move_120 : decode cX9_move 120 = .ok (.isub, 1) := by decide +kernel
theorem dX9_move_121 : decode cX9_move 121 = .ok (.iastore, 1) := by decide +kernel
theorem dX9_move_122 : decode cX9_move 122 = .ok (.aload_n 0, 1) := by decide +kernel
theorem dX9_move_123 : decode cX9_move 123 = .ok (.getfield 97, 3) := by decide +kernel
theorem dX9_move_126 : decode cX9_move 126 = .ok (.bipush 6, 2) := by decide +kernel
theorem dX9_move_128 : decode cX9_move 128 = .ok (.if_icmp .ge 10, 3) := by decide +kernel
theorem dX9_move_131 : decode cX9_move 131 = .ok (.aload_n 0, 1) := by decide +kernel
theorem dX9_move_132 : decode cX9_move 132 = .ok (.getfield 97, 3) := by decide +kernel
theorem dX9_move_135 : decode cX9_move 135 = .ok (.goto 5, 3) := by decide +kernel
theorem dX9_move_138 : decode cX9_move 138 = .ok (.bipush 6, 2) := by decide +kernel
theorem dX9_move_140 : decode cX9_move 140 = .ok (.istore 4, 2) := by decide +kernel
theorem dX9_move_142 : decode cX9_move 142 = .ok (.aload_n 0, 1) := by decide +kernel
theorem dX9_move_143 : decode cX9_move 143 = .ok (.iload_n 1, 1) := by decide +kernel
theorem dX9_move_144 : decode cX9_move 144 = .ok (.iload 4, 2) := by decide +kernel
theorem dX9_move_146 : decode cX9_move 146 = .ok (.invokevirtual 100, 3) := by decide +kernel
theorem dX9_move_149 : decode cX9_move 149 = .ok (.istore 5, 2) := by decide +kernel
theorem dX9_move_151 : decode cX9_move 151 = .ok (.aload_n 0, 1) := by decide +kernel
theorem dX9_move_152 : decode cX9_move 152 = .ok (.invokevirtual 104, 3) := by decide +kernel
theorem dX9_move_155 : decode cX9_move 155 = .ok (.ifCond .ne 40, 3) := by decide +kernel
theorem dX9_move_158 : decode cX9_move 158 = .ok (.iload 5, 2) := by decide +kernel
theorem dX9_move_160 : decode cX9_move 160 = .ok (.iconst (-1), 1) := by decide +kernel
theorem dX9_move_161 : decode cX9_move 161 = .ok (.if_icmp .eq 34, 3) := by decide +kernel
theorem dX9_move_164 : decode cX9_move 164 = .ok (.aload_n 0, 1) := by decide +kernel
theorem dX9_move_165 : decode cX9_move 165 = .ok (.iload_n 1, 1) := by decide +kernel
theorem dX9_move_166 : decode cX9_move 166 = .ok (.iload 5, 2) := by decide +kernel
theorem dX9_move_168 : decode cX9_move 168 = .ok (.invokevirtual 108, 3) := by decide +kernel
theorem dX9_move_171 : decode cX9_move 171 = .ok (.iload 4, 2) := by decide +kernel
theorem dX9_move_173 : decode cX9_move 173 = .ok (.aload_n 0, 1) := by decide +kernel
theorem dX9_move_174 : decode cX9_move 174 = .ok (.getfield 13, 3) := by decide +kernel
theorem dX9_move_177 : decode cX9_move 177 = .ok (.iload 5, 2) := by decide +kernel
theorem dX9_move_179 : decode cX9_move 179 = .ok (.iaload, 1) := by decide +kernel
theorem dX9_move_180 : decode cX9_move 180 = .ok (.isub, 1) := by decide +kernel
theorem dX9_move_181 : decode cX9_move 181 = .ok (.istore 4, 2) := by decide +kernel
theorem dX9_move_183 : decode cX9_move 183 = .ok (.aload_n 0, 1) := by decide +kernel
theorem dX9_move_184 : decode cX9_move 184 = .ok (.iload_n 1, 1) := by decide +kernel
theorem dX9_move_185 : decode cX9_move 185 = .ok (.iload 4, 2) := by decide +kernel
theorem dX9_move_187 : decode cX9_move 187 = .ok (.invokevirtual 100, 3) := by decide +kernel
theorem dX9_move_190 : decode cX9_move 190 = .ok (.istore 5, 2) := by decide +kernel
theorem dX9_move_192 : decode cX9_move 192 = .ok (.goto (-41), 3) := by decide +kernel
theorem dX9_move_195 : decode cX9_move 195 = .ok (.return_, 1) := by decide +kernel
theorem dX9_game_0 : decode cX9_game 0 = .ok (.aload_n 0, 1) := by decide +kernel
theorem dX9_game_1 : decode cX9_game 1 = .ok (.getfield 29, 3) := by decide +kernel
theorem dX9_game_4 : decode cX9_game 4 = .ok (.iconst 0, 1) := by decide +kernel
theorem dX9_game_5 : decode cX9_game 5 = .ok (.iload_n 1, 1) := by decide +kernel
theorem dX9_game_6 : decode cX9_game 6 = .ok (.iastore, 1) := by decide +kernel
theorem dX9_game_7 : decode cX9_game 7 = .ok (.aload_n 0, 1) := by decide +kernel
theorem dX9_game_8 : decode cX9_game 8 = .ok (.getfield 29, 3) := by decide +kernel
theorem dX9_game_11 : decode cX9_game 11 = .ok (.iconst 1, 1) := by decide +kernel
theorem dX9_game_12 : decode cX9_game 12 = .ok (.iload_n 2, 1) := by decide +kernel
theorem dX9_game_13 : decode cX9_game 13 = .ok (.iastore, 1) := by decide +kernel
theorem dX9_game_14 : decode cX9_game 14 = .ok (.iconst 0, 1) := by decide +kernel
theorem dX9_game_15 : decode cX9_game 15 = .ok (.istore_n 3, 1) := by decide +kernel
theorem dX9_game_16 : decode cX9_game 16 = .ok (.iload_n 3, 1) := by decide +kernel
theorem dX9_game_17 : decode cX9_game 17 = .ok (.bipush 24, 2) := by decide +kernel
theorem dX9_game_19 : decode cX9_game 19 = .ok (.if_icmp .ge 16, 3) := by decide +kernel
theorem dX9_game_22 : decode cX9_game 22 = .ok (.aload_n 0, 1) := by decide +kernel
theorem dX9_game_23 : decode cX9_game 23 = .ok (.getfield 47, 3) := by decide +kernel
theorem dX9_game_26 : decode cX9_game 26 = .ok (.iload_n 3, 1) := by decide +kernel
theorem dX9_game_27 : decode cX9_game 27 = .ok (.iconst 0, 1) := by decide +kernel
theorem dX9_game_28 : decode cX9_game 28 = .ok (.iastore, 1) := by decide +kernel
theorem dX9_game_29 : decode cX9_game 29 = .ok (.iinc 3 1, 3) := by decide +kernel
theorem dX9_game_32 : decode cX9_game 32 = .ok (.goto (-16), 3) := by decide +kernel
end
section
theorem dX9_game_35 : decode cX9_game 35 = .ok (.iconst 0, 1) := by decide +kernel
theorem dX9_game_36 : decode cX9_game 36 = .ok (.istore_n 3, 1) := by decide +kernel
theorem dX9_game_37 : decode cX9_game 37 = .ok (.iload_n 3, 1) := by decide +kernel
theorem dX9_game_38 : decode cX9_game 38 = .ok (.iconst 2, 1) := by decide +kernel
theorem dX9_game_39 : decode cX9_game 39 = .ok (.if_icmp .ge 47, 3) := by decide +kernel
theorem dX9_game_42 : decode cX9_game 42 = .ok (.aload_n 0, 1) := by decide +kernel
theorem dX9_game_43 : decode cX9_game 43 = .ok (.getfield 32, 3) := by decide +kernel
theorem dX9_game_46 : decode cX9_game 46 = .ok (.iload_n 3, 1) := by decide +kernel
theorem dX9_game_47 : decode cX9_game 47 = .ok (.aload_n 0, 1) := by decide +kernel
theorem dX9_game_48 : decode cX9_game 48 = .ok (.getfield 25, 3) := by decide +kernel
theorem dX9_game_51 : decode cX9_game 51 = .ok (.iastore, 1) := by decide +kernel
theorem dX9_game_52 : decode cX9_game 52 = .ok (.aload_n 0, 1) := by decide +kernel
theorem dX9_game_53 : decode cX9_game 53 = .ok (.getfield 35, 3) := by decide +kernel
theorem dX9_game_56 : decode cX9_game 56 = .ok (.iload_n 3, 1) := by decide +kernel
theorem dX9_game_57 : decode cX9_game 57 = .ok (.iconst 0, 1) := by decide +kernel
theorem dX9_game_58 : decode cX9_game 58 = .ok (.iastore, 1) := by decide +kernel
theorem dX9_game_59 : decode cX9_game 59 = .ok (.aload_n 0, 1) := by decide +kernel
theorem dX9_game_60 : decode cX9_game 60 = .ok (.getfield 38, 3) := by decide +kernel
theorem dX9_game_63 : decode cX9_game 63 = .ok (.iload_n 3, 1) := by decide +kernel
theorem dX9_game_64 : decode cX9_game 64 = .ok (.iconst 0, 1) := by decide +kernel
theorem dX9_game_65 : decode cX9_game 65 = .ok (.iastore, 1) := by decide +kernel
theorem dX9_game_66 : decode cX9_game 66 = .ok (.aload_n 0, 1) := by decide +kernel
theorem dX9_game_67 : decode cX9_game 67 = .ok (.getfield 41, 3) := by decide +kernel
theorem dX9_game_70 : decode cX9_game 70 = .ok (.iload_n 3, 1) := by decide +kernel
theorem dX9_game_71 : decode cX9_game 71 = .ok (.iconst 0, 1) := by decide +kernel
theorem dX9_game_72 : decode cX9_game 72 = .ok (.iastore, 1) := by decide +kernel
theorem dX9_game_73 : decode cX9_game 73 = .ok (.aload_n 0, 1) := by decide +kernel
theorem dX9_game_74 : decode cX9_game 74 = .ok (.getfield 44, 3) := by decide +kernel
theorem dX9_game_77 : decode cX9_game 77 = .ok (.iload_n 3, 1) := by decide +kernel
theorem dX9_game_78 : decode cX9_game 78 = .ok (.iconst 0, 1) := by decide +kernel
theorem dX9_game_79 : decode cX9_game 79 = .ok (.iastore, 1) := by decide +kernel
theorem dX9_game_80 : decode cX9_game 80 = .ok (.iinc 3 1, 3) := by decide +kernel
theorem dX9_game_83 : decode cX9_game 83 = .ok (.goto (-46), 3) := by decide +kernel
theorem dX9_game_86 : decode cX9_game 86 = .ok (.aload_n 0, 1) := by decide +kernel
theorem dX9_game_87 : decode cX9_game 87 = .ok (.iconst 0, 1) := by decide +kernel
theorem dX9_game_88 : decode cX9_game 88 = .ok (.putfield 97, 3) := by decide +kernel
theorem dX9_game_91 : decode cX9_game 91 = .ok (.aload_n 0, 1) := by decide +kernel
theorem dX9_game_92 : decode cX9_game 92 = .ok (.invokevirtual 104, 3) := by decide +kernel
theorem dX9_game_95 : decode cX9_game 95 = .ok (.ifCond .ne 42, 3) := by decide +kernel
theorem dX9_game_98 : decode cX9_game 98 = .ok (.aload_n 0, 1) := by decide +kernel
theorem dX9_game_99 : decode cX9_game 99 = .ok (.getfield 97, 3) := by decide +kernel
theorem dX9_game_102 : decode cX9_game 102 = .ok (.bipush 12, 2) := by decide +kernel
theorem dX9_game_104 : decode cX9_game 104 = .ok (.if_icmp .ge 33, 3) := by decide +kernel
theorem dX9_game_107 : decode cX9_game 107 = .ok (.aload_n 0, 1) := by decide +kernel
theorem dX9_game_108 : decode cX9_game 108 = .ok (.dup, 1) := by decide +kernel
theorem dX9_game_109 : decode cX9_game 109 = .ok (.getfield 97, 3) := by decide +kernel
theorem dX9_game_112 : decode cX9_game 112 = .ok (.iconst 1, 1) := by decide +kernel
theorem dX9_game_113 : decode cX9_game 113 = .ok (.iadd, 1) := by decide +kernel
theorem dX9_game_114 : decode cX9_game 114 = .ok (.putfield 97, 3) := by decide +kernel
theorem dX9_game_117 : decode cX9_game 117 = .ok (.aload_n 0, 1) := by decide +kernel
theorem dX9_game_118 : decode cX9_game 118 = .ok (.iconst 0, 1) := by decide +kernel
theorem dX9_game_119 : decode cX9_game 119 = .ok (.invokevirtual 111, 3) := by decide +kernel
theorem dX9_game_122 : decode cX9_game 122 = .ok (.aload_n 0, 1) := by decide +kernel
theorem dX9_game_123 : decode cX9_game 123 = .ok (.invokevirtual 104, 3) := by decide +kernel
theorem dX9_game_126 : decode cX9_game 126 = .ok (.ifCond .ne (-35), 3) := by decide +kernel
theorem dX9_game_129 : decode cX9_game 129 = .ok (.aload_n 0, 1) := by decide +kernel
theorem dX9_game_130 : decode cX9_game 130 = .ok (.iconst 1, 1) := by decide +kernel
theorem dX9_game_131 : decode cX9_game 131 = .ok (.invokevirtual 111, 3) := by decide +kernel
theorem dX9_game_134 : decode cX9_game 134 = .ok (.goto (-43), 3) := by decide +kernel
theorem dX9_game_137 : decode cX9_game 137 = .ok (.return_, 1) := by decide +kernel
theorem dX9_result_0 : decode cX9_result 0 = .ok (.aload_n 0, 1) := by decide +kernel
theorem dX9_result_1 : decode cX9_result 1 = .ok (.iload_n 1, 1) := by decide +kernel
theorem dX9_result_2 : decode cX9_result 2 = .ok (.iload_n 2, 1) := by decide +kernel
theorem dX9_result_3 : decode cX9_result 3 = .ok (.invokevirtual 115, 3) := by decide +kernel
theorem dX9_result_6 : decode cX9_result 6 = .ok (.aload_n 0, 1) := by decide +kernel
theorem dX9_result_7 : decode cX9_result 7 = .ok (.getfield 32, 3) := by decide +kernel
theorem dX9_result_10 : decode cX9_result 10 = .ok (.iconst 0, 1) := by decide +kernel
theorem dX9_result_11 : decode cX9_result 11 = .ok (.iaload, 1) := by decide +kernel
theorem dX9_result_12 : decode cX9_result 12 = .ok (.aload_n 0, 1) := by decide +kernel
theorem dX9_result_13 : decode cX9_result 13 = .ok (.getfield 32, 3) := by decide +kernel
theorem dX9_result_16 : decode cX9_result 16 = .ok (.iconst 1, 1) := by decide +kernel
theorem dX9_result_17 : decode cX9_result 17 = .ok (.iaload, 1) := by decide +kernel
theorem dX9_result_18 : decode cX9_result 18 = .ok (.if_icmp .le 7, 3) := by decide +kernel
theorem dX9_result_21 : decode cX9_result 21 = .ok (.iconst 1, 1) := by decide +kernel
theorem dX9_result_22 : decode cX9_result 22 = .ok (.goto 23, 3) := by decide +kernel
theorem dX9_result_25 : decode cX9_result 25 = .ok (.aload_n 0, 1) := by decide +kernel
theorem dX9_result_26 : decode cX9_result 26 = .ok (.getfield 32, 3) := by decide +kernel
theorem dX9_result_29 : decode cX9_result 29 = .ok (.iconst 0, 1) := by decide +kernel
theorem dX9_result_30 : decode cX9_result 30 = .ok (.iaload, 1) := by decide +kernel
theorem dX9_result_31 : decode cX9_result 31 = .ok (.aload_n 0, 1) := by decide +kernel
theorem dX9_result_32 : decode cX9_result 32 = .ok (.getfield 32, 3) := by decide +kernel
theorem dX9_result_35 : decode cX9_result 35 = .ok (.iconst 1, 1) := by decide +kernel
theorem dX9_result_36 : decode cX9_result 36 = .ok (.iaload, 1) := by decide +kernel
theorem dX9_result_37 : decode cX9_result 37 = .ok (.if_icmp .ge 7, 3) := by decide +kernel
theorem dX9_result_40 : decode cX9_result 40 = .ok (.iconst (-1), 1) := by decide +kernel
theorem dX9_result_41 : decode cX9_result 41 = .ok (.goto 4, 3) := by decide +kernel
theorem dX9_result_44 : decode cX9_result 44 = .ok (.iconst 0, 1) := by decide +kernel
theorem dX9_result_45 : decode cX9_result 45 = .ok (.ireturn, 1) := by decide +kernel
theorem dX9_play_0 : decode cX9_play 0 = .ok (.aload_n 0, 1) := by decide +kernel
theorem dX9_play_1 : decode cX9_play 1 = .ok (.iload_n 1, 1) := by decide +kernel
theorem dX9_play_2 : decode cX9_play 2 = .ok (.invokevirtual 86, 3) := by decide +kernel
theorem dX9_play_5 : decode cX9_play 5 = .ok (.ifCond .eq 20, 3) := by decide +kernel
theorem dX9_play_8 : decode cX9_play 8 = .ok (.aload_n 0, 1) := by decide +kernel
theorem dX9_play_9 : decode cX9_play 9 = .ok (.iload_n 2, 1) := by decide +kernel
theorem dX9_play_10 : decode cX9_play 10 = .ok (.invokevirtual 86, 3) := by decide +kernel
theorem dX9_play_13 : decode cX9_play 13 = .ok (.ifCond .eq 12, 3) := by decide +kernel
theorem dX9_play_16 : decode cX9_play 16 = .ok (.aload_n 0, 1) := by decide +kernel
theorem dX9_play_17 : decode cX9_play 17 = .ok (.iload_n 1, 1) := by decide +kernel
theorem dX9_play_18 : decode cX9_play 18 = .ok (.iload_n 2, 1) := by decide +kernel
theorem dX9_play_19 : decode cX9_play 19 = .ok (.invokevirtual 118, 3) := by decide +kernel
theorem dX9_play_22 : decode cX9_play 22 = .ok (.goto 5, 3) := by decide +kernel
theorem dX9_play_25 : decode cX9_play 25 = .ok (.bipush (-2), 2) := by decide +kernel
theorem dX9_play_27 : decode cX9_play 27 = .ok (.ireturn, 1) := by decide +kernel
theorem dX9_told_0 : decode cX9_told 0 = .ok (.aload_n 0, 1) := by decide +kernel
theorem dX9_told_1 : decode cX9_told 1 = .ok (.iload_n 1, 1) := by decide +kernel
theorem dX9_told_2 : decode cX9_told 2 = .ok (.invokevirtual 86, 3) := by decide +kernel
theorem dX9_told_5 : decode cX9_told 5 = .ok (.ifCond .eq 11, 3) := by decide +kernel
theorem dX9_told_8 : decode cX9_told 8 = .ok (.aload_n 0, 1) := by decide +kernel
theorem dX9_told_9 : decode cX9_told 9 = .ok (.iload_n 2, 1) := by decide +kernel
theorem dX9_told_10 : decode cX9_told 10 = .ok (.invokevirtual 86, 3) := by decide +kernel
theorem dX9_told_13 : decode cX9_told 13 = .ok (.ifCond .ne 6, 3) := by decide +kernel
theorem dX9_told_16 : decode cX9_told 16 = .ok (.ldc 121, 2) := by decide +kernel
theorem dX9_told_18 : decode cX9_told 18 = .ok (.ireturn, 1) := by decide +kernel
theorem dX9_told_19 : decode cX9_told 19 = .ok (.aload_n 0, 1) := by decide +kernel
theorem dX9_told_20 : decode cX9_told 20 = .ok (.iload_n 1, 1) := by decide +kernel
theorem dX9_told_21 : decode cX9_told 21 = .ok (.iload_n 2, 1) := by decide +kernel
theorem dX9_told_22 : decode cX9_told 22 = .ok (.invokevirtual 115, 3) := by decide +kernel
theorem dX9_told_25 : decode cX9_told 25 = .ok (.iload_n 3, 1) := by decide +kernel
theorem dX9_told_26 : decode cX9_told 26 = .ok (.tableswitch 67 0 4 #[34, 39, 46, 53, 60], 34) := by decide +kernel
theorem dX9_told_60 : decode cX9_told 60 = .ok (.aload_n 0, 1) := by decide +kernel
theorem dX9_told_61 : decode cX9_told 61 = .ok (.getfield 97, 3) := by decide +kernel
theorem dX9_told_64 : decode cX9_told 64 = .ok (.ireturn, 1) := by decide +kernel
theorem dX9_told_65 : decode cX9_told 65 = .ok (.aload_n 0, 1) := by decide +kernel
theorem dX9_told_66 : decode cX9_told 66 = .ok (.getfield 32, 3) := by decide +kernel
theorem dX9_told_69 : decode cX9_told 69 = .ok (.iconst 0, 1) := by decide +kernel
theorem dX9_told_70 : decode cX9_told 70 = .ok (.iaload, 1) := by decide +kernel
theorem dX9_told_71 : decode cX9_told 71 = .ok (.ireturn, 1) := by decide +kernel
theorem dX9_told_72 : decode cX9_told 72 = .ok (.aload_n 0, 1) := by decide +kernel
theorem dX9_told_73 : decode cX9_told 73 = .ok (.getfield 32, 3) := by decide +kernel
theorem dX9_told_76 : decode cX9_told 76 = .ok (.iconst 1, 1) := by decide +kernel
theorem dX9_told_77 : decode cX9_told 77 = .ok (.iaload, 1) := by decide +kernel
theorem dX9_told_78 : decode cX9_told 78 = .ok (.ireturn, 1) := by decide +kernel
theorem dX9_told_79 : decode cX9_told 79 = .ok (.aload_n 0, 1) := by decide +kernel
theorem dX9_told_80 : decode cX9_told 80 = .ok (.getfield 44, 3) := by decide +kernel
theorem dX9_told_83 : decode cX9_told 83 = .ok (.iconst 0, 1) := by decide +kernel
theorem dX9_told_84 : decode cX9_told 84 = .ok (.iaload, 1) := by decide +kernel
theorem dX9_told_85 : decode cX9_told 85 = .ok (.ireturn, 1) := by decide +kernel
theorem dX9_told_86 : decode cX9_told 86 = .ok (.aload_n 0, 1) := by decide +kernel
theorem dX9_told_87 : decode cX9_told 87 = .ok (.getfield 44, 3) := by decide +kernel
theorem dX9_told_90 : decode cX9_told 90 = .ok (.iconst 1, 1) := by decide +kernel
theorem dX9_told_91 : decode cX9_told 91 = .ok (.iaload, 1) := by decide +kernel
theorem dX9_told_92 : decode cX9_told 92 = .ok (.ireturn, 1) := by decide +kernel
theorem dX9_told_93 : decode cX9_told 93 = .ok (.ldc 121, 2) := by decide +kernel
theorem dX9_told_95 : decode cX9_told 95 = .ok (.ireturn, 1) := by decide +kernel
theorem dX9_tableOf_0 : decode cX9_tableOf 0 = .ok (.aload_n 0, 1) := by decide +kernel
theorem dX9_tableOf_1 : decode cX9_tableOf 1 = .ok (.iload_n 1, 1) := by decide +kernel
theorem dX9_tableOf_2 : decode cX9_tableOf 2 = .ok (.iload_n 2, 1) := by decide +kernel
theorem dX9_tableOf_3 : decode cX9_tableOf 3 = .ok (.invokevirtual 118, 3) := by decide +kernel
theorem dX9_tableOf_6 : decode cX9_tableOf 6 = .ok (.aload_n 0, 1) := by decide +kernel
theorem dX9_tableOf_7 : decode cX9_tableOf 7 = .ok (.iload_n 2, 1) := by decide +kernel
theorem dX9_tableOf_8 : decode cX9_tableOf 8 = .ok (.iload_n 1, 1) := by decide +kernel
theorem dX9_tableOf_9 : decode cX9_tableOf 9 = .ok (.invokevirtual 118, 3) := by decide +kernel
theorem dX9_tableOf_12 : decode cX9_tableOf 12 = .ok (.isub, 1) := by decide +kernel
theorem dX9_tableOf_13 : decode cX9_tableOf 13 = .ok (.ireturn, 1) := by decide +kernel
theorem dX9_table_0 : decode cX9_table 0 = .ok (.aload_n 0, 1) := by decide +kernel
theorem dX9_table_1 : decode cX9_table 1 = .ok (.iload_n 1, 1) := by decide +kernel
theorem dX9_table_2 : decode cX9_table 2 = .ok (.invokevirtual 86, 3) := by decide +kernel
theorem dX9_table_5 : decode cX9_table 5 = .ok (.ifCond .eq 20, 3) := by decide +kernel
theorem dX9_table_8 : decode cX9_table 8 = .ok (.aload_n 0, 1) := by decide +kernel
theorem dX9_table_9 : decode cX9_table 9 = .ok (.iload_n 2, 1) := by decide +kernel
theorem dX9_table_10 : decode cX9_table 10 = .ok (.invokevirtual 86, 3) := by decide +kernel
theorem dX9_table_13 : decode cX9_table 13 = .ok (.ifCond .eq 12, 3) := by decide +kernel
theorem dX9_table_16 : decode cX9_table 16 = .ok (.aload_n 0, 1) := by decide +kernel
theorem dX9_table_17 : decode cX9_table 17 = .ok (.iload_n 1, 1) := by decide +kernel
theorem dX9_table_18 : decode cX9_table 18 = .ok (.iload_n 2, 1) := by decide +kernel
theorem dX9_table_19 : decode cX9_table 19 = .ok (.invokevirtual 122, 3) := by decide +kernel
theorem dX9_table_22 : decode cX9_table 22 = .ok (.goto 5, 3) := by decide +kernel
theorem dX9_table_25 : decode cX9_table 25 = .ok (.ldc 121, 2) := by decide +kernel
theorem dX9_table_27 : decode cX9_table 27 = .ok (.ireturn, 1) := by decide +kernel
theorem dX9_layTables_0 : decode cX9_layTables 0 = .ok (.iconst 0, 1) := by decide +kernel
theorem dX9_layTables_1 : decode cX9_layTables 1 = .ok (.istore_n 1, 1) := by decide +kernel
theorem dX9_layTables_2 : decode cX9_layTables 2 = .ok (.iload_n 1, 1) := by decide +kernel
theorem dX9_layTables_3 : decode cX9_layTables 3 = .ok (.aload_n 0, 1) := by decide +kernel
theorem dX9_layTables_4 : decode cX9_layTables 4 = .ok (.getfield 79, 3) := by decide +kernel
theorem dX9_layTables_7 : decode cX9_layTables 7 = .ok (.if_icmp .ge 41, 3) := by decide +kernel
theorem dX9_layTables_10 : decode cX9_layTables 10 = .ok (.iconst 0, 1) := by decide +kernel
theorem dX9_layTables_11 : decode cX9_layTables 11 = .ok (.istore_n 2, 1) := by decide +kernel
theorem dX9_layTables_12 : decode cX9_layTables 12 = .ok (.iload_n 2, 1) := by decide +kernel
theorem dX9_layTables_13 : decode cX9_layTables 13 = .ok (.aload_n 0, 1) := by decide +kernel
theorem dX9_layTables_14 : decode cX9_layTables 14 = .ok (.getfield 79, 3) := by decide +kernel
theorem dX9_layTables_17 : decode cX9_layTables 17 = .ok (.if_icmp .ge 25, 3) := by decide +kernel
theorem dX9_layTables_20 : decode cX9_layTables 20 = .ok (.aload_n 0, 1) := by decide +kernel
theorem dX9_layTables_21 : decode cX9_layTables 21 = .ok (.getfield 50, 3) := by decide +kernel
theorem dX9_layTables_24 : decode cX9_layTables 24 = .ok (.iconst 5, 1) := by decide +kernel
theorem dX9_layTables_25 : decode cX9_layTables 25 = .ok (.iload_n 1, 1) := by decide +kernel
theorem dX9_layTables_26 : decode cX9_layTables 26 = .ok (.imul, 1) := by decide +kernel
theorem dX9_layTables_27 : decode cX9_layTables 27 = .ok (.iload_n 2, 1) := by decide +kernel
theorem dX9_layTables_28 : decode cX9_layTables 28 = .ok (.iadd, 1) := by decide +kernel
theorem dX9_layTables_29 : decode cX9_layTables 29 = .ok (.aload_n 0, 1) := by decide +kernel
theorem dX9_layTables_30 : decode cX9_layTables 30 = .ok (.iload_n 1, 1) := by decide +kernel
theorem dX9_layTables_31 : decode cX9_layTables 31 = .ok (.iload_n 2, 1) := by decide +kernel
theorem dX9_layTables_32 : decode cX9_layTables 32 = .ok (.invokevirtual 122, 3) := by decide +kernel
theorem dX9_layTables_35 : decode cX9_layTables 35 = .ok (.iastore, 1) := by decide +kernel
theorem dX9_layTables_36 : decode cX9_layTables 36 = .ok (.iinc 2 1, 3) := by decide +kernel
theorem dX9_layTables_39 : decode cX9_layTables 39 = .ok (.goto (-27), 3) := by decide +kernel
theorem dX9_layTables_42 : decode cX9_layTables 42 = .ok (.iinc 1 1, 3) := by decide +kernel
theorem dX9_layTables_45 : decode cX9_layTables 45 = .ok (.goto (-43), 3) := by decide +kernel
theorem dX9_layTables_48 : decode cX9_layTables 48 = .ok (.return_, 1) := by decide +kernel
theorem dX9_beats_0 : decode cX9_beats 0 = .ok (.aload_n 0, 1) := by decide +kernel
theorem dX9_beats_1 : decode cX9_beats 1 = .ok (.getfield 50, 3) := by decide +kernel
theorem dX9_beats_4 : decode cX9_beats 4 = .ok (.iconst 5, 1) := by decide +kernel
theorem dX9_beats_5 : decode cX9_beats 5 = .ok (.iload_n 1, 1) := by decide +kernel
theorem dX9_beats_6 : decode cX9_beats 6 = .ok (.imul, 1) := by decide +kernel
theorem dX9_beats_7 : decode cX9_beats 7 = .ok (.iload_n 2, 1) := by decide +kernel
theorem dX9_beats_8 : decode cX9_beats 8 = .ok (.iadd, 1) := by decide +kernel
theorem dX9_beats_9 : decode cX9_beats 9 = .ok (.iaload, 1) := by decide +kernel
theorem dX9_beats_10 : decode cX9_beats 10 = .ok (.ifCond .le 7, 3) := by decide +kernel
theorem dX9_beats_13 : decode cX9_beats 13 = .ok (.iconst 1, 1) := by decide +kernel
theorem dX9_beats_14 : decode cX9_beats 14 = .ok (.goto 4, 3) := by decide +kernel
theorem dX9_beats_17 : decode cX9_beats 17 = .ok (.iconst 0, 1) := by decide +kernel
theorem dX9_beats_18 : decode cX9_beats 18 = .ok (.ireturn, 1) := by decide +kernel
theorem dX9_findRings_0 : decode cX9_findRings 0 = .ok (.aload_n 0, 1) := by decide +kernel
theorem dX9_findRings_1 : decode cX9_findRings 1 = .ok (.invokevirtual 125, 3) := by decide +kernel
theorem dX9_findRings_4 : decode cX9_findRings 4 = .ok (.iconst 0, 1) := by decide +kernel
theorem dX9_findRings_5 : decode cX9_findRings 5 = .ok (.istore_n 2, 1) := by decide +kernel
theorem dX9_findRings_6 : decode cX9_findRings 6 = .ok (.iconst 0, 1) := by decide +kernel
theorem dX9_findRings_7 : decode cX9_findRings 7 = .ok (.istore_n 3, 1) := by decide +kernel
theorem dX9_findRings_8 : decode cX9_findRings 8 = .ok (.iload_n 3, 1) := by decide +kernel
theorem dX9_findRings_9 : decode cX9_findRings 9 = .ok (.aload_n 0, 1) := by decide +kernel
theorem dX9_findRings_10 : decode cX9_findRings 10 = .ok (.getfield 79, 3) := by decide +kernel
theorem dX9_findRings_13 : decode cX9_findRings 13 = .ok (.if_icmp .ge 136, 3) := by decide +kernel
theorem dX9_findRings_16 : decode cX9_findRings 16 = .ok (.iload_n 3, 1) := by decide +kernel
theorem dX9_findRings_17 : decode cX9_findRings 17 = .ok (.iconst 1, 1) := by decide +kernel
theorem dX9_findRings_18 : decode cX9_findRings 18 = .ok (.iadd, 1) := by decide +kernel
theorem dX9_findRings_19 : decode cX9_findRings 19 = .ok (.istore 4, 2) := by decide +kernel
theorem dX9_findRings_21 : decode cX9_findRings 21 = .ok (.iload 4, 2) := by decide +kernel
theorem dX9_findRings_23 : decode cX9_findRings 23 = .ok (.aload_n 0, 1) := by decide +kernel
theorem dX9_findRings_24 : decode cX9_findRings 24 = .ok (.getfield 79, 3) := by decide +kernel
theorem dX9_findRings_27 : decode cX9_findRings 27 = .ok (.if_icmp .ge 116, 3) := by decide +kernel
theorem dX9_findRings_30 : decode cX9_findRings 30 = .ok (.iload_n 3, 1) := by decide +kernel
theorem dX9_findRings_31 : decode cX9_findRings 31 = .ok (.iconst 1, 1) := by decide +kernel
theorem dX9_findRings_32 : decode cX9_findRings 32 = .ok (.iadd, 1) := by decide +kernel
theorem dX9_findRings_33 : decode cX9_findRings 33 = .ok (.istore 5, 2) := by decide +kernel
theorem dX9_findRings_35 : decode cX9_findRings 35 = .ok (.iload 5, 2) := by decide +kernel
theorem dX9_findRings_37 : decode cX9_findRings 37 = .ok (.aload_n 0, 1) := by decide +kernel
theorem dX9_findRings_38 : decode cX9_findRings 38 = .ok (.getfield 79, 3) := by decide +kernel
theorem dX9_findRings_41 : decode cX9_findRings 41 = .ok (.if_icmp .ge 96, 3) := by decide +kernel
theorem dX9_findRings_44 : decode cX9_findRings 44 = .ok (.aload_n 0, 1) := by decide +kernel
theorem dX9_findRings_45 : decode cX9_findRings 45 = .ok (.iload_n 3, 1) := by decide +kernel
theorem dX9_findRings_46 : decode cX9_findRings 46 = .ok (.iload 4, 2) := by decide +kernel
theorem dX9_findRings_48 : decode cX9_findRings 48 = .ok (.invokevirtual 128, 3) := by decide +kernel
theorem dX9_findRings_51 : decode cX9_findRings 51 = .ok (.ifCond .eq 80, 3) := by decide +kernel
theorem dX9_findRings_54 : decode cX9_findRings 54 = .ok (.aload_n 0, 1) := by decide +kernel
theorem dX9_findRings_55 : decode cX9_findRings 55 = .ok (.iload 4, 2) := by decide +kernel
theorem dX9_findRings_57 : decode cX9_findRings 57 = .ok (.iload 5, 2) := by decide +kernel
theorem dX9_findRings_59 : decode cX9_findRings 59 = .ok (.invokevirtual 128, 3) := by decide +kernel
theorem dX9_findRings_62 : decode cX9_findRings 62 = .ok (.ifCond .eq 69, 3) := by decide +kernel
theorem dX9_findRings_65 : decode cX9_findRings 65 = .ok (.aload_n 0, 1) := by decide +kernel
theorem dX9_findRings_66 : decode cX9_findRings 66 = .ok (.iload 5, 2) := by decide +kernel
theorem dX9_findRings_68 : decode cX9_findRings 68 = .ok (.iload_n 3, 1) := by decide +kernel
theorem dX9_findRings_69 : decode cX9_findRings 69 = .ok (.invokevirtual 128, 3) := by decide +kernel
theorem dX9_findRings_72 : decode cX9_findRings 72 = .ok (.ifCond .eq 59, 3) := by decide +kernel
theorem dX9_findRings_75 : decode cX9_findRings 75 = .ok (.aload_n 0, 1) := by decide +kernel
theorem dX9_findRings_76 : decode cX9_findRings 76 = .ok (.iload_n 2, 1) := by decide +kernel
theorem dX9_findRings_77 : decode cX9_findRings 77 = .ok (.iload_n 1, 1) := by decide +kernel
theorem dX9_findRings_78 : decode cX9_findRings 78 = .ok (.if_icmp .ne 7, 3) := by decide +kernel
theorem dX9_findRings_81 : decode cX9_findRings 81 = .ok (.iload_n 3, 1) := by decide +kernel
theorem dX9_findRings_82 : decode cX9_findRings 82 = .ok (.goto 7, 3) := by decide +kernel
theorem dX9_findRings_85 : decode cX9_findRings 85 = .ok (.aload_n 0, 1) := by decide +kernel
theorem dX9_findRings_86 : decode cX9_findRings 86 = .ok (.getfield 131, 3) := by decide +kernel
theorem dX9_findRings_89 : decode cX9_findRings 89 = .ok (.putfield 131, 3) := by decide +kernel
theorem dX9_findRings_92 : decode cX9_findRings 92 = .ok (.aload_n 0, 1) := by decide +kernel
theorem dX9_findRings_93 : decode cX9_findRings 93 = .ok (.iload_n 2, 1) := by decide +kernel
theorem dX9_findRings_94 : decode cX9_findRings 94 = .ok (.iload_n 1, 1) := by decide +kernel
theorem dX9_findRings_95 : decode cX9_findRings 95 = .ok (.if_icmp .ne 8, 3) := by decide +kernel
theorem dX9_findRings_98 : decode cX9_findRings 98 = .ok (.iload 4, 2) := by decide +kernel
theorem dX9_findRings_100 : decode cX9_findRings 100 = .ok (.goto 7, 3) := by decide +kernel
theorem dX9_findRings_103 : decode cX9_findRings 103 = .ok (.aload_n 0, 1) := by decide +kernel
theorem dX9_findRings_104 : decode cX9_findRings 104 = .ok (.getfield 134, 3) := by decide +kernel
theorem dX9_findRings_107 : decode cX9_findRings 107 = .ok (.putfield 134, 3) := by decide +kernel
theorem dX9_findRings_110 : decode cX9_findRings 110 = .ok (.aload_n 0, 1) := by decide +kernel
theorem dX9_findRings_111 : decode cX9_findRings 111 = .ok (.iload_n 2, 1) := by decide +kernel
theorem dX9_findRings_112 : decode cX9_findRings 112 = .ok (.iload_n 1, 1) := by decide +kernel
theorem dX9_findRings_113 : decode cX9_findRings 113 = .ok (.if_icmp .ne 8, 3) := by decide +kernel
theorem dX9_findRings_116 : decode cX9_findRings 116 = .ok (.iload 5, 2) := by decide +kernel
theorem dX9_findRings_118 : decode cX9_findRings 118 = .ok (.goto 7, 3) := by decide +kernel
theorem dX9_findRings_121 : decode cX9_findRings 121 = .ok (.aload_n 0, 1) := by decide +kernel
theorem dX9_findRings_122 : decode cX9_findRings 122 = .ok (.getfield 137, 3) := by decide +kernel
theorem dX9_findRings_125 : decode cX9_findRings 125 = .ok (.putfield 137, 3) := by decide +kernel
theorem dX9_findRings_128 : decode cX9_findRings 128 = .ok (.iinc 2 1, 3) := by decide +kernel
theorem dX9_findRings_131 : decode cX9_findRings 131 = .ok (.iinc 5 1, 3) := by decide +kernel
theorem dX9_findRings_134 : decode cX9_findRings 134 = .ok (.goto (-99), 3) := by decide +kernel
theorem dX9_findRings_137 : decode cX9_findRings 137 = .ok (.iinc 4 1, 3) := by decide +kernel
theorem dX9_findRings_140 : decode cX9_findRings 140 = .ok (.goto (-119), 3) := by decide +kernel
theorem dX9_findRings_143 : decode cX9_findRings 143 = .ok (.iinc 3 1, 3) := by decide +kernel
theorem dX9_findRings_146 : decode cX9_findRings 146 = .ok (.goto (-138), 3) := by decide +kernel
theorem dX9_findRings_149 : decode cX9_findRings 149 = .ok (.iload_n 2, 1) := by decide +kernel
theorem dX9_findRings_150 : decode cX9_findRings 150 = .ok (.ireturn, 1) := by decide +kernel
theorem dX9_rings_0 : decode cX9_rings 0 = .ok (.aload_n 0, 1) := by decide +kernel
theorem dX9_rings_1 : decode cX9_rings 1 = .ok (.iconst (-1), 1) := by decide +kernel
theorem dX9_rings_2 : decode cX9_rings 2 = .ok (.invokevirtual 140, 3) := by decide +kernel
theorem dX9_rings_5 : decode cX9_rings 5 = .ok (.ireturn, 1) := by decide +kernel
theorem dX9_ring_0 : decode cX9_ring 0 = .ok (.iload_n 2, 1) := by decide +kernel
theorem dX9_ring_1 : decode cX9_ring 1 = .ok (.iconst 0, 1) := by decide +kernel
theorem dX9_ring_2 : decode cX9_ring 2 = .ok (.iconst 2, 1) := by decide +kernel
theorem dX9_ring_3 : decode cX9_ring 3 = .ok (.invokestatic 75, 3) := by decide +kernel
theorem dX9_ring_6 : decode cX9_ring 6 = .ok (.ifCond .eq 16, 3) := by decide +kernel
theorem dX9_ring_9 : decode cX9_ring 9 = .ok (.iload_n 1, 1) := by decide +kernel
theorem dX9_ring_10 : decode cX9_ring 10 = .ok (.ifCond .lt 12, 3) := by decide +kernel
theorem dX9_ring_13 : decode cX9_ring 13 = .ok (.aload_n 0, 1) := by decide +kernel
theorem dX9_ring_14 : decode cX9_ring 14 = .ok (.iload_n 1, 1) := by decide +kernel
theorem dX9_ring_15 : decode cX9_ring 15 = .ok (.invokevirtual 140, 3) := by decide +kernel
theorem dX9_ring_18 : decode cX9_ring 18 = .ok (.iload_n 1, 1) := by decide +kernel
theorem dX9_ring_19 : decode cX9_ring 19 = .ok (.if_icmp .gt 6, 3) := by decide +kernel
theorem dX9_ring_22 : decode cX9_ring 22 = .ok (.bipush (-2), 2) := by decide +kernel
theorem dX9_ring_24 : decode cX9_ring 24 = .ok (.ireturn, 1) := by decide +kernel
theorem dX9_ring_25 : decode cX9_ring 25 = .ok (.iload_n 2, 1) := by decide +kernel
theorem dX9_ring_26 : decode cX9_ring 26 = .ok (.ifCond .ne 10, 3) := by decide +kernel
theorem dX9_ring_29 : decode cX9_ring 29 = .ok (.aload_n 0, 1) := by decide +kernel
theorem dX9_ring_30 : decode cX9_ring 30 = .ok (.getfield 131, 3) := by decide +kernel
theorem dX9_ring_33 : decode cX9_ring 33 = .ok (.goto 19, 3) := by decide +kernel
theorem dX9_ring_36 : decode cX9_ring 36 = .ok (.iload_n 2, 1) := by decide +kernel
theorem dX9_ring_37 : decode cX9_ring 37 = .ok (.iconst 1, 1) := by decide +kernel
theorem dX9_ring_38 : decode cX9_ring 38 = .ok (.if_icmp .ne 10, 3) := by decide +kernel
theorem dX9_ring_41 : decode cX9_ring 41 = .ok (.aload_n 0, 1) := by decide +kernel
theorem dX9_ring_42 : decode cX9_ring 42 = .ok (.getfield 134, 3) := by decide +kernel
theorem dX9_ring_45 : decode cX9_ring 45 = .ok (.goto 7, 3) := by decide +kernel
theorem dX9_ring_48 : decode cX9_ring 48 = .ok (.aload_n 0, 1) := by decide +kernel
theorem dX9_ring_49 : decode cX9_ring 49 = .ok (.getfield 137, 3) := by decide +kernel
theorem dX9_ring_52 : decode cX9_ring 52 = .ok (.ireturn, 1) := by decide +kernel
theorem dX9_divisor_0 : decode cX9_divisor 0 = .ok (.lload_n 0, 1) := by decide +kernel
theorem dX9_divisor_1 : decode cX9_divisor 1 = .ok (.lconst 0, 1) := by decide +kernel
theorem dX9_divisor_2 : decode cX9_divisor 2 = .ok (.lcmp, 1) := by decide +kernel
theorem dX9_divisor_3 : decode cX9_divisor 3 = .ok (.ifCond .ge 8, 3) := by decide +kernel
theorem dX9_divisor_6 : decode cX9_divisor 6 = .ok (.lload_n 0, 1) := by decide +kernel
theorem dX9_divisor_7 : decode cX9_divisor 7 = .ok (.lneg, 1) := by decide +kernel
theorem dX9_divisor_8 : decode cX9_divisor 8 = .ok (.goto 4, 3) := by decide +kernel
theorem dX9_divisor_11 : decode cX9_divisor 11 = .ok (.lload_n 0, 1) := by decide +kernel
theorem dX9_divisor_12 : decode cX9_divisor 12 = .ok (.lstore 4, 2) := by decide +kernel
theorem dX9_divisor_14 : decode cX9_divisor 14 = .ok (.lload_n 2, 1) := by decide +kernel
theorem dX9_divisor_15 : decode cX9_divisor 15 = .ok (.lconst 0, 1) := by decide +kernel
theorem dX9_divisor_16 : decode cX9_divisor 16 = .ok (.lcmp, 1) := by decide +kernel
theorem dX9_divisor_17 : decode cX9_divisor 17 = .ok (.ifCond .ge 8, 3) := by decide +kernel
theorem dX9_divisor_20 : decode cX9_divisor 20 = .ok (.lload_n 2, 1) := by decide +kernel
theorem dX9_divisor_21 : decode cX9_divisor 21 = .ok (.lneg, 1) := by decide +kernel
theorem dX9_divisor_22 : decode cX9_divisor 22 = .ok (.goto 4, 3) := by decide +kernel
theorem dX9_divisor_25 : decode cX9_divisor 25 = .ok (.lload_n 2, 1) := by decide +kernel
theorem dX9_divisor_26 : decode cX9_divisor 26 = .ok (.lstore 6, 2) := by decide +kernel
theorem dX9_divisor_28 : decode cX9_divisor 28 = .ok (.lload 6, 2) := by decide +kernel
theorem dX9_divisor_30 : decode cX9_divisor 30 = .ok (.lconst 0, 1) := by decide +kernel
theorem dX9_divisor_31 : decode cX9_divisor 31 = .ok (.lcmp, 1) := by decide +kernel
theorem dX9_divisor_32 : decode cX9_divisor 32 = .ok (.ifCond .eq 21, 3) := by decide +kernel
theorem dX9_divisor_35 : decode cX9_divisor 35 = .ok (.lload 4, 2) := by decide +kernel
theorem dX9_divisor_37 : decode cX9_divisor 37 = .ok (.lload 6, 2) := by decide +kernel
theorem dX9_divisor_39 : decode cX9_divisor 39 = .ok (.lrem, 1) := by decide +kernel
theorem dX9_divisor_40 : decode cX9_divisor 40 = .ok (.lstore 8, 2) := by decide +kernel
theorem dX9_divisor_42 : decode cX9_divisor 42 = .ok (.lload 6, 2) := by decide +kernel
theorem dX9_divisor_44 : decode cX9_divisor 44 = .ok (.lstore 4, 2) := by decide +kernel
theorem dX9_divisor_46 : decode cX9_divisor 46 = .ok (.lload 8, 2) := by decide +kernel
theorem dX9_divisor_48 : decode cX9_divisor 48 = .ok (.lstore 6, 2) := by decide +kernel
theorem dX9_divisor_50 : decode cX9_divisor 50 = .ok (.goto (-22), 3) := by decide +kernel
theorem dX9_divisor_53 : decode cX9_divisor 53 = .ok (.lload 4, 2) := by decide +kernel
theorem dX9_divisor_55 : decode cX9_divisor 55 = .ok (.lreturn, 1) := by decide +kernel
theorem dX9_layBounds_0 : decode cX9_layBounds 0 = .ok (.iconst 0, 1) := by decide +kernel
theorem dX9_layBounds_1 : decode cX9_layBounds 1 = .ok (.istore_n 2, 1) := by decide +kernel
theorem dX9_layBounds_2 : decode cX9_layBounds 2 = .ok (.iload_n 2, 1) := by decide +kernel
theorem dX9_layBounds_3 : decode cX9_layBounds 3 = .ok (.aload_n 0, 1) := by decide +kernel
theorem dX9_layBounds_4 : decode cX9_layBounds 4 = .ok (.getfield 79, 3) := by decide +kernel
theorem dX9_layBounds_7 : decode cX9_layBounds 7 = .ok (.if_icmp .ge 16, 3) := by decide +kernel
theorem dX9_layBounds_10 : decode cX9_layBounds 10 = .ok (.aload_n 0, 1) := by decide +kernel
theorem dX9_layBounds_11 : decode cX9_layBounds 11 = .ok (.getfield 53, 3) := by decide +kernel
theorem dX9_layBounds_14 : decode cX9_layBounds 14 = .ok (.iload_n 2, 1) := by decide +kernel
theorem dX9_layBounds_15 : decode cX9_layBounds 15 = .ok (.lconst 1, 1) := by decide +kernel
theorem dX9_layBounds_16 : decode cX9_layBounds 16 = .ok (.lastore, 1) := by decide +kernel
theorem dX9_layBounds_17 : decode cX9_layBounds 17 = .ok (.iinc 2 1, 3) := by decide +kernel
theorem dX9_layBounds_20 : decode cX9_layBounds 20 = .ok (.goto (-18), 3) := by decide +kernel
theorem dX9_layBounds_23 : decode cX9_layBounds 23 = .ok (.aload_n 0, 1) := by decide +kernel
theorem dX9_layBounds_24 : decode cX9_layBounds 24 = .ok (.getfield 53, 3) := by decide +kernel
theorem dX9_layBounds_27 : decode cX9_layBounds 27 = .ok (.iconst 5, 1) := by decide +kernel
theorem dX9_layBounds_28 : decode cX9_layBounds 28 = .ok (.lconst 1, 1) := by decide +kernel
theorem dX9_layBounds_29 : decode cX9_layBounds 29 = .ok (.lastore, 1) := by decide +kernel
theorem dX9_layBounds_30 : decode cX9_layBounds 30 = .ok (.iconst 1, 1) := by decide +kernel
theorem dX9_layBounds_31 : decode cX9_layBounds 31 = .ok (.istore_n 2, 1) := by decide +kernel
theorem dX9_layBounds_32 : decode cX9_layBounds 32 = .ok (.iconst 0, 1) := by decide +kernel
theorem dX9_layBounds_33 : decode cX9_layBounds 33 = .ok (.istore_n 3, 1) := by decide +kernel
theorem dX9_layBounds_34 : decode cX9_layBounds 34 = .ok (.iload_n 3, 1) := by decide +kernel
theorem dX9_layBounds_35 : decode cX9_layBounds 35 = .ok (.iconst 2, 1) := by decide +kernel
theorem dX9_layBounds_36 : decode cX9_layBounds 36 = .ok (.aload_n 0, 1) := by decide +kernel
theorem dX9_layBounds_37 : decode cX9_layBounds 37 = .ok (.getfield 79, 3) := by decide +kernel
theorem dX9_layBounds_40 : decode cX9_layBounds 40 = .ok (.imul, 1) := by decide +kernel
theorem dX9_layBounds_41 : decode cX9_layBounds 41 = .ok (.if_icmp .ge 102, 3) := by decide +kernel
theorem dX9_layBounds_44 : decode cX9_layBounds 44 = .ok (.iload_n 1, 1) := by decide +kernel
theorem dX9_layBounds_45 : decode cX9_layBounds 45 = .ok (.iload_n 3, 1) := by decide +kernel
theorem dX9_layBounds_46 : decode cX9_layBounds 46 = .ok (.ishr, 1) := by decide +kernel
theorem dX9_layBounds_47 : decode cX9_layBounds 47 = .ok (.iconst 1, 1) := by decide +kernel
theorem dX9_layBounds_48 : decode cX9_layBounds 48 = .ok (.iand, 1) := by decide +kernel
theorem dX9_layBounds_49 : decode cX9_layBounds 49 = .ok (.iconst 1, 1) := by decide +kernel
theorem dX9_layBounds_50 : decode cX9_layBounds 50 = .ok (.if_icmp .ne 87, 3) := by decide +kernel
theorem dX9_layBounds_53 : decode cX9_layBounds 53 = .ok (.iconst 0, 1) := by decide +kernel
theorem dX9_layBounds_54 : decode cX9_layBounds 54 = .ok (.istore 4, 2) := by decide +kernel
theorem dX9_layBounds_56 : decode cX9_layBounds 56 = .ok (.iload 4, 2) := by decide +kernel
theorem dX9_layBounds_58 : decode cX9_layBounds 58 = .ok (.aload_n 0, 1) := by decide +kernel
theorem dX9_layBounds_59 : decode cX9_layBounds 59 = .ok (.getfield 79, 3) := by decide +kernel
theorem dX9_layBounds_62 : decode cX9_layBounds 62 = .ok (.if_icmp .ge 60, 3) := by decide +kernel
theorem dX9_layBounds_65 : decode cX9_layBounds 65 = .ok (.aload_n 0, 1) := by decide +kernel
theorem dX9_layBounds_66 : decode cX9_layBounds 66 = .ok (.getfield 53, 3) := by decide +kernel
theorem dX9_layBounds_69 : decode cX9_layBounds 69 = .ok (.bipush 6, 2) := by decide +kernel
theorem dX9_layBounds_71 : decode cX9_layBounds 71 = .ok (.iload_n 2, 1) := by decide +kernel
theorem dX9_layBounds_72 : decode cX9_layBounds 72 = .ok (.imul, 1) := by decide +kernel
theorem dX9_layBounds_73 : decode cX9_layBounds 73 = .ok (.iload 4, 2) := by decide +kernel
theorem dX9_layBounds_75 : decode cX9_layBounds 75 = .ok (.iadd, 1) := by decide +kernel
theorem dX9_layBounds_76 : decode cX9_layBounds 76 = .ok (.iload_n 3, 1) := by decide +kernel
theorem dX9_layBounds_77 : decode cX9_layBounds 77 = .ok (.aload_n 0, 1) := by decide +kernel
theorem dX9_layBounds_78 : decode cX9_layBounds 78 = .ok (.getfield 79, 3) := by decide +kernel
theorem dX9_layBounds_81 : decode cX9_layBounds 81 = .ok (.if_icmp .ge 17, 3) := by decide +kernel
theorem dX9_layBounds_84 : decode cX9_layBounds 84 = .ok (.iload_n 3, 1) := by decide +kernel
theorem dX9_layBounds_85 : decode cX9_layBounds 85 = .ok (.iload 4, 2) := by decide +kernel
theorem dX9_layBounds_87 : decode cX9_layBounds 87 = .ok (.if_icmp .ne 7, 3) := by decide +kernel
theorem dX9_layBounds_90 : decode cX9_layBounds 90 = .ok (.lconst 1, 1) := by decide +kernel
theorem dX9_layBounds_91 : decode cX9_layBounds 91 = .ok (.goto 24, 3) := by decide +kernel
theorem dX9_layBounds_94 : decode cX9_layBounds 94 = .ok (.lconst 0, 1) := by decide +kernel
theorem dX9_layBounds_95 : decode cX9_layBounds 95 = .ok (.goto 20, 3) := by decide +kernel
theorem dX9_layBounds_98 : decode cX9_layBounds 98 = .ok (.aload_n 0, 1) := by decide +kernel
theorem dX9_layBounds_99 : decode cX9_layBounds 99 = .ok (.getfield 50, 3) := by decide +kernel
theorem dX9_layBounds_102 : decode cX9_layBounds 102 = .ok (.iconst 5, 1) := by decide +kernel
theorem dX9_layBounds_103 : decode cX9_layBounds 103 = .ok (.iload 4, 2) := by decide +kernel
theorem dX9_layBounds_105 : decode cX9_layBounds 105 = .ok (.imul, 1) := by decide +kernel
theorem dX9_layBounds_106 : decode cX9_layBounds 106 = .ok (.iload_n 3, 1) := by decide +kernel
theorem dX9_layBounds_107 : decode cX9_layBounds 107 = .ok (.iadd, 1) := by decide +kernel
theorem dX9_layBounds_108 : decode cX9_layBounds 108 = .ok (.aload_n 0, 1) := by decide +kernel
theorem dX9_layBounds_109 : decode cX9_layBounds 109 = .ok (.getfield 79, 3) := by decide +kernel
theorem dX9_layBounds_112 : decode cX9_layBounds 112 = .ok (.isub, 1) := by decide +kernel
theorem dX9_layBounds_113 : decode cX9_layBounds 113 = .ok (.iaload, 1) := by decide +kernel
theorem dX9_layBounds_114 : decode cX9_layBounds 114 = .ok (.i2l, 1) := by decide +kernel
theorem dX9_layBounds_115 : decode cX9_layBounds 115 = .ok (.lastore, 1) := by decide +kernel
theorem dX9_layBounds_116 : decode cX9_layBounds 116 = .ok (.iinc 4 1, 3) := by decide +kernel
theorem dX9_layBounds_119 : decode cX9_layBounds 119 = .ok (.goto (-63), 3) := by decide +kernel
theorem dX9_layBounds_122 : decode cX9_layBounds 122 = .ok (.aload_n 0, 1) := by decide +kernel
theorem dX9_layBounds_123 : decode cX9_layBounds 123 = .ok (.getfield 53, 3) := by decide +kernel
theorem dX9_layBounds_126 : decode cX9_layBounds 126 = .ok (.bipush 6, 2) := by decide +kernel
theorem dX9_layBounds_128 : decode cX9_layBounds 128 = .ok (.iload_n 2, 1) := by decide +kernel
theorem dX9_layBounds_129 : decode cX9_layBounds 129 = .ok (.imul, 1) := by decide +kernel
theorem dX9_layBounds_130 : decode cX9_layBounds 130 = .ok (.iconst 5, 1) := by decide +kernel
theorem dX9_layBounds_131 : decode cX9_layBounds 131 = .ok (.iadd, 1) := by decide +kernel
theorem dX9_layBounds_132 : decode cX9_layBounds 132 = .ok (.lconst 0, 1) := by decide +kernel
theorem dX9_layBounds_133 : decode cX9_layBounds 133 = .ok (.lastore, 1) := by decide +kernel
theorem dX9_layBounds_134 : decode cX9_layBounds 134 = .ok (.iinc 2 1, 3) := by decide +kernel
theorem dX9_layBounds_137 : decode cX9_layBounds 137 = .ok (.iinc 3 1, 3) := by decide +kernel
theorem dX9_layBounds_140 : decode cX9_layBounds 140 = .ok (.goto (-106), 3) := by decide +kernel
theorem dX9_layBounds_143 : decode cX9_layBounds 143 = .ok (.return_, 1) := by decide +kernel
theorem dX9_changeRows_0 : decode cX9_changeRows 0 = .ok (.iconst 0, 1) := by decide +kernel
theorem dX9_changeRows_1 : decode cX9_changeRows 1 = .ok (.istore_n 3, 1) := by decide +kernel
theorem dX9_changeRows_2 : decode cX9_changeRows 2 = .ok (.iload_n 3, 1) := by decide +kernel
theorem dX9_changeRows_3 : decode cX9_changeRows 3 = .ok (.bipush 6, 2) := by decide +kernel
theorem dX9_changeRows_5 : decode cX9_changeRows 5 = .ok (.if_icmp .ge 57, 3) := by decide +kernel
theorem dX9_changeRows_8 : decode cX9_changeRows 8 = .ok (.aload_n 0, 1) := by decide +kernel
theorem dX9_changeRows_9 : decode cX9_changeRows 9 = .ok (.getfield 53, 3) := by decide +kernel
theorem dX9_changeRows_12 : decode cX9_changeRows 12 = .ok (.bipush 6, 2) := by decide +kernel
theorem dX9_changeRows_14 : decode cX9_changeRows 14 = .ok (.iload_n 1, 1) := by decide +kernel
theorem dX9_changeRows_15 : decode cX9_changeRows 15 = .ok (.imul, 1) := by decide +kernel
theorem dX9_changeRows_16 : decode cX9_changeRows 16 = .ok (.iload_n 3, 1) := by decide +kernel
theorem dX9_changeRows_17 : decode cX9_changeRows 17 = .ok (.iadd, 1) := by decide +kernel
theorem dX9_changeRows_18 : decode cX9_changeRows 18 = .ok (.laload, 1) := by decide +kernel
theorem dX9_changeRows_19 : decode cX9_changeRows 19 = .ok (.lstore 4, 2) := by decide +kernel
theorem dX9_changeRows_21 : decode cX9_changeRows 21 = .ok (.aload_n 0, 1) := by decide +kernel
theorem dX9_changeRows_22 : decode cX9_changeRows 22 = .ok (.getfield 53, 3) := by decide +kernel
theorem dX9_changeRows_25 : decode cX9_changeRows 25 = .ok (.bipush 6, 2) := by decide +kernel
theorem dX9_changeRows_27 : decode cX9_changeRows 27 = .ok (.iload_n 1, 1) := by decide +kernel
theorem dX9_changeRows_28 : decode cX9_changeRows 28 = .ok (.imul, 1) := by decide +kernel
theorem dX9_changeRows_29 : decode cX9_changeRows 29 = .ok (.iload_n 3, 1) := by decide +kernel
theorem dX9_changeRows_30 : decode cX9_changeRows 30 = .ok (.iadd, 1) := by decide +kernel
theorem dX9_changeRows_31 : decode cX9_changeRows 31 = .ok (.aload_n 0, 1) := by decide +kernel
theorem dX9_changeRows_32 : decode cX9_changeRows 32 = .ok (.getfield 53, 3) := by decide +kernel
theorem dX9_changeRows_35 : decode cX9_changeRows 35 = .ok (.bipush 6, 2) := by decide +kernel
theorem dX9_changeRows_37 : decode cX9_changeRows 37 = .ok (.iload_n 2, 1) := by decide +kernel
theorem dX9_changeRows_38 : decode cX9_changeRows 38 = .ok (.imul, 1) := by decide +kernel
theorem dX9_changeRows_39 : decode cX9_changeRows 39 = .ok (.iload_n 3, 1) := by decide +kernel
theorem dX9_changeRows_40 : decode cX9_changeRows 40 = .ok (.iadd, 1) := by decide +kernel
theorem dX9_changeRows_41 : decode cX9_changeRows 41 = .ok (.laload, 1) := by decide +kernel
theorem dX9_changeRows_42 : decode cX9_changeRows 42 = .ok (.lastore, 1) := by decide +kernel
theorem dX9_changeRows_43 : decode cX9_changeRows 43 = .ok (.aload_n 0, 1) := by decide +kernel
theorem dX9_changeRows_44 : decode cX9_changeRows 44 = .ok (.getfield 53, 3) := by decide +kernel
theorem dX9_changeRows_47 : decode cX9_changeRows 47 = .ok (.bipush 6, 2) := by decide +kernel
theorem dX9_changeRows_49 : decode cX9_changeRows 49 = .ok (.iload_n 2, 1) := by decide +kernel
theorem dX9_changeRows_50 : decode cX9_changeRows 50 = .ok (.imul, 1) := by decide +kernel
theorem dX9_changeRows_51 : decode cX9_changeRows 51 = .ok (.iload_n 3, 1) := by decide +kernel
theorem dX9_changeRows_52 : decode cX9_changeRows 52 = .ok (.iadd, 1) := by decide +kernel
theorem dX9_changeRows_53 : decode cX9_changeRows 53 = .ok (.lload 4, 2) := by decide +kernel
theorem dX9_changeRows_55 : decode cX9_changeRows 55 = .ok (.lastore, 1) := by decide +kernel
theorem dX9_changeRows_56 : decode cX9_changeRows 56 = .ok (.iinc 3 1, 3) := by decide +kernel
theorem dX9_changeRows_59 : decode cX9_changeRows 59 = .ok (.goto (-57), 3) := by decide +kernel
theorem dX9_changeRows_62 : decode cX9_changeRows 62 = .ok (.return_, 1) := by decide +kernel
theorem dX9_clearRow_0 : decode cX9_clearRow 0 = .ok (.aload_n 0, 1) := by decide +kernel
theorem dX9_clearRow_1 : decode cX9_clearRow 1 = .ok (.getfield 53, 3) := by decide +kernel
theorem dX9_clearRow_4 : decode cX9_clearRow 4 = .ok (.bipush 6, 2) := by decide +kernel
theorem dX9_clearRow_6 : decode cX9_clearRow 6 = .ok (.iload_n 2, 1) := by decide +kernel
theorem dX9_clearRow_7 : decode cX9_clearRow 7 = .ok (.imul, 1) := by decide +kernel
theorem dX9_clearRow_8 : decode cX9_clearRow 8 = .ok (.iload_n 3, 1) := by decide +kernel
theorem dX9_clearRow_9 : decode cX9_clearRow 9 = .ok (.iadd, 1) := by decide +kernel
theorem dX9_clearRow_10 : decode cX9_clearRow 10 = .ok (.laload, 1) := by decide +kernel
theorem dX9_clearRow_11 : decode cX9_clearRow 11 = .ok (.lstore 4, 2) := by decide +kernel
theorem dX9_clearRow_13 : decode cX9_clearRow 13 = .ok (.aload_n 0, 1) := by decide +kernel
theorem dX9_clearRow_14 : decode cX9_clearRow 14 = .ok (.getfield 53, 3) := by decide +kernel
theorem dX9_clearRow_17 : decode cX9_clearRow 17 = .ok (.bipush 6, 2) := by decide +kernel
theorem dX9_clearRow_19 : decode cX9_clearRow 19 = .ok (.iload_n 1, 1) := by decide +kernel
theorem dX9_clearRow_20 : decode cX9_clearRow 20 = .ok (.imul, 1) := by decide +kernel
theorem dX9_clearRow_21 : decode cX9_clearRow 21 = .ok (.iload_n 3, 1) := by decide +kernel
theorem dX9_clearRow_22 : decode cX9_clearRow 22 = .ok (.iadd, 1) := by decide +kernel
theorem dX9_clearRow_23 : decode cX9_clearRow 23 = .ok (.laload, 1) := by decide +kernel
theorem dX9_clearRow_24 : decode cX9_clearRow 24 = .ok (.lstore 6, 2) := by decide +kernel
theorem dX9_clearRow_26 : decode cX9_clearRow 26 = .ok (.lconst 0, 1) := by decide +kernel
theorem dX9_clearRow_27 : decode cX9_clearRow 27 = .ok (.lstore 8, 2) := by decide +kernel
theorem dX9_clearRow_29 : decode cX9_clearRow 29 = .ok (.iconst 0, 1) := by decide +kernel
theorem dX9_clearRow_30 : decode cX9_clearRow 30 = .ok (.istore 10, 2) := by decide +kernel
theorem dX9_clearRow_32 : decode cX9_clearRow 32 = .ok (.iload 10, 2) := by decide +kernel
theorem dX9_clearRow_34 : decode cX9_clearRow 34 = .ok (.bipush 6, 2) := by decide +kernel
theorem dX9_clearRow_36 : decode cX9_clearRow 36 = .ok (.if_icmp .ge 86, 3) := by decide +kernel
theorem dX9_clearRow_39 : decode cX9_clearRow 39 = .ok (.iload 10, 2) := by decide +kernel
theorem dX9_clearRow_41 : decode cX9_clearRow 41 = .ok (.aload_n 0, 1) := by decide +kernel
theorem dX9_clearRow_42 : decode cX9_clearRow 42 = .ok (.getfield 79, 3) := by decide +kernel
theorem dX9_clearRow_45 : decode cX9_clearRow 45 = .ok (.if_icmp .lt 9, 3) := by decide +kernel
theorem dX9_clearRow_48 : decode cX9_clearRow 48 = .ok (.iload 10, 2) := by decide +kernel
theorem dX9_clearRow_50 : decode cX9_clearRow 50 = .ok (.iconst 5, 1) := by decide +kernel
theorem dX9_clearRow_51 : decode cX9_clearRow 51 = .ok (.if_icmp .ne 65, 3) := by decide +kernel
theorem dX9_clearRow_54 : decode cX9_clearRow 54 = .ok (.aload_n 0, 1) := by decide +kernel
theorem dX9_clearRow_55 : decode cX9_clearRow 55 = .ok (.getfield 53, 3) := by decide +kernel
theorem dX9_clearRow_58 : decode cX9_clearRow 58 = .ok (.bipush 6, 2) := by decide +kernel
theorem dX9_clearRow_60 : decode cX9_clearRow 60 = .ok (.iload_n 1, 1) := by decide +kernel
theorem dX9_clearRow_61 : decode cX9_clearRow 61 = .ok (.imul, 1) := by decide +kernel
theorem dX9_clearRow_62 : decode cX9_clearRow 62 = .ok (.iload 10, 2) := by decide +kernel
theorem dX9_clearRow_64 : decode cX9_clearRow 64 = .ok (.iadd, 1) := by decide +kernel
theorem dX9_clearRow_65 : decode cX9_clearRow 65 = .ok (.aload_n 0, 1) := by decide +kernel
theorem dX9_clearRow_66 : decode cX9_clearRow 66 = .ok (.getfield 53, 3) := by decide +kernel
theorem dX9_clearRow_69 : decode cX9_clearRow 69 = .ok (.bipush 6, 2) := by decide +kernel
theorem dX9_clearRow_71 : decode cX9_clearRow 71 = .ok (.iload_n 1, 1) := by decide +kernel
theorem dX9_clearRow_72 : decode cX9_clearRow 72 = .ok (.imul, 1) := by decide +kernel
theorem dX9_clearRow_73 : decode cX9_clearRow 73 = .ok (.iload 10, 2) := by decide +kernel
theorem dX9_clearRow_75 : decode cX9_clearRow 75 = .ok (.iadd, 1) := by decide +kernel
theorem dX9_clearRow_76 : decode cX9_clearRow 76 = .ok (.laload, 1) := by decide +kernel
theorem dX9_clearRow_77 : decode cX9_clearRow 77 = .ok (.lload 4, 2) := by decide +kernel
theorem dX9_clearRow_79 : decode cX9_clearRow 79 = .ok (.lmul, 1) := by decide +kernel
theorem dX9_clearRow_80 : decode cX9_clearRow 80 = .ok (.aload_n 0, 1) := by decide +kernel
theorem dX9_clearRow_81 : decode cX9_clearRow 81 = .ok (.getfield 53, 3) := by decide +kernel
theorem dX9_clearRow_84 : decode cX9_clearRow 84 = .ok (.bipush 6, 2) := by decide +kernel
theorem dX9_clearRow_86 : decode cX9_clearRow 86 = .ok (.iload_n 2, 1) := by decide +kernel
theorem dX9_clearRow_87 : decode cX9_clearRow 87 = .ok (.imul, 1) := by decide +kernel
theorem dX9_clearRow_88 : decode cX9_clearRow 88 = .ok (.iload 10, 2) := by decide +kernel
theorem dX9_clearRow_90 : decode cX9_clearRow 90 = .ok (.iadd, 1) := by decide +kernel
theorem dX9_clearRow_91 : decode cX9_clearRow 91 = .ok (.laload, 1) := by decide +kernel
theorem dX9_clearRow_92 : decode cX9_clearRow 92 = .ok (.lload 6, 2) := by decide +kernel
theorem dX9_clearRow_94 : decode cX9_clearRow 94 = .ok (.lmul, 1) := by decide +kernel
theorem dX9_clearRow_95 : decode cX9_clearRow 95 = .ok (.lsub, 1) := by decide +kernel
theorem dX9_clearRow_96 : decode cX9_clearRow 96 = .ok (.lastore, 1) := by decide +kernel
theorem dX9_clearRow_97 : decode cX9_clearRow 97 = .ok (.lload 8, 2) := by decide +kernel
theorem dX9_clearRow_99 : decode cX9_clearRow 99 = .ok (.aload_n 0, 1) := by decide +kernel
theorem dX9_clearRow_100 : decode cX9_clearRow 100 = .ok (.getfield 53, 3) := by decide +kernel
theorem dX9_clearRow_103 : decode cX9_clearRow 103 = .ok (.bipush 6, 2) := by decide +kernel
theorem dX9_clearRow_105 : decode cX9_clearRow 105 = .ok (.iload_n 1, 1) := by decide +kernel
theorem dX9_clearRow_106 : decode cX9_clearRow 106 = .ok (.imul, 1) := by decide +kernel
theorem dX9_clearRow_107 : decode cX9_clearRow 107 = .ok (.iload 10, 2) := by decide +kernel
theorem dX9_clearRow_109 : decode cX9_clearRow 109 = .ok (.iadd, 1) := by decide +kernel
theorem dX9_clearRow_110 : decode cX9_clearRow 110 = .ok (.laload, 1) := by decide +kernel
theorem dX9_clearRow_111 : decode cX9_clearRow 111 = .ok (.invokestatic 144, 3) := by decide +kernel
theorem dX9_clearRow_114 : decode cX9_clearRow 114 = .ok (.lstore 8, 2) := by decide +kernel
theorem dX9_clearRow_116 : decode cX9_clearRow 116 = .ok (.iinc 10 1, 3) := by decide +kernel
theorem dX9_clearRow_119 : decode cX9_clearRow 119 = .ok (.goto (-87), 3) := by decide +kernel
theorem dX9_clearRow_122 : decode cX9_clearRow 122 = .ok (.iconst 0, 1) := by decide +kernel
theorem dX9_clearRow_123 : decode cX9_clearRow 123 = .ok (.istore 10, 2) := by decide +kernel
theorem dX9_clearRow_125 : decode cX9_clearRow 125 = .ok (.iload 10, 2) := by decide +kernel
theorem dX9_clearRow_127 : decode cX9_clearRow 127 = .ok (.bipush 6, 2) := by decide +kernel
theorem dX9_clearRow_129 : decode cX9_clearRow 129 = .ok (.if_icmp .ge 48, 3) := by decide +kernel
theorem dX9_clearRow_132 : decode cX9_clearRow 132 = .ok (.lload 8, 2) := by decide +kernel
theorem dX9_clearRow_134 : decode cX9_clearRow 134 = .ok (.lconst 1, 1) := by decide +kernel
theorem dX9_clearRow_135 : decode cX9_clearRow 135 = .ok (.lcmp, 1) := by decide +kernel
theorem dX9_clearRow_136 : decode cX9_clearRow 136 = .ok (.ifCond .le 41, 3) := by decide +kernel
theorem dX9_clearRow_139 : decode cX9_clearRow 139 = .ok (.iload 10, 2) := by decide +kernel
theorem dX9_clearRow_141 : decode cX9_clearRow 141 = .ok (.aload_n 0, 1) := by decide +kernel
theorem dX9_clearRow_142 : decode cX9_clearRow 142 = .ok (.getfield 79, 3) := by decide +kernel
theorem dX9_clearRow_145 : decode cX9_clearRow 145 = .ok (.if_icmp .lt 9, 3) := by decide +kernel
theorem dX9_clearRow_148 : decode cX9_clearRow 148 = .ok (.iload 10, 2) := by decide +kernel
theorem dX9_clearRow_150 : decode cX9_clearRow 150 = .ok (.iconst 5, 1) := by decide +kernel
theorem dX9_clearRow_151 : decode cX9_clearRow 151 = .ok (.if_icmp .ne 20, 3) := by decide +kernel
theorem dX9_clearRow_154 : decode cX9_clearRow 154 = .ok (.aload_n 0, 1) := by decide +kernel
theorem dX9_clearRow_155 : decode cX9_clearRow 155 = .ok (.getfield 53, 3) := by decide +kernel
theorem dX9_clearRow_158 : decode cX9_clearRow 158 = .ok (.bipush 6, 2) := by decide +kernel
theorem dX9_clearRow_160 : decode cX9_clearRow 160 = .ok (.iload_n 1, 1) := by decide +kernel
theorem dX9_clearRow_161 : decode cX9_clearRow 161 = .ok (.imul, 1) := by decide +kernel
theorem dX9_clearRow_162 : decode cX9_clearRow 162 = .ok (.iload 10, 2) := by decide +kernel
theorem dX9_clearRow_164 : decode cX9_clearRow 164 = .ok (.iadd, 1) := by decide +kernel
theorem dX9_clearRow_165 : decode cX9_clearRow 165 = .ok (.dup2, 1) := by decide +kernel
theorem dX9_clearRow_166 : decode cX9_clearRow 166 = .ok (.laload, 1) := by decide +kernel
theorem dX9_clearRow_167 : decode cX9_clearRow 167 = .ok (.lload 8, 2) := by decide +kernel
theorem dX9_clearRow_169 : decode cX9_clearRow 169 = .ok (.ldiv, 1) := by decide +kernel
theorem dX9_clearRow_170 : decode cX9_clearRow 170 = .ok (.lastore, 1) := by decide +kernel
theorem dX9_clearRow_171 : decode cX9_clearRow 171 = .ok (.iinc 10 1, 3) := by decide +kernel
theorem dX9_clearRow_174 : decode cX9_clearRow 174 = .ok (.goto (-49), 3) := by decide +kernel
theorem dX9_clearRow_177 : decode cX9_clearRow 177 = .ok (.return_, 1) := by decide +kernel
theorem dX9_solve_0 : decode cX9_solve 0 = .ok (.iconst 0, 1) := by decide +kernel
theorem dX9_solve_1 : decode cX9_solve 1 = .ok (.istore_n 1, 1) := by decide +kernel
theorem dX9_solve_2 : decode cX9_solve 2 = .ok (.iload_n 1, 1) := by decide +kernel
theorem dX9_solve_3 : decode cX9_solve 3 = .ok (.aload_n 0, 1) := by decide +kernel
theorem dX9_solve_4 : decode cX9_solve 4 = .ok (.getfield 79, 3) := by decide +kernel
theorem dX9_solve_7 : decode cX9_solve 7 = .ok (.if_icmp .ge 101, 3) := by decide +kernel
theorem dX9_solve_10 : decode cX9_solve 10 = .ok (.iload_n 1, 1) := by decide +kernel
theorem dX9_solve_11 : decode cX9_solve 11 = .ok (.istore_n 2, 1) := by decide +kernel
theorem dX9_solve_12 : decode cX9_solve 12 = .ok (.iload_n 2, 1) := by decide +kernel
theorem dX9_solve_13 : decode cX9_solve 13 = .ok (.aload_n 0, 1) := by decide +kernel
theorem dX9_solve_14 : decode cX9_solve 14 = .ok (.getfield 79, 3) := by decide +kernel
theorem dX9_solve_17 : decode cX9_solve 17 = .ok (.if_icmp .ge 25, 3) := by decide +kernel
theorem dX9_solve_20 : decode cX9_solve 20 = .ok (.aload_n 0, 1) := by decide +kernel
theorem dX9_solve_21 : decode cX9_solve 21 = .ok (.getfield 53, 3) := by decide +kernel
theorem dX9_solve_24 : decode cX9_solve 24 = .ok (.bipush 6, 2) := by decide +kernel
theorem dX9_solve_26 : decode cX9_solve 26 = .ok (.iload_n 2, 1) := by decide +kernel
theorem dX9_solve_27 : decode cX9_solve 27 = .ok (.imul, 1) := by decide +kernel
theorem dX9_solve_28 : decode cX9_solve 28 = .ok (.iload_n 1, 1) := by decide +kernel
theorem dX9_solve_29 : decode cX9_solve 29 = .ok (.iadd, 1) := by decide +kernel
theorem dX9_solve_30 : decode cX9_solve 30 = .ok (.laload, 1) := by decide +kernel
theorem dX9_solve_31 : decode cX9_solve 31 = .ok (.lconst 0, 1) := by decide +kernel
theorem dX9_solve_32 : decode cX9_solve 32 = .ok (.lcmp, 1) := by decide +kernel
theorem dX9_solve_33 : decode cX9_solve 33 = .ok (.ifCond .ne 9, 3) := by decide +kernel
theorem dX9_solve_36 : decode cX9_solve 36 = .ok (.iinc 2 1, 3) := by decide +kernel
theorem dX9_solve_39 : decode cX9_solve 39 = .ok (.goto (-27), 3) := by decide +kernel
theorem dX9_solve_42 : decode cX9_solve 42 = .ok (.iload_n 2, 1) := by decide +kernel
theorem dX9_solve_43 : decode cX9_solve 43 = .ok (.aload_n 0, 1) := by decide +kernel
theorem dX9_solve_44 : decode cX9_solve 44 = .ok (.getfield 79, 3) := by decide +kernel
theorem dX9_solve_47 : decode cX9_solve 47 = .ok (.if_icmp .ne 5, 3) := by decide +kernel
theorem dX9_solve_50 : decode cX9_solve 50 = .ok (.iconst 0, 1) := by decide +kernel
theorem dX9_solve_51 : decode cX9_solve 51 = .ok (.ireturn, 1) := by decide +kernel
theorem dX9_solve_52 : decode cX9_solve 52 = .ok (.aload_n 0, 1) := by decide +kernel
theorem dX9_solve_53 : decode cX9_solve 53 = .ok (.iload_n 1, 1) := by decide +kernel
theorem dX9_solve_54 : decode cX9_solve 54 = .ok (.iload_n 2, 1) := by decide +kernel
theorem dX9_solve_55 : decode cX9_solve 55 = .ok (.invokevirtual 148, 3) := by decide +kernel
theorem dX9_solve_58 : decode cX9_solve 58 = .ok (.iconst 0, 1) := by decide +kernel
theorem dX9_solve_59 : decode cX9_solve 59 = .ok (.istore_n 3, 1) := by decide +kernel
theorem dX9_solve_60 : decode cX9_solve 60 = .ok (.iload_n 3, 1) := by decide +kernel
theorem dX9_solve_61 : decode cX9_solve 61 = .ok (.aload_n 0, 1) := by decide +kernel
theorem dX9_solve_62 : decode cX9_solve 62 = .ok (.getfield 79, 3) := by decide +kernel
theorem dX9_solve_65 : decode cX9_solve 65 = .ok (.if_icmp .ge 37, 3) := by decide +kernel
theorem dX9_solve_68 : decode cX9_solve 68 = .ok (.iload_n 3, 1) := by decide +kernel
theorem dX9_solve_69 : decode cX9_solve 69 = .ok (.iload_n 1, 1) := by decide +kernel
theorem dX9_solve_70 : decode cX9_solve 70 = .ok (.if_icmp .eq 26, 3) := by decide +kernel
theorem dX9_solve_73 : decode cX9_solve 73 = .ok (.aload_n 0, 1) := by decide +kernel
theorem dX9_solve_74 : decode cX9_solve 74 = .ok (.getfield 53, 3) := by decide +kernel
theorem dX9_solve_77 : decode cX9_solve 77 = .ok (.bipush 6, 2) := by decide +kernel
theorem dX9_solve_79 : decode cX9_solve 79 = .ok (.iload_n 3, 1) := by decide +kernel
theorem dX9_solve_80 : decode cX9_solve 80 = .ok (.imul, 1) := by decide +kernel
theorem dX9_solve_81 : decode cX9_solve 81 = .ok (.iload_n 1, 1) := by decide +kernel
theorem dX9_solve_82 : decode cX9_solve 82 = .ok (.iadd, 1) := by decide +kernel
theorem dX9_solve_83 : decode cX9_solve 83 = .ok (.laload, 1) := by decide +kernel
theorem dX9_solve_84 : decode cX9_solve 84 = .ok (.lconst 0, 1) := by decide +kernel
theorem dX9_solve_85 : decode cX9_solve 85 = .ok (.lcmp, 1) := by decide +kernel
theorem dX9_solve_86 : decode cX9_solve 86 = .ok (.ifCond .eq 10, 3) := by decide +kernel
theorem dX9_solve_89 : decode cX9_solve 89 = .ok (.aload_n 0, 1) := by decide +kernel
theorem dX9_solve_90 : decode cX9_solve 90 = .ok (.iload_n 3, 1) := by decide +kernel
theorem dX9_solve_91 : decode cX9_solve 91 = .ok (.iload_n 1, 1) := by decide +kernel
theorem dX9_solve_92 : decode cX9_solve 92 = .ok (.iload_n 1, 1) := by decide +kernel
theorem dX9_solve_93 : decode cX9_solve 93 = .ok (.invokevirtual 151, 3) := by decide +kernel
theorem dX9_solve_96 : decode cX9_solve 96 = .ok (.iinc 3 1, 3) := by decide +kernel
theorem dX9_solve_99 : decode cX9_solve 99 = .ok (.goto (-39), 3) := by decide +kernel
theorem dX9_solve_102 : decode cX9_solve 102 = .ok (.iinc 1 1, 3) := by decide +kernel
theorem dX9_solve_105 : decode cX9_solve 105 = .ok (.goto (-103), 3) := by decide +kernel
theorem dX9_solve_108 : decode cX9_solve 108 = .ok (.iconst 0, 1) := by decide +kernel
theorem dX9_solve_109 : decode cX9_solve 109 = .ok (.istore_n 1, 1) := by decide +kernel
theorem dX9_solve_110 : decode cX9_solve 110 = .ok (.iload_n 1, 1) := by decide +kernel
theorem dX9_solve_111 : decode cX9_solve 111 = .ok (.aload_n 0, 1) := by decide +kernel
theorem dX9_solve_112 : decode cX9_solve 112 = .ok (.getfield 79, 3) := by decide +kernel
theorem dX9_solve_115 : decode cX9_solve 115 = .ok (.if_icmp .ge 78, 3) := by decide +kernel
theorem dX9_solve_118 : decode cX9_solve 118 = .ok (.aload_n 0, 1) := by decide +kernel
theorem dX9_solve_119 : decode cX9_solve 119 = .ok (.getfield 53, 3) := by decide +kernel
theorem dX9_solve_122 : decode cX9_solve 122 = .ok (.bipush 6, 2) := by decide +kernel
theorem dX9_solve_124 : decode cX9_solve 124 = .ok (.iload_n 1, 1) := by decide +kernel
theorem dX9_solve_125 : decode cX9_solve 125 = .ok (.imul, 1) := by decide +kernel
theorem dX9_solve_126 : decode cX9_solve 126 = .ok (.iconst 5, 1) := by decide +kernel
theorem dX9_solve_127 : decode cX9_solve 127 = .ok (.iadd, 1) := by decide +kernel
theorem dX9_solve_128 : decode cX9_solve 128 = .ok (.laload, 1) := by decide +kernel
theorem dX9_solve_129 : decode cX9_solve 129 = .ok (.lstore_n 2, 1) := by decide +kernel
theorem dX9_solve_130 : decode cX9_solve 130 = .ok (.aload_n 0, 1) := by decide +kernel
theorem dX9_solve_131 : decode cX9_solve 131 = .ok (.getfield 53, 3) := by decide +kernel
theorem dX9_solve_134 : decode cX9_solve 134 = .ok (.bipush 6, 2) := by decide +kernel
theorem dX9_solve_136 : decode cX9_solve 136 = .ok (.iload_n 1, 1) := by decide +kernel
theorem dX9_solve_137 : decode cX9_solve 137 = .ok (.imul, 1) := by decide +kernel
theorem dX9_solve_138 : decode cX9_solve 138 = .ok (.iload_n 1, 1) := by decide +kernel
theorem dX9_solve_139 : decode cX9_solve 139 = .ok (.iadd, 1) := by decide +kernel
theorem dX9_solve_140 : decode cX9_solve 140 = .ok (.laload, 1) := by decide +kernel
theorem dX9_solve_141 : decode cX9_solve 141 = .ok (.lstore 4, 2) := by decide +kernel
theorem dX9_solve_143 : decode cX9_solve 143 = .ok (.lload_n 2, 1) := by decide +kernel
theorem dX9_solve_144 : decode cX9_solve 144 = .ok (.lload 4, 2) := by decide +kernel
theorem dX9_solve_146 : decode cX9_solve 146 = .ok (.invokestatic 144, 3) := by decide +kernel
theorem dX9_solve_149 : decode cX9_solve 149 = .ok (.lload 4, 2) := by decide +kernel
theorem dX9_solve_151 : decode cX9_solve 151 = .ok (.lconst 0, 1) := by decide +kernel
theorem dX9_solve_152 : decode cX9_solve 152 = .ok (.lcmp, 1) := by decide +kernel
theorem dX9_solve_153 : decode cX9_solve 153 = .ok (.ifCond .ge 9, 3) := by decide +kernel
theorem dX9_solve_156 : decode cX9_solve 156 = .ok (.ldc2_w 155, 3) := by decide +kernel
theorem dX9_solve_159 : decode cX9_solve 159 = .ok (.goto 4, 3) := by decide +kernel
theorem dX9_solve_162 : decode cX9_solve 162 = .ok (.lconst 1, 1) := by decide +kernel
theorem dX9_solve_163 : decode cX9_solve 163 = .ok (.lmul, 1) := by decide +kernel
theorem dX9_solve_164 : decode cX9_solve 164 = .ok (.lstore 6, 2) := by decide +kernel
theorem dX9_solve_166 : decode cX9_solve 166 = .ok (.aload_n 0, 1) := by decide +kernel
theorem dX9_solve_167 : decode cX9_solve 167 = .ok (.getfield 57, 3) := by decide +kernel
theorem dX9_solve_170 : decode cX9_solve 170 = .ok (.iload_n 1, 1) := by decide +kernel
theorem dX9_solve_171 : decode cX9_solve 171 = .ok (.lload_n 2, 1) := by decide +kernel
theorem dX9_solve_172 : decode cX9_solve 172 = .ok (.lload 6, 2) := by decide +kernel
theorem dX9_solve_174 : decode cX9_solve 174 = .ok (.ldiv, 1) := by decide +kernel
theorem dX9_solve_175 : decode cX9_solve 175 = .ok (.lastore, 1) := by decide +kernel
theorem dX9_solve_176 : decode cX9_solve 176 = .ok (.aload_n 0, 1) := by decide +kernel
theorem dX9_solve_177 : decode cX9_solve 177 = .ok (.getfield 60, 3) := by decide +kernel
theorem dX9_solve_180 : decode cX9_solve 180 = .ok (.iload_n 1, 1) := by decide +kernel
theorem dX9_solve_181 : decode cX9_solve 181 = .ok (.lload 4, 2) := by decide +kernel
theorem dX9_solve_183 : decode cX9_solve 183 = .ok (.lload 6, 2) := by decide +kernel
theorem dX9_solve_185 : decode cX9_solve 185 = .ok (.ldiv, 1) := by decide +kernel
end
section
theorem dX9_solve_186 : decode cX9_solve 186 = .ok (.lastore, 1) := by decide +kernel
theorem dX9_solve_187 : decode cX9_solve 187 = .ok (.iinc 1 1, 3) := by decide +kernel
theorem dX9_solve_190 : decode cX9_solve 190 = .ok (.goto (-80), 3) := by decide +kernel
theorem dX9_solve_193 : decode cX9_solve 193 = .ok (.iconst 1, 1) := by decide +kernel
theorem dX9_solve_194 : decode cX9_solve 194 = .ok (.ireturn, 1) := by decide +kernel
theorem dX9_holds_0 : decode cX9_holds 0 = .ok (.lconst 1, 1) := by decide +kernel
theorem dX9_holds_1 : decode cX9_holds 1 = .ok (.lstore_n 1, 1) := by decide +kernel
theorem dX9_holds_2 : decode cX9_holds 2 = .ok (.iconst 1, 1) := by decide +kernel
theorem dX9_holds_3 : decode cX9_holds 3 = .ok (.istore_n 3, 1) := by decide +kernel
theorem dX9_holds_4 : decode cX9_holds 4 = .ok (.iconst 0, 1) := by decide +kernel
theorem dX9_holds_5 : decode cX9_holds 5 = .ok (.istore 4, 2) := by decide +kernel
theorem dX9_holds_7 : decode cX9_holds 7 = .ok (.iload 4, 2) := by decide +kernel
theorem dX9_holds_9 : decode cX9_holds 9 = .ok (.aload_n 0, 1) := by decide +kernel
theorem dX9_holds_10 : decode cX9_holds 10 = .ok (.getfield 79, 3) := by decide +kernel
theorem dX9_holds_13 : decode cX9_holds 13 = .ok (.if_icmp .ge 53, 3) := by decide +kernel
theorem dX9_holds_16 : decode cX9_holds 16 = .ok (.iload_n 3, 1) := by decide +kernel
theorem dX9_holds_17 : decode cX9_holds 17 = .ok (.ifCond .eq 19, 3) := by decide +kernel
theorem dX9_holds_20 : decode cX9_holds 20 = .ok (.aload_n 0, 1) := by decide +kernel
theorem dX9_holds_21 : decode cX9_holds 21 = .ok (.getfield 57, 3) := by decide +kernel
theorem dX9_holds_24 : decode cX9_holds 24 = .ok (.iload 4, 2) := by decide +kernel
theorem dX9_holds_26 : decode cX9_holds 26 = .ok (.laload, 1) := by decide +kernel
theorem dX9_holds_27 : decode cX9_holds 27 = .ok (.lconst 0, 1) := by decide +kernel
theorem dX9_holds_28 : decode cX9_holds 28 = .ok (.lcmp, 1) := by decide +kernel
theorem dX9_holds_29 : decode cX9_holds 29 = .ok (.ifCond .lt 7, 3) := by decide +kernel
theorem dX9_holds_32 : decode cX9_holds 32 = .ok (.iconst 1, 1) := by decide +kernel
theorem dX9_holds_33 : decode cX9_holds 33 = .ok (.goto 4, 3) := by decide +kernel
theorem dX9_holds_36 : decode cX9_holds 36 = .ok (.iconst 0, 1) := by decide +kernel
theorem dX9_holds_37 : decode cX9_holds 37 = .ok (.istore_n 3, 1) := by decide +kernel
theorem dX9_holds_38 : decode cX9_holds 38 = .ok (.lload_n 1, 1) := by decide +kernel
theorem dX9_holds_39 : decode cX9_holds 39 = .ok (.lload_n 1, 1) := by decide +kernel
theorem dX9_holds_40 : decode cX9_holds 40 = .ok (.aload_n 0, 1) := by decide +kernel
theorem dX9_holds_41 : decode cX9_holds 41 = .ok (.getfield 60, 3) := by decide +kernel
theorem dX9_holds_44 : decode cX9_holds 44 = .ok (.iload 4, 2) := by decide +kernel
theorem dX9_holds_46 : decode cX9_holds 46 = .ok (.laload, 1) := by decide +kernel
theorem dX9_holds_47 : decode cX9_holds 47 = .ok (.invokestatic 144, 3) := by decide +kernel
theorem dX9_holds_50 : decode cX9_holds 50 = .ok (.ldiv, 1) := by decide +kernel
theorem dX9_holds_51 : decode cX9_holds 51 = .ok (.aload_n 0, 1) := by decide +kernel
theorem dX9_holds_52 : decode cX9_holds 52 = .ok (.getfield 60, 3) := by decide +kernel
theorem dX9_holds_55 : decode cX9_holds 55 = .ok (.iload 4, 2) := by decide +kernel
theorem dX9_holds_57 : decode cX9_holds 57 = .ok (.laload, 1) := by decide +kernel
theorem dX9_holds_58 : decode cX9_holds 58 = .ok (.lmul, 1) := by decide +kernel
theorem dX9_holds_59 : decode cX9_holds 59 = .ok (.lstore_n 1, 1) := by decide +kernel
theorem dX9_holds_60 : decode cX9_holds 60 = .ok (.iinc 4 1, 3) := by decide +kernel
theorem dX9_holds_63 : decode cX9_holds 63 = .ok (.goto (-56), 3) := by decide +kernel
theorem dX9_holds_66 : decode cX9_holds 66 = .ok (.iconst 0, 1) := by decide +kernel
theorem dX9_holds_67 : decode cX9_holds 67 = .ok (.istore 4, 2) := by decide +kernel
theorem dX9_holds_69 : decode cX9_holds 69 = .ok (.iload 4, 2) := by decide +kernel
theorem dX9_holds_71 : decode cX9_holds 71 = .ok (.aload_n 0, 1) := by decide +kernel
theorem dX9_holds_72 : decode cX9_holds 72 = .ok (.getfield 79, 3) := by decide +kernel
theorem dX9_holds_75 : decode cX9_holds 75 = .ok (.if_icmp .ge 83, 3) := by decide +kernel
theorem dX9_holds_78 : decode cX9_holds 78 = .ok (.iload_n 3, 1) := by decide +kernel
theorem dX9_holds_79 : decode cX9_holds 79 = .ok (.ifCond .eq 79, 3) := by decide +kernel
theorem dX9_holds_82 : decode cX9_holds 82 = .ok (.lconst 0, 1) := by decide +kernel
theorem dX9_holds_83 : decode cX9_holds 83 = .ok (.lstore 5, 2) := by decide +kernel
theorem dX9_holds_85 : decode cX9_holds 85 = .ok (.iconst 0, 1) := by decide +kernel
theorem dX9_holds_86 : decode cX9_holds 86 = .ok (.istore 7, 2) := by decide +kernel
theorem dX9_holds_88 : decode cX9_holds 88 = .ok (.iload 7, 2) := by decide +kernel
theorem dX9_holds_90 : decode cX9_holds 90 = .ok (.aload_n 0, 1) := by decide +kernel
theorem dX9_holds_91 : decode cX9_holds 91 = .ok (.getfield 79, 3) := by decide +kernel
theorem dX9_holds_94 : decode cX9_holds 94 = .ok (.if_icmp .ge 45, 3) := by decide +kernel
theorem dX9_holds_97 : decode cX9_holds 97 = .ok (.lload 5, 2) := by decide +kernel
theorem dX9_holds_99 : decode cX9_holds 99 = .ok (.aload_n 0, 1) := by decide +kernel
theorem dX9_holds_100 : decode cX9_holds 100 = .ok (.getfield 57, 3) := by decide +kernel
theorem dX9_holds_103 : decode cX9_holds 103 = .ok (.iload 7, 2) := by decide +kernel
theorem dX9_holds_105 : decode cX9_holds 105 = .ok (.laload, 1) := by decide +kernel
theorem dX9_holds_106 : decode cX9_holds 106 = .ok (.lload_n 1, 1) := by decide +kernel
theorem dX9_holds_107 : decode cX9_holds 107 = .ok (.aload_n 0, 1) := by decide +kernel
theorem dX9_holds_108 : decode cX9_holds 108 = .ok (.getfield 60, 3) := by decide +kernel
theorem dX9_holds_111 : decode cX9_holds 111 = .ok (.iload 7, 2) := by decide +kernel
theorem dX9_holds_113 : decode cX9_holds 113 = .ok (.laload, 1) := by decide +kernel
theorem dX9_holds_114 : decode cX9_holds 114 = .ok (.ldiv, 1) := by decide +kernel
theorem dX9_holds_115 : decode cX9_holds 115 = .ok (.lmul, 1) := by decide +kernel
theorem dX9_holds_116 : decode cX9_holds 116 = .ok (.aload_n 0, 1) := by decide +kernel
theorem dX9_holds_117 : decode cX9_holds 117 = .ok (.getfield 50, 3) := by decide +kernel
theorem dX9_holds_120 : decode cX9_holds 120 = .ok (.iconst 5, 1) := by decide +kernel
theorem dX9_holds_121 : decode cX9_holds 121 = .ok (.iload 7, 2) := by decide +kernel
theorem dX9_holds_123 : decode cX9_holds 123 = .ok (.imul, 1) := by decide +kernel
theorem dX9_holds_124 : decode cX9_holds 124 = .ok (.iload 4, 2) := by decide +kernel
theorem dX9_holds_126 : decode cX9_holds 126 = .ok (.iadd, 1) := by decide +kernel
theorem dX9_holds_127 : decode cX9_holds 127 = .ok (.iaload, 1) := by decide +kernel
theorem dX9_holds_128 : decode cX9_holds 128 = .ok (.i2l, 1) := by decide +kernel
theorem dX9_holds_129 : decode cX9_holds 129 = .ok (.lmul, 1) := by decide +kernel
theorem dX9_holds_130 : decode cX9_holds 130 = .ok (.ladd, 1) := by decide +kernel
theorem dX9_holds_131 : decode cX9_holds 131 = .ok (.lstore 5, 2) := by decide +kernel
theorem dX9_holds_133 : decode cX9_holds 133 = .ok (.iinc 7 1, 3) := by decide +kernel
theorem dX9_holds_136 : decode cX9_holds 136 = .ok (.goto (-48), 3) := by decide +kernel
theorem dX9_holds_139 : decode cX9_holds 139 = .ok (.lload 5, 2) := by decide +kernel
theorem dX9_holds_141 : decode cX9_holds 141 = .ok (.lconst 0, 1) := by decide +kernel
theorem dX9_holds_142 : decode cX9_holds 142 = .ok (.lcmp, 1) := by decide +kernel
theorem dX9_holds_143 : decode cX9_holds 143 = .ok (.ifCond .lt 7, 3) := by decide +kernel
theorem dX9_holds_146 : decode cX9_holds 146 = .ok (.iconst 1, 1) := by decide +kernel
theorem dX9_holds_147 : decode cX9_holds 147 = .ok (.goto 4, 3) := by decide +kernel
theorem dX9_holds_150 : decode cX9_holds 150 = .ok (.iconst 0, 1) := by decide +kernel
theorem dX9_holds_151 : decode cX9_holds 151 = .ok (.istore_n 3, 1) := by decide +kernel
theorem dX9_holds_152 : decode cX9_holds 152 = .ok (.iinc 4 1, 3) := by decide +kernel
theorem dX9_holds_155 : decode cX9_holds 155 = .ok (.goto (-86), 3) := by decide +kernel
theorem dX9_holds_158 : decode cX9_holds 158 = .ok (.iload_n 3, 1) := by decide +kernel
theorem dX9_holds_159 : decode cX9_holds 159 = .ok (.ireturn, 1) := by decide +kernel
theorem dX9_isGreater_0 : decode cX9_isGreater 0 = .ok (.iconst 0, 1) := by decide +kernel
theorem dX9_isGreater_1 : decode cX9_isGreater 1 = .ok (.istore_n 1, 1) := by decide +kernel
theorem dX9_isGreater_2 : decode cX9_isGreater 2 = .ok (.iload_n 1, 1) := by decide +kernel
theorem dX9_isGreater_3 : decode cX9_isGreater 3 = .ok (.aload_n 0, 1) := by decide +kernel
theorem dX9_isGreater_4 : decode cX9_isGreater 4 = .ok (.getfield 79, 3) := by decide +kernel
theorem dX9_isGreater_7 : decode cX9_isGreater 7 = .ok (.if_icmp .ge 55, 3) := by decide +kernel
theorem dX9_isGreater_10 : decode cX9_isGreater 10 = .ok (.aload_n 0, 1) := by decide +kernel
theorem dX9_isGreater_11 : decode cX9_isGreater 11 = .ok (.getfield 57, 3) := by decide +kernel
theorem dX9_isGreater_14 : decode cX9_isGreater 14 = .ok (.iload_n 1, 1) := by decide +kernel
theorem dX9_isGreater_15 : decode cX9_isGreater 15 = .ok (.laload, 1) := by decide +kernel
theorem dX9_isGreater_16 : decode cX9_isGreater 16 = .ok (.aload_n 0, 1) := by decide +kernel
theorem dX9_isGreater_17 : decode cX9_isGreater 17 = .ok (.getfield 66, 3) := by decide +kernel
theorem dX9_isGreater_20 : decode cX9_isGreater 20 = .ok (.iload_n 1, 1) := by decide +kernel
theorem dX9_isGreater_21 : decode cX9_isGreater 21 = .ok (.laload, 1) := by decide +kernel
theorem dX9_isGreater_22 : decode cX9_isGreater 22 = .ok (.lmul, 1) := by decide +kernel
theorem dX9_isGreater_23 : decode cX9_isGreater 23 = .ok (.aload_n 0, 1) := by decide +kernel
theorem dX9_isGreater_24 : decode cX9_isGreater 24 = .ok (.getfield 63, 3) := by decide +kernel
theorem dX9_isGreater_27 : decode cX9_isGreater 27 = .ok (.iload_n 1, 1) := by decide +kernel
theorem dX9_isGreater_28 : decode cX9_isGreater 28 = .ok (.laload, 1) := by decide +kernel
theorem dX9_isGreater_29 : decode cX9_isGreater 29 = .ok (.aload_n 0, 1) := by decide +kernel
theorem dX9_isGreater_30 : decode cX9_isGreater 30 = .ok (.getfield 60, 3) := by decide +kernel
theorem dX9_isGreater_33 : decode cX9_isGreater 33 = .ok (.iload_n 1, 1) := by decide +kernel
theorem dX9_isGreater_34 : decode cX9_isGreater 34 = .ok (.laload, 1) := by decide +kernel
theorem dX9_isGreater_35 : decode cX9_isGreater 35 = .ok (.lmul, 1) := by decide +kernel
theorem dX9_isGreater_36 : decode cX9_isGreater 36 = .ok (.lsub, 1) := by decide +kernel
theorem dX9_isGreater_37 : decode cX9_isGreater 37 = .ok (.lstore_n 2, 1) := by decide +kernel
theorem dX9_isGreater_38 : decode cX9_isGreater 38 = .ok (.lload_n 2, 1) := by decide +kernel
theorem dX9_isGreater_39 : decode cX9_isGreater 39 = .ok (.lconst 0, 1) := by decide +kernel
theorem dX9_isGreater_40 : decode cX9_isGreater 40 = .ok (.lcmp, 1) := by decide +kernel
theorem dX9_isGreater_41 : decode cX9_isGreater 41 = .ok (.ifCond .eq 15, 3) := by decide +kernel
theorem dX9_isGreater_44 : decode cX9_isGreater 44 = .ok (.lload_n 2, 1) := by decide +kernel
theorem dX9_isGreater_45 : decode cX9_isGreater 45 = .ok (.lconst 0, 1) := by decide +kernel
theorem dX9_isGreater_46 : decode cX9_isGreater 46 = .ok (.lcmp, 1) := by decide +kernel
theorem dX9_isGreater_47 : decode cX9_isGreater 47 = .ok (.ifCond .le 7, 3) := by decide +kernel
theorem dX9_isGreater_50 : decode cX9_isGreater 50 = .ok (.iconst 1, 1) := by decide +kernel
theorem dX9_isGreater_51 : decode cX9_isGreater 51 = .ok (.goto 4, 3) := by decide +kernel
theorem dX9_isGreater_54 : decode cX9_isGreater 54 = .ok (.iconst 0, 1) := by decide +kernel
theorem dX9_isGreater_55 : decode cX9_isGreater 55 = .ok (.ireturn, 1) := by decide +kernel
theorem dX9_isGreater_56 : decode cX9_isGreater 56 = .ok (.iinc 1 1, 3) := by decide +kernel
theorem dX9_isGreater_59 : decode cX9_isGreater 59 = .ok (.goto (-57), 3) := by decide +kernel
theorem dX9_isGreater_62 : decode cX9_isGreater 62 = .ok (.iconst 0, 1) := by decide +kernel
theorem dX9_isGreater_63 : decode cX9_isGreater 63 = .ok (.ireturn, 1) := by decide +kernel
theorem dX9_ones_0 : decode cX9_ones 0 = .ok (.iconst 0, 1) := by decide +kernel
theorem dX9_ones_1 : decode cX9_ones 1 = .ok (.istore_n 1, 1) := by decide +kernel
theorem dX9_ones_2 : decode cX9_ones 2 = .ok (.iconst 0, 1) := by decide +kernel
theorem dX9_ones_3 : decode cX9_ones 3 = .ok (.istore_n 2, 1) := by decide +kernel
theorem dX9_ones_4 : decode cX9_ones 4 = .ok (.iload_n 2, 1) := by decide +kernel
theorem dX9_ones_5 : decode cX9_ones 5 = .ok (.bipush 10, 2) := by decide +kernel
theorem dX9_ones_7 : decode cX9_ones 7 = .ok (.if_icmp .ge 17, 3) := by decide +kernel
theorem dX9_ones_10 : decode cX9_ones 10 = .ok (.iload_n 1, 1) := by decide +kernel
theorem dX9_ones_11 : decode cX9_ones 11 = .ok (.iload_n 0, 1) := by decide +kernel
theorem dX9_ones_12 : decode cX9_ones 12 = .ok (.iload_n 2, 1) := by decide +kernel
theorem dX9_ones_13 : decode cX9_ones 13 = .ok (.ishr, 1) := by decide +kernel
theorem dX9_ones_14 : decode cX9_ones 14 = .ok (.iconst 1, 1) := by decide +kernel
theorem dX9_ones_15 : decode cX9_ones 15 = .ok (.iand, 1) := by decide +kernel
theorem dX9_ones_16 : decode cX9_ones 16 = .ok (.iadd, 1) := by decide +kernel
theorem dX9_ones_17 : decode cX9_ones 17 = .ok (.istore_n 1, 1) := by decide +kernel
theorem dX9_ones_18 : decode cX9_ones 18 = .ok (.iinc 2 1, 3) := by decide +kernel
theorem dX9_ones_21 : decode cX9_ones 21 = .ok (.goto (-17), 3) := by decide +kernel
theorem dX9_ones_24 : decode cX9_ones 24 = .ok (.iload_n 1, 1) := by decide +kernel
theorem dX9_ones_25 : decode cX9_ones 25 = .ok (.ireturn, 1) := by decide +kernel
theorem dX9_findMix_0 : decode cX9_findMix 0 = .ok (.aload_n 0, 1) := by decide +kernel
theorem dX9_findMix_1 : decode cX9_findMix 1 = .ok (.invokevirtual 125, 3) := by decide +kernel
theorem dX9_findMix_4 : decode cX9_findMix 4 = .ok (.iconst 0, 1) := by decide +kernel
theorem dX9_findMix_5 : decode cX9_findMix 5 = .ok (.istore_n 1, 1) := by decide +kernel
theorem dX9_findMix_6 : decode cX9_findMix 6 = .ok (.iload_n 1, 1) := by decide +kernel
theorem dX9_findMix_7 : decode cX9_findMix 7 = .ok (.aload_n 0, 1) := by decide +kernel
theorem dX9_findMix_8 : decode cX9_findMix 8 = .ok (.getfield 79, 3) := by decide +kernel
theorem dX9_findMix_11 : decode cX9_findMix 11 = .ok (.if_icmp .ge 25, 3) := by decide +kernel
theorem dX9_findMix_14 : decode cX9_findMix 14 = .ok (.aload_n 0, 1) := by decide +kernel
theorem dX9_findMix_15 : decode cX9_findMix 15 = .ok (.getfield 63, 3) := by decide +kernel
theorem dX9_findMix_18 : decode cX9_findMix 18 = .ok (.iload_n 1, 1) := by decide +kernel
theorem dX9_findMix_19 : decode cX9_findMix 19 = .ok (.ldc2_w 155, 3) := by decide +kernel
theorem dX9_findMix_22 : decode cX9_findMix 22 = .ok (.lastore, 1) := by decide +kernel
theorem dX9_findMix_23 : decode cX9_findMix 23 = .ok (.aload_n 0, 1) := by decide +kernel
theorem dX9_findMix_24 : decode cX9_findMix 24 = .ok (.getfield 66, 3) := by decide +kernel
theorem dX9_findMix_27 : decode cX9_findMix 27 = .ok (.iload_n 1, 1) := by decide +kernel
theorem dX9_findMix_28 : decode cX9_findMix 28 = .ok (.lconst 1, 1) := by decide +kernel
theorem dX9_findMix_29 : decode cX9_findMix 29 = .ok (.lastore, 1) := by decide +kernel
theorem dX9_findMix_30 : decode cX9_findMix 30 = .ok (.iinc 1 1, 3) := by decide +kernel
theorem dX9_findMix_33 : decode cX9_findMix 33 = .ok (.goto (-27), 3) := by decide +kernel
theorem dX9_findMix_36 : decode cX9_findMix 36 = .ok (.iconst 0, 1) := by decide +kernel
theorem dX9_findMix_37 : decode cX9_findMix 37 = .ok (.istore_n 1, 1) := by decide +kernel
theorem dX9_findMix_38 : decode cX9_findMix 38 = .ok (.iload_n 1, 1) := by decide +kernel
theorem dX9_findMix_39 : decode cX9_findMix 39 = .ok (.iconst 1, 1) := by decide +kernel
theorem dX9_findMix_40 : decode cX9_findMix 40 = .ok (.iconst 2, 1) := by decide +kernel
theorem dX9_findMix_41 : decode cX9_findMix 41 = .ok (.aload_n 0, 1) := by decide +kernel
theorem dX9_findMix_42 : decode cX9_findMix 42 = .ok (.getfield 79, 3) := by decide +kernel
theorem dX9_findMix_45 : decode cX9_findMix 45 = .ok (.imul, 1) := by decide +kernel
theorem dX9_findMix_46 : decode cX9_findMix 46 = .ok (.ishl, 1) := by decide +kernel
theorem dX9_findMix_47 : decode cX9_findMix 47 = .ok (.if_icmp .ge 88, 3) := by decide +kernel
theorem dX9_findMix_50 : decode cX9_findMix 50 = .ok (.iload_n 1, 1) := by decide +kernel
theorem dX9_findMix_51 : decode cX9_findMix 51 = .ok (.invokestatic 157, 3) := by decide +kernel
theorem dX9_findMix_54 : decode cX9_findMix 54 = .ok (.aload_n 0, 1) := by decide +kernel
theorem dX9_findMix_55 : decode cX9_findMix 55 = .ok (.getfield 79, 3) := by decide +kernel
theorem dX9_findMix_58 : decode cX9_findMix 58 = .ok (.iconst 1, 1) := by decide +kernel
theorem dX9_findMix_59 : decode cX9_findMix 59 = .ok (.isub, 1) := by decide +kernel
theorem dX9_findMix_60 : decode cX9_findMix 60 = .ok (.if_icmp .ne 69, 3) := by decide +kernel
theorem dX9_findMix_63 : decode cX9_findMix 63 = .ok (.aload_n 0, 1) := by decide +kernel
theorem dX9_findMix_64 : decode cX9_findMix 64 = .ok (.iload_n 1, 1) := by decide +kernel
theorem dX9_findMix_65 : decode cX9_findMix 65 = .ok (.invokevirtual 160, 3) := by decide +kernel
theorem dX9_findMix_68 : decode cX9_findMix 68 = .ok (.aload_n 0, 1) := by decide +kernel
theorem dX9_findMix_69 : decode cX9_findMix 69 = .ok (.invokevirtual 163, 3) := by decide +kernel
theorem dX9_findMix_72 : decode cX9_findMix 72 = .ok (.ifCond .eq 57, 3) := by decide +kernel
theorem dX9_findMix_75 : decode cX9_findMix 75 = .ok (.aload_n 0, 1) := by decide +kernel
theorem dX9_findMix_76 : decode cX9_findMix 76 = .ok (.invokevirtual 166, 3) := by decide +kernel
theorem dX9_findMix_79 : decode cX9_findMix 79 = .ok (.ifCond .eq 50, 3) := by decide +kernel
theorem dX9_findMix_82 : decode cX9_findMix 82 = .ok (.aload_n 0, 1) := by decide +kernel
theorem dX9_findMix_83 : decode cX9_findMix 83 = .ok (.invokevirtual 169, 3) := by decide +kernel
theorem dX9_findMix_86 : decode cX9_findMix 86 = .ok (.ifCond .eq 43, 3) := by decide +kernel
theorem dX9_findMix_89 : decode cX9_findMix 89 = .ok (.iconst 0, 1) := by decide +kernel
theorem dX9_findMix_90 : decode cX9_findMix 90 = .ok (.istore_n 2, 1) := by decide +kernel
theorem dX9_findMix_91 : decode cX9_findMix 91 = .ok (.iload_n 2, 1) := by decide +kernel
theorem dX9_findMix_92 : decode cX9_findMix 92 = .ok (.aload_n 0, 1) := by decide +kernel
theorem dX9_findMix_93 : decode cX9_findMix 93 = .ok (.getfield 79, 3) := by decide +kernel
theorem dX9_findMix_96 : decode cX9_findMix 96 = .ok (.if_icmp .ge 33, 3) := by decide +kernel
theorem dX9_findMix_99 : decode cX9_findMix 99 = .ok (.aload_n 0, 1) := by decide +kernel
theorem dX9_findMix_100 : decode cX9_findMix 100 = .ok (.getfield 63, 3) := by decide +kernel
theorem dX9_findMix_103 : decode cX9_findMix 103 = .ok (.iload_n 2, 1) := by decide +kernel
theorem dX9_findMix_104 : decode cX9_findMix 104 = .ok (.aload_n 0, 1) := by decide +kernel
theorem dX9_findMix_105 : decode cX9_findMix 105 = .ok (.getfield 57, 3) := by decide +kernel
theorem dX9_findMix_108 : decode cX9_findMix 108 = .ok (.iload_n 2, 1) := by decide +kernel
theorem dX9_findMix_109 : decode cX9_findMix 109 = .ok (.laload, 1) := by decide +kernel
theorem dX9_findMix_110 : decode cX9_findMix 110 = .ok (.lastore, 1) := by decide +kernel
theorem dX9_findMix_111 : decode cX9_findMix 111 = .ok (.aload_n 0, 1) := by decide +kernel
theorem dX9_findMix_112 : decode cX9_findMix 112 = .ok (.getfield 66, 3) := by decide +kernel
theorem dX9_findMix_115 : decode cX9_findMix 115 = .ok (.iload_n 2, 1) := by decide +kernel
theorem dX9_findMix_116 : decode cX9_findMix 116 = .ok (.aload_n 0, 1) := by decide +kernel
theorem dX9_findMix_117 : decode cX9_findMix 117 = .ok (.getfield 60, 3) := by decide +kernel
theorem dX9_findMix_120 : decode cX9_findMix 120 = .ok (.iload_n 2, 1) := by decide +kernel
theorem dX9_findMix_121 : decode cX9_findMix 121 = .ok (.laload, 1) := by decide +kernel
theorem dX9_findMix_122 : decode cX9_findMix 122 = .ok (.lastore, 1) := by decide +kernel
theorem dX9_findMix_123 : decode cX9_findMix 123 = .ok (.iinc 2 1, 3) := by decide +kernel
theorem dX9_findMix_126 : decode cX9_findMix 126 = .ok (.goto (-35), 3) := by decide +kernel
theorem dX9_findMix_129 : decode cX9_findMix 129 = .ok (.iinc 1 1, 3) := by decide +kernel
theorem dX9_findMix_132 : decode cX9_findMix 132 = .ok (.goto (-94), 3) := by decide +kernel
theorem dX9_findMix_135 : decode cX9_findMix 135 = .ok (.return_, 1) := by decide +kernel
theorem dX9_share_0 : decode cX9_share 0 = .ok (.aload_n 0, 1) := by decide +kernel
theorem dX9_share_1 : decode cX9_share 1 = .ok (.iload_n 1, 1) := by decide +kernel
theorem dX9_share_2 : decode cX9_share 2 = .ok (.invokevirtual 86, 3) := by decide +kernel
theorem dX9_share_5 : decode cX9_share 5 = .ok (.ifCond .eq 12, 3) := by decide +kernel
theorem dX9_share_8 : decode cX9_share 8 = .ok (.iload_n 2, 1) := by decide +kernel
theorem dX9_share_9 : decode cX9_share 9 = .ok (.iconst 0, 1) := by decide +kernel
theorem dX9_share_10 : decode cX9_share 10 = .ok (.iconst 1, 1) := by decide +kernel
theorem dX9_share_11 : decode cX9_share 11 = .ok (.invokestatic 75, 3) := by decide +kernel
theorem dX9_share_14 : decode cX9_share 14 = .ok (.ifCond .ne 7, 3) := by decide +kernel
theorem dX9_share_17 : decode cX9_share 17 = .ok (.ldc2_w 172, 3) := by decide +kernel
theorem dX9_share_20 : decode cX9_share 20 = .ok (.lreturn, 1) := by decide +kernel
theorem dX9_share_21 : decode cX9_share 21 = .ok (.aload_n 0, 1) := by decide +kernel
theorem dX9_share_22 : decode cX9_share 22 = .ok (.invokevirtual 174, 3) := by decide +kernel
theorem dX9_share_25 : decode cX9_share 25 = .ok (.iload_n 2, 1) := by decide +kernel
theorem dX9_share_26 : decode cX9_share 26 = .ok (.ifCond .ne 12, 3) := by decide +kernel
theorem dX9_share_29 : decode cX9_share 29 = .ok (.aload_n 0, 1) := by decide +kernel
theorem dX9_share_30 : decode cX9_share 30 = .ok (.getfield 63, 3) := by decide +kernel
theorem dX9_share_33 : decode cX9_share 33 = .ok (.iload_n 1, 1) := by decide +kernel
theorem dX9_share_34 : decode cX9_share 34 = .ok (.laload, 1) := by decide +kernel
theorem dX9_share_35 : decode cX9_share 35 = .ok (.goto 9, 3) := by decide +kernel
theorem dX9_share_38 : decode cX9_share 38 = .ok (.aload_n 0, 1) := by decide +kernel
theorem dX9_share_39 : decode cX9_share 39 = .ok (.getfield 66, 3) := by decide +kernel
theorem dX9_share_42 : decode cX9_share 42 = .ok (.iload_n 1, 1) := by decide +kernel
theorem dX9_share_43 : decode cX9_share 43 = .ok (.laload, 1) := by decide +kernel
theorem dX9_share_44 : decode cX9_share 44 = .ok (.lreturn, 1) := by decide +kernel
theorem dX9_live_0 : decode cX9_live 0 = .ok (.aload_n 0, 1) := by decide +kernel
theorem dX9_live_1 : decode cX9_live 1 = .ok (.getfield 79, 3) := by decide +kernel
theorem dX9_live_4 : decode cX9_live 4 = .ok (.ifCond .ne 6, 3) := by decide +kernel
theorem dX9_live_7 : decode cX9_live 7 = .ok (.bipush (-3), 2) := by decide +kernel
theorem dX9_live_9 : decode cX9_live 9 = .ok (.ireturn, 1) := by decide +kernel
theorem dX9_live_10 : decode cX9_live 10 = .ok (.aload_n 0, 1) := by decide +kernel
theorem dX9_live_11 : decode cX9_live 11 = .ok (.invokevirtual 174, 3) := by decide +kernel
theorem dX9_live_14 : decode cX9_live 14 = .ok (.iconst 0, 1) := by decide +kernel
theorem dX9_live_15 : decode cX9_live 15 = .ok (.istore_n 1, 1) := by decide +kernel
theorem dX9_live_16 : decode cX9_live 16 = .ok (.iconst 0, 1) := by decide +kernel
theorem dX9_live_17 : decode cX9_live 17 = .ok (.istore_n 2, 1) := by decide +kernel
theorem dX9_live_18 : decode cX9_live 18 = .ok (.iload_n 2, 1) := by decide +kernel
theorem dX9_live_19 : decode cX9_live 19 = .ok (.aload_n 0, 1) := by decide +kernel
theorem dX9_live_20 : decode cX9_live 20 = .ok (.getfield 79, 3) := by decide +kernel
theorem dX9_live_23 : decode cX9_live 23 = .ok (.if_icmp .ge 28, 3) := by decide +kernel
theorem dX9_live_26 : decode cX9_live 26 = .ok (.iload_n 1, 1) := by decide +kernel
theorem dX9_live_27 : decode cX9_live 27 = .ok (.aload_n 0, 1) := by decide +kernel
theorem dX9_live_28 : decode cX9_live 28 = .ok (.getfield 63, 3) := by decide +kernel
theorem dX9_live_31 : decode cX9_live 31 = .ok (.iload_n 2, 1) := by decide +kernel
theorem dX9_live_32 : decode cX9_live 32 = .ok (.laload, 1) := by decide +kernel
theorem dX9_live_33 : decode cX9_live 33 = .ok (.lconst 0, 1) := by decide +kernel
theorem dX9_live_34 : decode cX9_live 34 = .ok (.lcmp, 1) := by decide +kernel
theorem dX9_live_35 : decode cX9_live 35 = .ok (.ifCond .le 7, 3) := by decide +kernel
theorem dX9_live_38 : decode cX9_live 38 = .ok (.iconst 1, 1) := by decide +kernel
theorem dX9_live_39 : decode cX9_live 39 = .ok (.goto 4, 3) := by decide +kernel
theorem dX9_live_42 : decode cX9_live 42 = .ok (.iconst 0, 1) := by decide +kernel
theorem dX9_live_43 : decode cX9_live 43 = .ok (.iadd, 1) := by decide +kernel
theorem dX9_live_44 : decode cX9_live 44 = .ok (.istore_n 1, 1) := by decide +kernel
theorem dX9_live_45 : decode cX9_live 45 = .ok (.iinc 2 1, 3) := by decide +kernel
theorem dX9_live_48 : decode cX9_live 48 = .ok (.goto (-30), 3) := by decide +kernel
theorem dX9_live_51 : decode cX9_live 51 = .ok (.iload_n 1, 1) := by decide +kernel
theorem dX9_live_52 : decode cX9_live 52 = .ok (.ireturn, 1) := by decide +kernel
theorem dX9_standingOf_0 : decode cX9_standingOf 0 = .ok (.iconst 0, 1) := by decide +kernel
theorem dX9_standingOf_1 : decode cX9_standingOf 1 = .ok (.istore_n 2, 1) := by decide +kernel
theorem dX9_standingOf_2 : decode cX9_standingOf 2 = .ok (.iconst 0, 1) := by decide +kernel
theorem dX9_standingOf_3 : decode cX9_standingOf 3 = .ok (.istore_n 3, 1) := by decide +kernel
theorem dX9_standingOf_4 : decode cX9_standingOf 4 = .ok (.iload_n 3, 1) := by decide +kernel
theorem dX9_standingOf_5 : decode cX9_standingOf 5 = .ok (.aload_n 0, 1) := by decide +kernel
theorem dX9_standingOf_6 : decode cX9_standingOf 6 = .ok (.getfield 79, 3) := by decide +kernel
theorem dX9_standingOf_9 : decode cX9_standingOf 9 = .ok (.if_icmp .ge 18, 3) := by decide +kernel
theorem dX9_standingOf_12 : decode cX9_standingOf 12 = .ok (.iload_n 2, 1) := by decide +kernel
theorem dX9_standingOf_13 : decode cX9_standingOf 13 = .ok (.aload_n 0, 1) := by decide +kernel
theorem dX9_standingOf_14 : decode cX9_standingOf 14 = .ok (.iload_n 1, 1) := by decide +kernel
theorem dX9_standingOf_15 : decode cX9_standingOf 15 = .ok (.iload_n 3, 1) := by decide +kernel
theorem dX9_standingOf_16 : decode cX9_standingOf 16 = .ok (.invokevirtual 122, 3) := by decide +kernel
theorem dX9_standingOf_19 : decode cX9_standingOf 19 = .ok (.iadd, 1) := by decide +kernel
theorem dX9_standingOf_20 : decode cX9_standingOf 20 = .ok (.istore_n 2, 1) := by decide +kernel
theorem dX9_standingOf_21 : decode cX9_standingOf 21 = .ok (.iinc 3 1, 3) := by decide +kernel
theorem dX9_standingOf_24 : decode cX9_standingOf 24 = .ok (.goto (-20), 3) := by decide +kernel
theorem dX9_standingOf_27 : decode cX9_standingOf 27 = .ok (.iload_n 2, 1) := by decide +kernel
theorem dX9_standingOf_28 : decode cX9_standingOf 28 = .ok (.ireturn, 1) := by decide +kernel
theorem dX9_standing_0 : decode cX9_standing 0 = .ok (.aload_n 0, 1) := by decide +kernel
theorem dX9_standing_1 : decode cX9_standing 1 = .ok (.iload_n 1, 1) := by decide +kernel
theorem dX9_standing_2 : decode cX9_standing 2 = .ok (.invokevirtual 86, 3) := by decide +kernel
theorem dX9_standing_5 : decode cX9_standing 5 = .ok (.ifCond .eq 11, 3) := by decide +kernel
theorem dX9_standing_8 : decode cX9_standing 8 = .ok (.aload_n 0, 1) := by decide +kernel
theorem dX9_standing_9 : decode cX9_standing 9 = .ok (.iload_n 1, 1) := by decide +kernel
theorem dX9_standing_10 : decode cX9_standing 10 = .ok (.invokevirtual 177, 3) := by decide +kernel
theorem dX9_standing_13 : decode cX9_standing 13 = .ok (.goto 5, 3) := by decide +kernel
theorem dX9_standing_16 : decode cX9_standing 16 = .ok (.ldc 121, 2) := by decide +kernel
theorem dX9_standing_18 : decode cX9_standing 18 = .ok (.ireturn, 1) := by decide +kernel
theorem dX9_placeOf_0 : decode cX9_placeOf 0 = .ok (.iconst 0, 1) := by decide +kernel
theorem dX9_placeOf_1 : decode cX9_placeOf 1 = .ok (.istore_n 3, 1) := by decide +kernel
theorem dX9_placeOf_2 : decode cX9_placeOf 2 = .ok (.iload_n 3, 1) := by decide +kernel
theorem dX9_placeOf_3 : decode cX9_placeOf 3 = .ok (.aload_n 0, 1) := by decide +kernel
theorem dX9_placeOf_4 : decode cX9_placeOf 4 = .ok (.getfield 19, 3) := by decide +kernel
theorem dX9_placeOf_7 : decode cX9_placeOf 7 = .ok (.iload_n 1, 1) := by decide +kernel
theorem dX9_placeOf_8 : decode cX9_placeOf 8 = .ok (.iaload, 1) := by decide +kernel
theorem dX9_placeOf_9 : decode cX9_placeOf 9 = .ok (.if_icmp .ge 26, 3) := by decide +kernel
theorem dX9_placeOf_12 : decode cX9_placeOf 12 = .ok (.aload_n 0, 1) := by decide +kernel
theorem dX9_placeOf_13 : decode cX9_placeOf 13 = .ok (.getfield 22, 3) := by decide +kernel
theorem dX9_placeOf_16 : decode cX9_placeOf 16 = .ok (.bipush 10, 2) := by decide +kernel
theorem dX9_placeOf_18 : decode cX9_placeOf 18 = .ok (.iload_n 1, 1) := by decide +kernel
theorem dX9_placeOf_19 : decode cX9_placeOf 19 = .ok (.imul, 1) := by decide +kernel
theorem dX9_placeOf_20 : decode cX9_placeOf 20 = .ok (.iload_n 3, 1) := by decide +kernel
theorem dX9_placeOf_21 : decode cX9_placeOf 21 = .ok (.iadd, 1) := by decide +kernel
theorem dX9_placeOf_22 : decode cX9_placeOf 22 = .ok (.iaload, 1) := by decide +kernel
theorem dX9_placeOf_23 : decode cX9_placeOf 23 = .ok (.iload_n 2, 1) := by decide +kernel
theorem dX9_placeOf_24 : decode cX9_placeOf 24 = .ok (.if_icmp .ne 5, 3) := by decide +kernel
theorem dX9_placeOf_27 : decode cX9_placeOf 27 = .ok (.iload_n 3, 1) := by decide +kernel
theorem dX9_placeOf_28 : decode cX9_placeOf 28 = .ok (.ireturn, 1) := by decide +kernel
theorem dX9_placeOf_29 : decode cX9_placeOf 29 = .ok (.iinc 3 1, 3) := by decide +kernel
theorem dX9_placeOf_32 : decode cX9_placeOf 32 = .ok (.goto (-30), 3) := by decide +kernel
theorem dX9_placeOf_35 : decode cX9_placeOf 35 = .ok (.iconst (-1), 1) := by decide +kernel
theorem dX9_placeOf_36 : decode cX9_placeOf 36 = .ok (.ireturn, 1) := by decide +kernel
theorem dX9_putBack_0 : decode cX9_putBack 0 = .ok (.aload_n 0, 1) := by decide +kernel
theorem dX9_putBack_1 : decode cX9_putBack 1 = .ok (.getfield 19, 3) := by decide +kernel
theorem dX9_putBack_4 : decode cX9_putBack 4 = .ok (.iload_n 1, 1) := by decide +kernel
theorem dX9_putBack_5 : decode cX9_putBack 5 = .ok (.iaload, 1) := by decide +kernel
theorem dX9_putBack_6 : decode cX9_putBack 6 = .ok (.istore 4, 2) := by decide +kernel
theorem dX9_putBack_8 : decode cX9_putBack 8 = .ok (.iload 4, 2) := by decide +kernel
theorem dX9_putBack_10 : decode cX9_putBack 10 = .ok (.iload_n 2, 1) := by decide +kernel
theorem dX9_putBack_11 : decode cX9_putBack 11 = .ok (.if_icmp .le 35, 3) := by decide +kernel
theorem dX9_putBack_14 : decode cX9_putBack 14 = .ok (.aload_n 0, 1) := by decide +kernel
theorem dX9_putBack_15 : decode cX9_putBack 15 = .ok (.getfield 22, 3) := by decide +kernel
theorem dX9_putBack_18 : decode cX9_putBack 18 = .ok (.bipush 10, 2) := by decide +kernel
theorem dX9_putBack_20 : decode cX9_putBack 20 = .ok (.iload_n 1, 1) := by decide +kernel
theorem dX9_putBack_21 : decode cX9_putBack 21 = .ok (.imul, 1) := by decide +kernel
theorem dX9_putBack_22 : decode cX9_putBack 22 = .ok (.iload 4, 2) := by decide +kernel
theorem dX9_putBack_24 : decode cX9_putBack 24 = .ok (.iadd, 1) := by decide +kernel
theorem dX9_putBack_25 : decode cX9_putBack 25 = .ok (.aload_n 0, 1) := by decide +kernel
theorem dX9_putBack_26 : decode cX9_putBack 26 = .ok (.getfield 22, 3) := by decide +kernel
theorem dX9_putBack_29 : decode cX9_putBack 29 = .ok (.bipush 10, 2) := by decide +kernel
theorem dX9_putBack_31 : decode cX9_putBack 31 = .ok (.iload_n 1, 1) := by decide +kernel
theorem dX9_putBack_32 : decode cX9_putBack 32 = .ok (.imul, 1) := by decide +kernel
theorem dX9_putBack_33 : decode cX9_putBack 33 = .ok (.iload 4, 2) := by decide +kernel
theorem dX9_putBack_35 : decode cX9_putBack 35 = .ok (.iadd, 1) := by decide +kernel
theorem dX9_putBack_36 : decode cX9_putBack 36 = .ok (.iconst 1, 1) := by decide +kernel
theorem dX9_putBack_37 : decode cX9_putBack 37 = .ok (.isub, 1) := by decide +kernel
theorem dX9_putBack_38 : decode cX9_putBack 38 = .ok (.iaload, 1) := by decide +kernel
theorem dX9_putBack_39 : decode cX9_putBack 39 = .ok (.iastore, 1) := by decide +kernel
theorem dX9_putBack_40 : decode cX9_putBack 40 = .ok (.iinc 4 (-1), 3) := by decide +kernel
theorem dX9_putBack_43 : decode cX9_putBack 43 = .ok (.goto (-35), 3) := by decide +kernel
theorem dX9_putBack_46 : decode cX9_putBack 46 = .ok (.aload_n 0, 1) := by decide +kernel
theorem dX9_putBack_47 : decode cX9_putBack 47 = .ok (.getfield 22, 3) := by decide +kernel
theorem dX9_putBack_50 : decode cX9_putBack 50 = .ok (.bipush 10, 2) := by decide +kernel
theorem dX9_putBack_52 : decode cX9_putBack 52 = .ok (.iload_n 1, 1) := by decide +kernel
theorem dX9_putBack_53 : decode cX9_putBack 53 = .ok (.imul, 1) := by decide +kernel
theorem dX9_putBack_54 : decode cX9_putBack 54 = .ok (.iload_n 2, 1) := by decide +kernel
theorem dX9_putBack_55 : decode cX9_putBack 55 = .ok (.iadd, 1) := by decide +kernel
theorem dX9_putBack_56 : decode cX9_putBack 56 = .ok (.iload_n 3, 1) := by decide +kernel
theorem dX9_putBack_57 : decode cX9_putBack 57 = .ok (.iastore, 1) := by decide +kernel
theorem dX9_putBack_58 : decode cX9_putBack 58 = .ok (.aload_n 0, 1) := by decide +kernel
theorem dX9_putBack_59 : decode cX9_putBack 59 = .ok (.getfield 19, 3) := by decide +kernel
theorem dX9_putBack_62 : decode cX9_putBack 62 = .ok (.iload_n 1, 1) := by decide +kernel
theorem dX9_putBack_63 : decode cX9_putBack 63 = .ok (.dup2, 1) := by decide +kernel
theorem dX9_putBack_64 : decode cX9_putBack 64 = .ok (.iaload, 1) := by decide +kernel
theorem dX9_putBack_65 : decode cX9_putBack 65 = .ok (.iconst 1, 1) := by decide +kernel
theorem dX9_putBack_66 : decode cX9_putBack 66 = .ok (.iadd, 1) := by decide +kernel
theorem dX9_putBack_67 : decode cX9_putBack 67 = .ok (.iastore, 1) := by decide +kernel
theorem dX9_putBack_68 : decode cX9_putBack 68 = .ok (.return_, 1) := by decide +kernel
theorem dX9_worth_0 : decode cX9_worth 0 = .ok (.aload_n 0, 1) := by decide +kernel
theorem dX9_worth_1 : decode cX9_worth 1 = .ok (.iload_n 1, 1) := by decide +kernel
theorem dX9_worth_2 : decode cX9_worth 2 = .ok (.invokevirtual 86, 3) := by decide +kernel
theorem dX9_worth_5 : decode cX9_worth 5 = .ok (.ifCond .eq 20, 3) := by decide +kernel
theorem dX9_worth_8 : decode cX9_worth 8 = .ok (.aload_n 0, 1) := by decide +kernel
theorem dX9_worth_9 : decode cX9_worth 9 = .ok (.iload_n 2, 1) := by decide +kernel
theorem dX9_worth_10 : decode cX9_worth 10 = .ok (.invokevirtual 82, 3) := by decide +kernel
theorem dX9_worth_13 : decode cX9_worth 13 = .ok (.ifCond .eq 12, 3) := by decide +kernel
theorem dX9_worth_16 : decode cX9_worth 16 = .ok (.aload_n 0, 1) := by decide +kernel
theorem dX9_worth_17 : decode cX9_worth 17 = .ok (.iload_n 1, 1) := by decide +kernel
theorem dX9_worth_18 : decode cX9_worth 18 = .ok (.iload_n 2, 1) := by decide +kernel
theorem dX9_worth_19 : decode cX9_worth 19 = .ok (.invokevirtual 180, 3) := by decide +kernel
theorem dX9_worth_22 : decode cX9_worth 22 = .ok (.goto 4, 3) := by decide +kernel
theorem dX9_worth_25 : decode cX9_worth 25 = .ok (.iconst (-1), 1) := by decide +kernel
theorem dX9_worth_26 : decode cX9_worth 26 = .ok (.istore_n 3, 1) := by decide +kernel
theorem dX9_worth_27 : decode cX9_worth 27 = .ok (.iload_n 3, 1) := by decide +kernel
theorem dX9_worth_28 : decode cX9_worth 28 = .ok (.iconst (-1), 1) := by decide +kernel
theorem dX9_worth_29 : decode cX9_worth 29 = .ok (.if_icmp .ne 6, 3) := by decide +kernel
theorem dX9_worth_32 : decode cX9_worth 32 = .ok (.ldc 121, 2) := by decide +kernel
theorem dX9_worth_34 : decode cX9_worth 34 = .ok (.ireturn, 1) := by decide +kernel
theorem dX9_worth_35 : decode cX9_worth 35 = .ok (.aload_n 0, 1) := by decide +kernel
theorem dX9_worth_36 : decode cX9_worth 36 = .ok (.iload_n 1, 1) := by decide +kernel
theorem dX9_worth_37 : decode cX9_worth 37 = .ok (.invokevirtual 177, 3) := by decide +kernel
theorem dX9_worth_40 : decode cX9_worth 40 = .ok (.istore 4, 2) := by decide +kernel
theorem dX9_worth_42 : decode cX9_worth 42 = .ok (.aload_n 0, 1) := by decide +kernel
theorem dX9_worth_43 : decode cX9_worth 43 = .ok (.iload_n 1, 1) := by decide +kernel
theorem dX9_worth_44 : decode cX9_worth 44 = .ok (.iload_n 3, 1) := by decide +kernel
theorem dX9_worth_45 : decode cX9_worth 45 = .ok (.invokevirtual 93, 3) := by decide +kernel
theorem dX9_worth_48 : decode cX9_worth 48 = .ok (.aload_n 0, 1) := by decide +kernel
theorem dX9_worth_49 : decode cX9_worth 49 = .ok (.iload_n 1, 1) := by decide +kernel
theorem dX9_worth_50 : decode cX9_worth 50 = .ok (.invokevirtual 177, 3) := by decide +kernel
theorem dX9_worth_53 : decode cX9_worth 53 = .ok (.istore 5, 2) := by decide +kernel
theorem dX9_worth_55 : decode cX9_worth 55 = .ok (.aload_n 0, 1) := by decide +kernel
theorem dX9_worth_56 : decode cX9_worth 56 = .ok (.iload_n 1, 1) := by decide +kernel
theorem dX9_worth_57 : decode cX9_worth 57 = .ok (.iload_n 3, 1) := by decide +kernel
theorem dX9_worth_58 : decode cX9_worth 58 = .ok (.iload_n 2, 1) := by decide +kernel
theorem dX9_worth_59 : decode cX9_worth 59 = .ok (.invokevirtual 183, 3) := by decide +kernel
theorem dX9_worth_62 : decode cX9_worth 62 = .ok (.iload 4, 2) := by decide +kernel
theorem dX9_worth_64 : decode cX9_worth 64 = .ok (.iload 5, 2) := by decide +kernel
theorem dX9_worth_66 : decode cX9_worth 66 = .ok (.isub, 1) := by decide +kernel
theorem dX9_worth_67 : decode cX9_worth 67 = .ok (.ireturn, 1) := by decide +kernel
theorem dX9_idle_0 : decode cX9_idle 0 = .ok (.aload_n 0, 1) := by decide +kernel
theorem dX9_idle_1 : decode cX9_idle 1 = .ok (.iload_n 1, 1) := by decide +kernel
theorem dX9_idle_2 : decode cX9_idle 2 = .ok (.invokevirtual 86, 3) := by decide +kernel
theorem dX9_idle_5 : decode cX9_idle 5 = .ok (.ifCond .eq 11, 3) := by decide +kernel
theorem dX9_idle_8 : decode cX9_idle 8 = .ok (.aload_n 0, 1) := by decide +kernel
theorem dX9_idle_9 : decode cX9_idle 9 = .ok (.iload_n 2, 1) := by decide +kernel
theorem dX9_idle_10 : decode cX9_idle 10 = .ok (.invokevirtual 82, 3) := by decide +kernel
theorem dX9_idle_13 : decode cX9_idle 13 = .ok (.ifCond .ne 6, 3) := by decide +kernel
theorem dX9_idle_16 : decode cX9_idle 16 = .ok (.bipush (-2), 2) := by decide +kernel
theorem dX9_idle_18 : decode cX9_idle 18 = .ok (.ireturn, 1) := by decide +kernel
theorem dX9_idle_19 : decode cX9_idle 19 = .ok (.aload_n 0, 1) := by decide +kernel
theorem dX9_idle_20 : decode cX9_idle 20 = .ok (.iload_n 1, 1) := by decide +kernel
theorem dX9_idle_21 : decode cX9_idle 21 = .ok (.iload_n 2, 1) := by decide +kernel
theorem dX9_idle_22 : decode cX9_idle 22 = .ok (.invokevirtual 180, 3) := by decide +kernel
theorem dX9_idle_25 : decode cX9_idle 25 = .ok (.istore_n 3, 1) := by decide +kernel
theorem dX9_idle_26 : decode cX9_idle 26 = .ok (.iload_n 3, 1) := by decide +kernel
theorem dX9_idle_27 : decode cX9_idle 27 = .ok (.iconst (-1), 1) := by decide +kernel
theorem dX9_idle_28 : decode cX9_idle 28 = .ok (.if_icmp .ne 6, 3) := by decide +kernel
theorem dX9_idle_31 : decode cX9_idle 31 = .ok (.bipush (-3), 2) := by decide +kernel
theorem dX9_idle_33 : decode cX9_idle 33 = .ok (.ireturn, 1) := by decide +kernel
theorem dX9_idle_34 : decode cX9_idle 34 = .ok (.iconst 0, 1) := by decide +kernel
theorem dX9_idle_35 : decode cX9_idle 35 = .ok (.istore 4, 2) := by decide +kernel
theorem dX9_idle_37 : decode cX9_idle 37 = .ok (.iload 4, 2) := by decide +kernel
theorem dX9_idle_39 : decode cX9_idle 39 = .ok (.aload_n 0, 1) := by decide +kernel
theorem dX9_idle_40 : decode cX9_idle 40 = .ok (.getfield 79, 3) := by decide +kernel
theorem dX9_idle_43 : decode cX9_idle 43 = .ok (.if_icmp .ge 23, 3) := by decide +kernel
theorem dX9_idle_46 : decode cX9_idle 46 = .ok (.aload_n 0, 1) := by decide +kernel
theorem dX9_idle_47 : decode cX9_idle 47 = .ok (.getfield 69, 3) := by decide +kernel
theorem dX9_idle_50 : decode cX9_idle 50 = .ok (.iload 4, 2) := by decide +kernel
theorem dX9_idle_52 : decode cX9_idle 52 = .ok (.aload_n 0, 1) := by decide +kernel
theorem dX9_idle_53 : decode cX9_idle 53 = .ok (.iload_n 1, 1) := by decide +kernel
theorem dX9_idle_54 : decode cX9_idle 54 = .ok (.iload 4, 2) := by decide +kernel
theorem dX9_idle_56 : decode cX9_idle 56 = .ok (.invokevirtual 122, 3) := by decide +kernel
theorem dX9_idle_59 : decode cX9_idle 59 = .ok (.iastore, 1) := by decide +kernel
theorem dX9_idle_60 : decode cX9_idle 60 = .ok (.iinc 4 1, 3) := by decide +kernel
theorem dX9_idle_63 : decode cX9_idle 63 = .ok (.goto (-26), 3) := by decide +kernel
theorem dX9_idle_66 : decode cX9_idle 66 = .ok (.aload_n 0, 1) := by decide +kernel
theorem dX9_idle_67 : decode cX9_idle 67 = .ok (.iload_n 1, 1) := by decide +kernel
theorem dX9_idle_68 : decode cX9_idle 68 = .ok (.iload_n 3, 1) := by decide +kernel
theorem dX9_idle_69 : decode cX9_idle 69 = .ok (.invokevirtual 93, 3) := by decide +kernel
theorem dX9_idle_72 : decode cX9_idle 72 = .ok (.iconst 1, 1) := by decide +kernel
theorem dX9_idle_73 : decode cX9_idle 73 = .ok (.istore 4, 2) := by decide +kernel
theorem dX9_idle_75 : decode cX9_idle 75 = .ok (.iconst 0, 1) := by decide +kernel
theorem dX9_idle_76 : decode cX9_idle 76 = .ok (.istore 5, 2) := by decide +kernel
theorem dX9_idle_78 : decode cX9_idle 78 = .ok (.iload 5, 2) := by decide +kernel
theorem dX9_idle_80 : decode cX9_idle 80 = .ok (.aload_n 0, 1) := by decide +kernel
theorem dX9_idle_81 : decode cX9_idle 81 = .ok (.getfield 79, 3) := by decide +kernel
theorem dX9_idle_84 : decode cX9_idle 84 = .ok (.if_icmp .ge 38, 3) := by decide +kernel
theorem dX9_idle_87 : decode cX9_idle 87 = .ok (.iload 4, 2) := by decide +kernel
theorem dX9_idle_89 : decode cX9_idle 89 = .ok (.ifCond .eq 24, 3) := by decide +kernel
theorem dX9_idle_92 : decode cX9_idle 92 = .ok (.aload_n 0, 1) := by decide +kernel
theorem dX9_idle_93 : decode cX9_idle 93 = .ok (.getfield 69, 3) := by decide +kernel
theorem dX9_idle_96 : decode cX9_idle 96 = .ok (.iload 5, 2) := by decide +kernel
theorem dX9_idle_98 : decode cX9_idle 98 = .ok (.iaload, 1) := by decide +kernel
theorem dX9_idle_99 : decode cX9_idle 99 = .ok (.aload_n 0, 1) := by decide +kernel
theorem dX9_idle_100 : decode cX9_idle 100 = .ok (.iload_n 1, 1) := by decide +kernel
theorem dX9_idle_101 : decode cX9_idle 101 = .ok (.iload 5, 2) := by decide +kernel
theorem dX9_idle_103 : decode cX9_idle 103 = .ok (.invokevirtual 122, 3) := by decide +kernel
theorem dX9_idle_106 : decode cX9_idle 106 = .ok (.if_icmp .ne 7, 3) := by decide +kernel
theorem dX9_idle_109 : decode cX9_idle 109 = .ok (.iconst 1, 1) := by decide +kernel
theorem dX9_idle_110 : decode cX9_idle 110 = .ok (.goto 4, 3) := by decide +kernel
theorem dX9_idle_113 : decode cX9_idle 113 = .ok (.iconst 0, 1) := by decide +kernel
theorem dX9_idle_114 : decode cX9_idle 114 = .ok (.istore 4, 2) := by decide +kernel
theorem dX9_idle_116 : decode cX9_idle 116 = .ok (.iinc 5 1, 3) := by decide +kernel
theorem dX9_idle_119 : decode cX9_idle 119 = .ok (.goto (-41), 3) := by decide +kernel
theorem dX9_idle_122 : decode cX9_idle 122 = .ok (.aload_n 0, 1) := by decide +kernel
theorem dX9_idle_123 : decode cX9_idle 123 = .ok (.iload_n 1, 1) := by decide +kernel
theorem dX9_idle_124 : decode cX9_idle 124 = .ok (.iload_n 3, 1) := by decide +kernel
theorem dX9_idle_125 : decode cX9_idle 125 = .ok (.iload_n 2, 1) := by decide +kernel
theorem dX9_idle_126 : decode cX9_idle 126 = .ok (.invokevirtual 183, 3) := by decide +kernel
theorem dX9_idle_129 : decode cX9_idle 129 = .ok (.iload 4, 2) := by decide +kernel
theorem dX9_idle_131 : decode cX9_idle 131 = .ok (.ifCond .eq 7, 3) := by decide +kernel
theorem dX9_idle_134 : decode cX9_idle 134 = .ok (.iconst 1, 1) := by decide +kernel
theorem dX9_idle_135 : decode cX9_idle 135 = .ok (.goto 4, 3) := by decide +kernel
theorem dX9_idle_138 : decode cX9_idle 138 = .ok (.iconst 0, 1) := by decide +kernel
theorem dX9_idle_139 : decode cX9_idle 139 = .ok (.ireturn, 1) := by decide +kernel
theorem dX9_isRemedied_0 : decode cX9_isRemedied 0 = .ok (.aload_n 0, 1) := by decide +kernel
theorem dX9_isRemedied_1 : decode cX9_isRemedied 1 = .ok (.invokevirtual 174, 3) := by decide +kernel
theorem dX9_isRemedied_4 : decode cX9_isRemedied 4 = .ok (.iconst 1, 1) := by decide +kernel
theorem dX9_isRemedied_5 : decode cX9_isRemedied 5 = .ok (.istore_n 3, 1) := by decide +kernel
theorem dX9_isRemedied_6 : decode cX9_isRemedied 6 = .ok (.iconst 0, 1) := by decide +kernel
theorem dX9_isRemedied_7 : decode cX9_isRemedied 7 = .ok (.istore 4, 2) := by decide +kernel
theorem dX9_isRemedied_9 : decode cX9_isRemedied 9 = .ok (.iload 4, 2) := by decide +kernel
theorem dX9_isRemedied_11 : decode cX9_isRemedied 11 = .ok (.aload_n 0, 1) := by decide +kernel
theorem dX9_isRemedied_12 : decode cX9_isRemedied 12 = .ok (.getfield 79, 3) := by decide +kernel
theorem dX9_isRemedied_15 : decode cX9_isRemedied 15 = .ok (.if_icmp .ge 43, 3) := by decide +kernel
theorem dX9_isRemedied_18 : decode cX9_isRemedied 18 = .ok (.iload_n 3, 1) := by decide +kernel
theorem dX9_isRemedied_19 : decode cX9_isRemedied 19 = .ok (.ifCond .eq 31, 3) := by decide +kernel
theorem dX9_isRemedied_22 : decode cX9_isRemedied 22 = .ok (.aload_n 0, 1) := by decide +kernel
theorem dX9_isRemedied_23 : decode cX9_isRemedied 23 = .ok (.getfield 63, 3) := by decide +kernel
theorem dX9_isRemedied_26 : decode cX9_isRemedied 26 = .ok (.iload 4, 2) := by decide +kernel
theorem dX9_isRemedied_28 : decode cX9_isRemedied 28 = .ok (.laload, 1) := by decide +kernel
theorem dX9_isRemedied_29 : decode cX9_isRemedied 29 = .ok (.iload_n 2, 1) := by decide +kernel
theorem dX9_isRemedied_30 : decode cX9_isRemedied 30 = .ok (.i2l, 1) := by decide +kernel
theorem dX9_isRemedied_31 : decode cX9_isRemedied 31 = .ok (.lmul, 1) := by decide +kernel
theorem dX9_isRemedied_32 : decode cX9_isRemedied 32 = .ok (.iload_n 1, 1) := by decide +kernel
theorem dX9_isRemedied_33 : decode cX9_isRemedied 33 = .ok (.i2l, 1) := by decide +kernel
theorem dX9_isRemedied_34 : decode cX9_isRemedied 34 = .ok (.aload_n 0, 1) := by decide +kernel
theorem dX9_isRemedied_35 : decode cX9_isRemedied 35 = .ok (.getfield 66, 3) := by decide +kernel
theorem dX9_isRemedied_38 : decode cX9_isRemedied 38 = .ok (.iload 4, 2) := by decide +kernel
theorem dX9_isRemedied_40 : decode cX9_isRemedied 40 = .ok (.laload, 1) := by decide +kernel
theorem dX9_isRemedied_41 : decode cX9_isRemedied 41 = .ok (.lmul, 1) := by decide +kernel
theorem dX9_isRemedied_42 : decode cX9_isRemedied 42 = .ok (.lcmp, 1) := by decide +kernel
theorem dX9_isRemedied_43 : decode cX9_isRemedied 43 = .ok (.ifCond .gt 7, 3) := by decide +kernel
theorem dX9_isRemedied_46 : decode cX9_isRemedied 46 = .ok (.iconst 1, 1) := by decide +kernel
theorem dX9_isRemedied_47 : decode cX9_isRemedied 47 = .ok (.goto 4, 3) := by decide +kernel
theorem dX9_isRemedied_50 : decode cX9_isRemedied 50 = .ok (.iconst 0, 1) := by decide +kernel
theorem dX9_isRemedied_51 : decode cX9_isRemedied 51 = .ok (.istore_n 3, 1) := by decide +kernel
theorem dX9_isRemedied_52 : decode cX9_isRemedied 52 = .ok (.iinc 4 1, 3) := by decide +kernel
theorem dX9_isRemedied_55 : decode cX9_isRemedied 55 = .ok (.goto (-46), 3) := by decide +kernel
theorem dX9_isRemedied_58 : decode cX9_isRemedied 58 = .ok (.iload_n 3, 1) := by decide +kernel
theorem dX9_isRemedied_59 : decode cX9_isRemedied 59 = .ok (.ireturn, 1) := by decide +kernel
theorem dX9_remedy_0 : decode cX9_remedy 0 = .ok (.iload_n 2, 1) := by decide +kernel
theorem dX9_remedy_1 : decode cX9_remedy 1 = .ok (.iconst 1, 1) := by decide +kernel
theorem dX9_remedy_2 : decode cX9_remedy 2 = .ok (.bipush 20, 2) := by decide +kernel
theorem dX9_remedy_4 : decode cX9_remedy 4 = .ok (.invokestatic 75, 3) := by decide +kernel
theorem dX9_remedy_7 : decode cX9_remedy 7 = .ok (.ifCond .eq 12, 3) := by decide +kernel
theorem dX9_remedy_10 : decode cX9_remedy 10 = .ok (.iload_n 1, 1) := by decide +kernel
theorem dX9_remedy_11 : decode cX9_remedy 11 = .ok (.iconst 1, 1) := by decide +kernel
theorem dX9_remedy_12 : decode cX9_remedy 12 = .ok (.iload_n 2, 1) := by decide +kernel
theorem dX9_remedy_13 : decode cX9_remedy 13 = .ok (.invokestatic 75, 3) := by decide +kernel
theorem dX9_remedy_16 : decode cX9_remedy 16 = .ok (.ifCond .ne 6, 3) := by decide +kernel
theorem dX9_remedy_19 : decode cX9_remedy 19 = .ok (.bipush (-2), 2) := by decide +kernel
theorem dX9_remedy_21 : decode cX9_remedy 21 = .ok (.ireturn, 1) := by decide +kernel
theorem dX9_remedy_22 : decode cX9_remedy 22 = .ok (.aload_n 0, 1) := by decide +kernel
theorem dX9_remedy_23 : decode cX9_remedy 23 = .ok (.getfield 79, 3) := by decide +kernel
theorem dX9_remedy_26 : decode cX9_remedy 26 = .ok (.ifCond .ne 6, 3) := by decide +kernel
theorem dX9_remedy_29 : decode cX9_remedy 29 = .ok (.bipush (-3), 2) := by decide +kernel
theorem dX9_remedy_31 : decode cX9_remedy 31 = .ok (.ireturn, 1) := by decide +kernel
theorem dX9_remedy_32 : decode cX9_remedy 32 = .ok (.iconst 1, 1) := by decide +kernel
theorem dX9_remedy_33 : decode cX9_remedy 33 = .ok (.istore_n 3, 1) := by decide +kernel
theorem dX9_remedy_34 : decode cX9_remedy 34 = .ok (.iload_n 3, 1) := by decide +kernel
theorem dX9_remedy_35 : decode cX9_remedy 35 = .ok (.bipush 9, 2) := by decide +kernel
theorem dX9_remedy_37 : decode cX9_remedy 37 = .ok (.if_icmp .gt 120, 3) := by decide +kernel
theorem dX9_remedy_40 : decode cX9_remedy 40 = .ok (.iconst 0, 1) := by decide +kernel
theorem dX9_remedy_41 : decode cX9_remedy 41 = .ok (.istore 4, 2) := by decide +kernel
theorem dX9_remedy_43 : decode cX9_remedy 43 = .ok (.iload 4, 2) := by decide +kernel
theorem dX9_remedy_45 : decode cX9_remedy 45 = .ok (.aload_n 0, 1) := by decide +kernel
theorem dX9_remedy_46 : decode cX9_remedy 46 = .ok (.getfield 72, 3) := by decide +kernel
theorem dX9_remedy_49 : decode cX9_remedy 49 = .ok (.if_icmp .ge 102, 3) := by decide +kernel
theorem dX9_remedy_52 : decode cX9_remedy 52 = .ok (.iconst 0, 1) := by decide +kernel
theorem dX9_remedy_53 : decode cX9_remedy 53 = .ok (.istore 5, 2) := by decide +kernel
theorem dX9_remedy_55 : decode cX9_remedy 55 = .ok (.iload 5, 2) := by decide +kernel
theorem dX9_remedy_57 : decode cX9_remedy 57 = .ok (.iconst 2, 1) := by decide +kernel
theorem dX9_remedy_58 : decode cX9_remedy 58 = .ok (.if_icmp .ge 87, 3) := by decide +kernel
theorem dX9_remedy_61 : decode cX9_remedy 61 = .ok (.aload_n 0, 1) := by decide +kernel
theorem dX9_remedy_62 : decode cX9_remedy 62 = .ok (.getfield 16, 3) := by decide +kernel
theorem dX9_remedy_65 : decode cX9_remedy 65 = .ok (.iload 4, 2) := by decide +kernel
theorem dX9_remedy_67 : decode cX9_remedy 67 = .ok (.iaload, 1) := by decide +kernel
theorem dX9_remedy_68 : decode cX9_remedy 68 = .ok (.istore 6, 2) := by decide +kernel
theorem dX9_remedy_70 : decode cX9_remedy 70 = .ok (.iload 5, 2) := by decide +kernel
theorem dX9_remedy_72 : decode cX9_remedy 72 = .ok (.ifCond .ne 10, 3) := by decide +kernel
theorem dX9_remedy_75 : decode cX9_remedy 75 = .ok (.iload 6, 2) := by decide +kernel
theorem dX9_remedy_77 : decode cX9_remedy 77 = .ok (.iload_n 3, 1) := by decide +kernel
theorem dX9_remedy_78 : decode cX9_remedy 78 = .ok (.isub, 1) := by decide +kernel
theorem dX9_remedy_79 : decode cX9_remedy 79 = .ok (.goto 7, 3) := by decide +kernel
theorem dX9_remedy_82 : decode cX9_remedy 82 = .ok (.iload 6, 2) := by decide +kernel
theorem dX9_remedy_84 : decode cX9_remedy 84 = .ok (.iload_n 3, 1) := by decide +kernel
theorem dX9_remedy_85 : decode cX9_remedy 85 = .ok (.iadd, 1) := by decide +kernel
theorem dX9_remedy_86 : decode cX9_remedy 86 = .ok (.istore 7, 2) := by decide +kernel
theorem dX9_remedy_88 : decode cX9_remedy 88 = .ok (.iload 7, 2) := by decide +kernel
theorem dX9_remedy_90 : decode cX9_remedy 90 = .ok (.iconst 0, 1) := by decide +kernel
theorem dX9_remedy_91 : decode cX9_remedy 91 = .ok (.bipush 9, 2) := by decide +kernel
theorem dX9_remedy_93 : decode cX9_remedy 93 = .ok (.invokestatic 75, 3) := by decide +kernel
theorem dX9_remedy_96 : decode cX9_remedy 96 = .ok (.ifCond .eq 43, 3) := by decide +kernel
theorem dX9_remedy_99 : decode cX9_remedy 99 = .ok (.aload_n 0, 1) := by decide +kernel
theorem dX9_remedy_100 : decode cX9_remedy 100 = .ok (.getfield 16, 3) := by decide +kernel
theorem dX9_remedy_103 : decode cX9_remedy 103 = .ok (.iload 4, 2) := by decide +kernel
theorem dX9_remedy_105 : decode cX9_remedy 105 = .ok (.iload 7, 2) := by decide +kernel
theorem dX9_remedy_107 : decode cX9_remedy 107 = .ok (.iastore, 1) := by decide +kernel
theorem dX9_remedy_108 : decode cX9_remedy 108 = .ok (.aload_n 0, 1) := by decide +kernel
theorem dX9_remedy_109 : decode cX9_remedy 109 = .ok (.iload_n 1, 1) := by decide +kernel
theorem dX9_remedy_110 : decode cX9_remedy 110 = .ok (.iload_n 2, 1) := by decide +kernel
theorem dX9_remedy_111 : decode cX9_remedy 111 = .ok (.invokevirtual 186, 3) := by decide +kernel
theorem dX9_remedy_114 : decode cX9_remedy 114 = .ok (.istore 8, 2) := by decide +kernel
theorem dX9_remedy_116 : decode cX9_remedy 116 = .ok (.aload_n 0, 1) := by decide +kernel
theorem dX9_remedy_117 : decode cX9_remedy 117 = .ok (.getfield 16, 3) := by decide +kernel
theorem dX9_remedy_120 : decode cX9_remedy 120 = .ok (.iload 4, 2) := by decide +kernel
theorem dX9_remedy_122 : decode cX9_remedy 122 = .ok (.iload 6, 2) := by decide +kernel
theorem dX9_remedy_124 : decode cX9_remedy 124 = .ok (.iastore, 1) := by decide +kernel
theorem dX9_remedy_125 : decode cX9_remedy 125 = .ok (.iload 8, 2) := by decide +kernel
theorem dX9_remedy_127 : decode cX9_remedy 127 = .ok (.ifCond .eq 12, 3) := by decide +kernel
theorem dX9_remedy_130 : decode cX9_remedy 130 = .ok (.bipush 10, 2) := by decide +kernel
theorem dX9_remedy_132 : decode cX9_remedy 132 = .ok (.iload 4, 2) := by decide +kernel
theorem dX9_remedy_134 : decode cX9_remedy 134 = .ok (.imul, 1) := by decide +kernel
theorem dX9_remedy_135 : decode cX9_remedy 135 = .ok (.iload 7, 2) := by decide +kernel
theorem dX9_remedy_137 : decode cX9_remedy 137 = .ok (.iadd, 1) := by decide +kernel
theorem dX9_remedy_138 : decode cX9_remedy 138 = .ok (.ireturn, 1) := by decide +kernel
theorem dX9_remedy_139 : decode cX9_remedy 139 = .ok (.iinc 5 1, 3) := by decide +kernel
theorem dX9_remedy_142 : decode cX9_remedy 142 = .ok (.goto (-87), 3) := by decide +kernel
theorem dX9_remedy_145 : decode cX9_remedy 145 = .ok (.iinc 4 1, 3) := by decide +kernel
theorem dX9_remedy_148 : decode cX9_remedy 148 = .ok (.goto (-105), 3) := by decide +kernel
theorem dX9_remedy_151 : decode cX9_remedy 151 = .ok (.iinc 3 1, 3) := by decide +kernel
theorem dX9_remedy_154 : decode cX9_remedy 154 = .ok (.goto (-120), 3) := by decide +kernel
theorem dX9_remedy_157 : decode cX9_remedy 157 = .ok (.iconst (-1), 1) := by decide +kernel
theorem dX9_remedy_158 : decode cX9_remedy 158 = .ok (.ireturn, 1) := by decide +kernel
theorem dX9_count_0 : decode cX9_count 0 = .ok (.iconst 0, 1) := by decide +kernel
theorem dX9_count_1 : decode cX9_count 1 = .ok (.istore_n 2, 1) := by decide +kernel
theorem dX9_count_2 : decode cX9_count 2 = .ok (.iload_n 1, 1) := by decide +kernel
theorem dX9_count_3 : decode cX9_count 3 = .ok (.tableswitch 71 0 3 #[29, 34, 39, 66], 29) := by decide +kernel
theorem dX9_count_32 : decode cX9_count 32 = .ok (.aload_n 0, 1) := by decide +kernel
theorem dX9_count_33 : decode cX9_count 33 = .ok (.getfield 72, 3) := by decide +kernel
theorem dX9_count_36 : decode cX9_count 36 = .ok (.ireturn, 1) := by decide +kernel
theorem dX9_count_37 : decode cX9_count 37 = .ok (.aload_n 0, 1) := by decide +kernel
theorem dX9_count_38 : decode cX9_count 38 = .ok (.getfield 79, 3) := by decide +kernel
theorem dX9_count_41 : decode cX9_count 41 = .ok (.ireturn, 1) := by decide +kernel
theorem dX9_count_42 : decode cX9_count 42 = .ok (.iconst 0, 1) := by decide +kernel
theorem dX9_count_43 : decode cX9_count 43 = .ok (.istore_n 3, 1) := by decide +kernel
theorem dX9_count_44 : decode cX9_count 44 = .ok (.iload_n 3, 1) := by decide +kernel
theorem dX9_count_45 : decode cX9_count 45 = .ok (.aload_n 0, 1) := by decide +kernel
theorem dX9_count_46 : decode cX9_count 46 = .ok (.getfield 79, 3) := by decide +kernel
theorem dX9_count_49 : decode cX9_count 49 = .ok (.if_icmp .ge 18, 3) := by decide +kernel
theorem dX9_count_52 : decode cX9_count 52 = .ok (.iload_n 2, 1) := by decide +kernel
theorem dX9_count_53 : decode cX9_count 53 = .ok (.aload_n 0, 1) := by decide +kernel
theorem dX9_count_54 : decode cX9_count 54 = .ok (.getfield 19, 3) := by decide +kernel
theorem dX9_count_57 : decode cX9_count 57 = .ok (.iload_n 3, 1) := by decide +kernel
theorem dX9_count_58 : decode cX9_count 58 = .ok (.iaload, 1) := by decide +kernel
theorem dX9_count_59 : decode cX9_count 59 = .ok (.iadd, 1) := by decide +kernel
theorem dX9_count_60 : decode cX9_count 60 = .ok (.istore_n 2, 1) := by decide +kernel
theorem dX9_count_61 : decode cX9_count 61 = .ok (.iinc 3 1, 3) := by decide +kernel
theorem dX9_count_64 : decode cX9_count 64 = .ok (.goto (-20), 3) := by decide +kernel
theorem dX9_count_67 : decode cX9_count 67 = .ok (.iload_n 2, 1) := by decide +kernel
theorem dX9_count_68 : decode cX9_count 68 = .ok (.ireturn, 1) := by decide +kernel
theorem dX9_count_69 : decode cX9_count 69 = .ok (.aload_n 0, 1) := by decide +kernel
theorem dX9_count_70 : decode cX9_count 70 = .ok (.getfield 25, 3) := by decide +kernel
theorem dX9_count_73 : decode cX9_count 73 = .ok (.ireturn, 1) := by decide +kernel
theorem dX9_count_74 : decode cX9_count 74 = .ok (.bipush (-2), 2) := by decide +kernel
theorem dX9_count_76 : decode cX9_count 76 = .ok (.ireturn, 1) := by decide +kernel
end
section
theorem dL_law_0 : decode cL_law 0 = .ok (.new 7, 3) := by decide +kernel
theorem dL_law_3 : decode cL_law 3 = .ok (.dup, 1) := by decide +kernel
theorem dL_law_4 : decode cL_law 4 = .ok (.invokespecial 9, 3) := by decide +kernel
theorem dL_law_7 : decode cL_law 7 = .ok (.astore_n 1, 1) := by decide +kernel
theorem dL_law_8 : decode cL_law 8 = .ok (.new 10, 3) := by decide +kernel
theorem dL_law_11 : decode cL_law 11 = .ok (.dup, 1) := by decide +kernel
theorem dL_law_12 : decode cL_law 12 = .ok (.invokespecial 12, 3) := by decide +kernel
theorem dL_law_15 : decode cL_law 15 = .ok (.astore_n 2, 1) := by decide +kernel
theorem dL_law_16 : decode cL_law 16 = .ok (.iconst 0, 1) := by decide +kernel
theorem dL_law_17 : decode cL_law 17 = .ok (.istore_n 3, 1) := by decide +kernel
theorem dL_law_18 : decode cL_law 18 = .ok (.iload_n 3, 1) := by decide +kernel
theorem dL_law_19 : decode cL_law 19 = .ok (.aload_n 0, 1) := by decide +kernel
theorem dL_law_20 : decode cL_law 20 = .ok (.arraylength, 1) := by decide +kernel
theorem dL_law_21 : decode cL_law 21 = .ok (.iconst 4, 1) := by decide +kernel
theorem dL_law_22 : decode cL_law 22 = .ok (.isub, 1) := by decide +kernel
theorem dL_law_23 : decode cL_law 23 = .ok (.if_icmp .gt 712, 3) := by decide +kernel
theorem dL_law_26 : decode cL_law 26 = .ok (.aload_n 0, 1) := by decide +kernel
theorem dL_law_27 : decode cL_law 27 = .ok (.iload_n 3, 1) := by decide +kernel
theorem dL_law_28 : decode cL_law 28 = .ok (.iaload, 1) := by decide +kernel
theorem dL_law_29 : decode cL_law 29 = .ok (.bipush 31, 2) := by decide +kernel
theorem dL_law_31 : decode cL_law 31 = .ok (.iand, 1) := by decide +kernel
theorem dL_law_32 : decode cL_law 32 = .ok (.tableswitch 697 0 19 #[96, 139, 172, 185, 218, 251, 294, 327, 350, 383, 426, 459, 472, 505, 539, 552, 575, 608, 641, 674], 96) := by decide +kernel
theorem dL_law_128 : decode cL_law 128 = .ok (.aload_n 1, 1) := by decide +kernel
theorem dL_law_129 : decode cL_law 129 = .ok (.aload_n 0, 1) := by decide +kernel
theorem dL_law_130 : decode cL_law 130 = .ok (.iload_n 3, 1) := by decide +kernel
theorem dL_law_131 : decode cL_law 131 = .ok (.iconst 1, 1) := by decide +kernel
theorem dL_law_132 : decode cL_law 132 = .ok (.iadd, 1) := by decide +kernel
theorem dL_law_133 : decode cL_law 133 = .ok (.iaload, 1) := by decide +kernel
theorem dL_law_134 : decode cL_law 134 = .ok (.aload_n 0, 1) := by decide +kernel
theorem dL_law_135 : decode cL_law 135 = .ok (.iload_n 3, 1) := by decide +kernel
theorem dL_law_136 : decode cL_law 136 = .ok (.iconst 2, 1) := by decide +kernel
theorem dL_law_137 : decode cL_law 137 = .ok (.iadd, 1) := by decide +kernel
theorem dL_law_138 : decode cL_law 138 = .ok (.iaload, 1) := by decide +kernel
theorem dL_law_139 : decode cL_law 139 = .ok (.aload_n 0, 1) := by decide +kernel
theorem dL_law_140 : decode cL_law 140 = .ok (.iload_n 3, 1) := by decide +kernel
theorem dL_law_141 : decode cL_law 141 = .ok (.iconst 3, 1) := by decide +kernel
theorem dL_law_142 : decode cL_law 142 = .ok (.iadd, 1) := by decide +kernel
theorem dL_law_143 : decode cL_law 143 = .ok (.iaload, 1) := by decide +kernel
theorem dL_law_144 : decode cL_law 144 = .ok (.invokevirtual 13, 3) := by decide +kernel
theorem dL_law_147 : decode cL_law 147 = .ok (.aload_n 2, 1) := by decide +kernel
theorem dL_law_148 : decode cL_law 148 = .ok (.aload_n 0, 1) := by decide +kernel
theorem dL_law_149 : decode cL_law 149 = .ok (.iload_n 3, 1) := by decide +kernel
theorem dL_law_150 : decode cL_law 150 = .ok (.iconst 1, 1) := by decide +kernel
theorem dL_law_151 : decode cL_law 151 = .ok (.iadd, 1) := by decide +kernel
theorem dL_law_152 : decode cL_law 152 = .ok (.iaload, 1) := by decide +kernel
theorem dL_law_153 : decode cL_law 153 = .ok (.aload_n 0, 1) := by decide +kernel
theorem dL_law_154 : decode cL_law 154 = .ok (.iload_n 3, 1) := by decide +kernel
theorem dL_law_155 : decode cL_law 155 = .ok (.iconst 2, 1) := by decide +kernel
theorem dL_law_156 : decode cL_law 156 = .ok (.iadd, 1) := by decide +kernel
theorem dL_law_157 : decode cL_law 157 = .ok (.iaload, 1) := by decide +kernel
theorem dL_law_158 : decode cL_law 158 = .ok (.aload_n 0, 1) := by decide +kernel
theorem dL_law_159 : decode cL_law 159 = .ok (.iload_n 3, 1) := by decide +kernel
theorem dL_law_160 : decode cL_law 160 = .ok (.iconst 3, 1) := by decide +kernel
theorem dL_law_161 : decode cL_law 161 = .ok (.iadd, 1) := by decide +kernel
theorem dL_law_162 : decode cL_law 162 = .ok (.iaload, 1) := by decide +kernel
theorem dL_law_163 : decode cL_law 163 = .ok (.invokevirtual 17, 3) := by decide +kernel
theorem dL_law_166 : decode cL_law 166 = .ok (.if_icmp .eq 563, 3) := by decide +kernel
theorem dL_law_169 : decode cL_law 169 = .ok (.iconst 0, 1) := by decide +kernel
theorem dL_law_170 : decode cL_law 170 = .ok (.ireturn, 1) := by decide +kernel
theorem dL_law_171 : decode cL_law 171 = .ok (.aload_n 1, 1) := by decide +kernel
theorem dL_law_172 : decode cL_law 172 = .ok (.aload_n 0, 1) := by decide +kernel
theorem dL_law_173 : decode cL_law 173 = .ok (.iload_n 3, 1) := by decide +kernel
theorem dL_law_174 : decode cL_law 174 = .ok (.iconst 1, 1) := by decide +kernel
theorem dL_law_175 : decode cL_law 175 = .ok (.iadd, 1) := by decide +kernel
theorem dL_law_176 : decode cL_law 176 = .ok (.iaload, 1) := by decide +kernel
theorem dL_law_177 : decode cL_law 177 = .ok (.aload_n 0, 1) := by decide +kernel
theorem dL_law_178 : decode cL_law 178 = .ok (.iload_n 3, 1) := by decide +kernel
theorem dL_law_179 : decode cL_law 179 = .ok (.iconst 2, 1) := by decide +kernel
theorem dL_law_180 : decode cL_law 180 = .ok (.iadd, 1) := by decide +kernel
theorem dL_law_181 : decode cL_law 181 = .ok (.iaload, 1) := by decide +kernel
theorem dL_law_182 : decode cL_law 182 = .ok (.invokevirtual 18, 3) := by decide +kernel
theorem dL_law_185 : decode cL_law 185 = .ok (.aload_n 2, 1) := by decide +kernel
theorem dL_law_186 : decode cL_law 186 = .ok (.aload_n 0, 1) := by decide +kernel
theorem dL_law_187 : decode cL_law 187 = .ok (.iload_n 3, 1) := by decide +kernel
theorem dL_law_188 : decode cL_law 188 = .ok (.iconst 1, 1) := by decide +kernel
theorem dL_law_189 : decode cL_law 189 = .ok (.iadd, 1) := by decide +kernel
theorem dL_law_190 : decode cL_law 190 = .ok (.iaload, 1) := by decide +kernel
theorem dL_law_191 : decode cL_law 191 = .ok (.aload_n 0, 1) := by decide +kernel
theorem dL_law_192 : decode cL_law 192 = .ok (.iload_n 3, 1) := by decide +kernel
theorem dL_law_193 : decode cL_law 193 = .ok (.iconst 2, 1) := by decide +kernel
theorem dL_law_194 : decode cL_law 194 = .ok (.iadd, 1) := by decide +kernel
theorem dL_law_195 : decode cL_law 195 = .ok (.iaload, 1) := by decide +kernel
theorem dL_law_196 : decode cL_law 196 = .ok (.invokevirtual 22, 3) := by decide +kernel
theorem dL_law_199 : decode cL_law 199 = .ok (.if_icmp .eq 530, 3) := by decide +kernel
theorem dL_law_202 : decode cL_law 202 = .ok (.iconst 0, 1) := by decide +kernel
theorem dL_law_203 : decode cL_law 203 = .ok (.ireturn, 1) := by decide +kernel
theorem dL_law_204 : decode cL_law 204 = .ok (.aload_n 1, 1) := by decide +kernel
theorem dL_law_205 : decode cL_law 205 = .ok (.invokevirtual 23, 3) := by decide +kernel
theorem dL_law_208 : decode cL_law 208 = .ok (.aload_n 2, 1) := by decide +kernel
theorem dL_law_209 : decode cL_law 209 = .ok (.invokevirtual 27, 3) := by decide +kernel
theorem dL_law_212 : decode cL_law 212 = .ok (.if_icmp .eq 517, 3) := by decide +kernel
theorem dL_law_215 : decode cL_law 215 = .ok (.iconst 0, 1) := by decide +kernel
theorem dL_law_216 : decode cL_law 216 = .ok (.ireturn, 1) := by decide +kernel
theorem dL_law_217 : decode cL_law 217 = .ok (.aload_n 1, 1) := by decide +kernel
theorem dL_law_218 : decode cL_law 218 = .ok (.aload_n 0, 1) := by decide +kernel
theorem dL_law_219 : decode cL_law 219 = .ok (.iload_n 3, 1) := by decide +kernel
theorem dL_law_220 : decode cL_law 220 = .ok (.iconst 1, 1) := by decide +kernel
theorem dL_law_221 : decode cL_law 221 = .ok (.iadd, 1) := by decide +kernel
theorem dL_law_222 : decode cL_law 222 = .ok (.iaload, 1) := by decide +kernel
theorem dL_law_223 : decode cL_law 223 = .ok (.aload_n 0, 1) := by decide +kernel
theorem dL_law_224 : decode cL_law 224 = .ok (.iload_n 3, 1) := by decide +kernel
theorem dL_law_225 : decode cL_law 225 = .ok (.iconst 2, 1) := by decide +kernel
theorem dL_law_226 : decode cL_law 226 = .ok (.iadd, 1) := by decide +kernel
theorem dL_law_227 : decode cL_law 227 = .ok (.iaload, 1) := by decide +kernel
theorem dL_law_228 : decode cL_law 228 = .ok (.invokevirtual 28, 3) := by decide +kernel
theorem dL_law_231 : decode cL_law 231 = .ok (.aload_n 2, 1) := by decide +kernel
theorem dL_law_232 : decode cL_law 232 = .ok (.aload_n 0, 1) := by decide +kernel
theorem dL_law_233 : decode cL_law 233 = .ok (.iload_n 3, 1) := by decide +kernel
theorem dL_law_234 : decode cL_law 234 = .ok (.iconst 1, 1) := by decide +kernel
theorem dL_law_235 : decode cL_law 235 = .ok (.iadd, 1) := by decide +kernel
theorem dL_law_236 : decode cL_law 236 = .ok (.iaload, 1) := by decide +kernel
theorem dL_law_237 : decode cL_law 237 = .ok (.aload_n 0, 1) := by decide +kernel
theorem dL_law_238 : decode cL_law 238 = .ok (.iload_n 3, 1) := by decide +kernel
theorem dL_law_239 : decode cL_law 239 = .ok (.iconst 2, 1) := by decide +kernel
theorem dL_law_240 : decode cL_law 240 = .ok (.iadd, 1) := by decide +kernel
theorem dL_law_241 : decode cL_law 241 = .ok (.iaload, 1) := by decide +kernel
theorem dL_law_242 : decode cL_law 242 = .ok (.invokevirtual 31, 3) := by decide +kernel
theorem dL_law_245 : decode cL_law 245 = .ok (.if_icmp .eq 484, 3) := by decide +kernel
theorem dL_law_248 : decode cL_law 248 = .ok (.iconst 0, 1) := by decide +kernel
theorem dL_law_249 : decode cL_law 249 = .ok (.ireturn, 1) := by decide +kernel
theorem dL_law_250 : decode cL_law 250 = .ok (.aload_n 1, 1) := by decide +kernel
theorem dL_law_251 : decode cL_law 251 = .ok (.aload_n 0, 1) := by decide +kernel
theorem dL_law_252 : decode cL_law 252 = .ok (.iload_n 3, 1) := by decide +kernel
theorem dL_law_253 : decode cL_law 253 = .ok (.iconst 1, 1) := by decide +kernel
theorem dL_law_254 : decode cL_law 254 = .ok (.iadd, 1) := by decide +kernel
theorem dL_law_255 : decode cL_law 255 = .ok (.iaload, 1) := by decide +kernel
theorem dL_law_256 : decode cL_law 256 = .ok (.aload_n 0, 1) := by decide +kernel
theorem dL_law_257 : decode cL_law 257 = .ok (.iload_n 3, 1) := by decide +kernel
theorem dL_law_258 : decode cL_law 258 = .ok (.iconst 2, 1) := by decide +kernel
theorem dL_law_259 : decode cL_law 259 = .ok (.iadd, 1) := by decide +kernel
theorem dL_law_260 : decode cL_law 260 = .ok (.iaload, 1) := by decide +kernel
theorem dL_law_261 : decode cL_law 261 = .ok (.invokevirtual 32, 3) := by decide +kernel
theorem dL_law_264 : decode cL_law 264 = .ok (.aload_n 2, 1) := by decide +kernel
theorem dL_law_265 : decode cL_law 265 = .ok (.aload_n 0, 1) := by decide +kernel
theorem dL_law_266 : decode cL_law 266 = .ok (.iload_n 3, 1) := by decide +kernel
theorem dL_law_267 : decode cL_law 267 = .ok (.iconst 1, 1) := by decide +kernel
theorem dL_law_268 : decode cL_law 268 = .ok (.iadd, 1) := by decide +kernel
theorem dL_law_269 : decode cL_law 269 = .ok (.iaload, 1) := by decide +kernel
theorem dL_law_270 : decode cL_law 270 = .ok (.aload_n 0, 1) := by decide +kernel
theorem dL_law_271 : decode cL_law 271 = .ok (.iload_n 3, 1) := by decide +kernel
theorem dL_law_272 : decode cL_law 272 = .ok (.iconst 2, 1) := by decide +kernel
theorem dL_law_273 : decode cL_law 273 = .ok (.iadd, 1) := by decide +kernel
theorem dL_law_274 : decode cL_law 274 = .ok (.iaload, 1) := by decide +kernel
theorem dL_law_275 : decode cL_law 275 = .ok (.invokevirtual 35, 3) := by decide +kernel
theorem dL_law_278 : decode cL_law 278 = .ok (.if_icmp .eq 451, 3) := by decide +kernel
theorem dL_law_281 : decode cL_law 281 = .ok (.iconst 0, 1) := by decide +kernel
theorem dL_law_282 : decode cL_law 282 = .ok (.ireturn, 1) := by decide +kernel
theorem dL_law_283 : decode cL_law 283 = .ok (.aload_n 1, 1) := by decide +kernel
theorem dL_law_284 : decode cL_law 284 = .ok (.aload_n 0, 1) := by decide +kernel
theorem dL_law_285 : decode cL_law 285 = .ok (.iload_n 3, 1) := by decide +kernel
theorem dL_law_286 : decode cL_law 286 = .ok (.iconst 1, 1) := by decide +kernel
theorem dL_law_287 : decode cL_law 287 = .ok (.iadd, 1) := by decide +kernel
theorem dL_law_288 : decode cL_law 288 = .ok (.iaload, 1) := by decide +kernel
theorem dL_law_289 : decode cL_law 289 = .ok (.aload_n 0, 1) := by decide +kernel
theorem dL_law_290 : decode cL_law 290 = .ok (.iload_n 3, 1) := by decide +kernel
theorem dL_law_291 : decode cL_law 291 = .ok (.iconst 2, 1) := by decide +kernel
theorem dL_law_292 : decode cL_law 292 = .ok (.iadd, 1) := by decide +kernel
theorem dL_law_293 : decode cL_law 293 = .ok (.iaload, 1) := by decide +kernel
theorem dL_law_294 : decode cL_law 294 = .ok (.aload_n 0, 1) := by decide +kernel
theorem dL_law_295 : decode cL_law 295 = .ok (.iload_n 3, 1) := by decide +kernel
theorem dL_law_296 : decode cL_law 296 = .ok (.iconst 3, 1) := by decide +kernel
theorem dL_law_297 : decode cL_law 297 = .ok (.iadd, 1) := by decide +kernel
theorem dL_law_298 : decode cL_law 298 = .ok (.iaload, 1) := by decide +kernel
theorem dL_law_299 : decode cL_law 299 = .ok (.invokevirtual 36, 3) := by decide +kernel
theorem dL_law_302 : decode cL_law 302 = .ok (.aload_n 2, 1) := by decide +kernel
theorem dL_law_303 : decode cL_law 303 = .ok (.aload_n 0, 1) := by decide +kernel
theorem dL_law_304 : decode cL_law 304 = .ok (.iload_n 3, 1) := by decide +kernel
theorem dL_law_305 : decode cL_law 305 = .ok (.iconst 1, 1) := by decide +kernel
theorem dL_law_306 : decode cL_law 306 = .ok (.iadd, 1) := by decide +kernel
theorem dL_law_307 : decode cL_law 307 = .ok (.iaload, 1) := by decide +kernel
theorem dL_law_308 : decode cL_law 308 = .ok (.aload_n 0, 1) := by decide +kernel
theorem dL_law_309 : decode cL_law 309 = .ok (.iload_n 3, 1) := by decide +kernel
theorem dL_law_310 : decode cL_law 310 = .ok (.iconst 2, 1) := by decide +kernel
theorem dL_law_311 : decode cL_law 311 = .ok (.iadd, 1) := by decide +kernel
theorem dL_law_312 : decode cL_law 312 = .ok (.iaload, 1) := by decide +kernel
theorem dL_law_313 : decode cL_law 313 = .ok (.aload_n 0, 1) := by decide +kernel
theorem dL_law_314 : decode cL_law 314 = .ok (.iload_n 3, 1) := by decide +kernel
theorem dL_law_315 : decode cL_law 315 = .ok (.iconst 3, 1) := by decide +kernel
theorem dL_law_316 : decode cL_law 316 = .ok (.iadd, 1) := by decide +kernel
theorem dL_law_317 : decode cL_law 317 = .ok (.iaload, 1) := by decide +kernel
theorem dL_law_318 : decode cL_law 318 = .ok (.invokevirtual 39, 3) := by decide +kernel
theorem dL_law_321 : decode cL_law 321 = .ok (.if_icmp .eq 408, 3) := by decide +kernel
theorem dL_law_324 : decode cL_law 324 = .ok (.iconst 0, 1) := by decide +kernel
theorem dL_law_325 : decode cL_law 325 = .ok (.ireturn, 1) := by decide +kernel
theorem dL_law_326 : decode cL_law 326 = .ok (.aload_n 1, 1) := by decide +kernel
theorem dL_law_327 : decode cL_law 327 = .ok (.aload_n 0, 1) := by decide +kernel
theorem dL_law_328 : decode cL_law 328 = .ok (.iload_n 3, 1) := by decide +kernel
theorem dL_law_329 : decode cL_law 329 = .ok (.iconst 1, 1) := by decide +kernel
theorem dL_law_330 : decode cL_law 330 = .ok (.iadd, 1) := by decide +kernel
theorem dL_law_331 : decode cL_law 331 = .ok (.iaload, 1) := by decide +kernel
theorem dL_law_332 : decode cL_law 332 = .ok (.aload_n 0, 1) := by decide +kernel
theorem dL_law_333 : decode cL_law 333 = .ok (.iload_n 3, 1) := by decide +kernel
theorem dL_law_334 : decode cL_law 334 = .ok (.iconst 2, 1) := by decide +kernel
theorem dL_law_335 : decode cL_law 335 = .ok (.iadd, 1) := by decide +kernel
theorem dL_law_336 : decode cL_law 336 = .ok (.iaload, 1) := by decide +kernel
theorem dL_law_337 : decode cL_law 337 = .ok (.invokevirtual 40, 3) := by decide +kernel
theorem dL_law_340 : decode cL_law 340 = .ok (.aload_n 2, 1) := by decide +kernel
theorem dL_law_341 : decode cL_law 341 = .ok (.aload_n 0, 1) := by decide +kernel
theorem dL_law_342 : decode cL_law 342 = .ok (.iload_n 3, 1) := by decide +kernel
theorem dL_law_343 : decode cL_law 343 = .ok (.iconst 1, 1) := by decide +kernel
theorem dL_law_344 : decode cL_law 344 = .ok (.iadd, 1) := by decide +kernel
theorem dL_law_345 : decode cL_law 345 = .ok (.iaload, 1) := by decide +kernel
theorem dL_law_346 : decode cL_law 346 = .ok (.aload_n 0, 1) := by decide +kernel
theorem dL_law_347 : decode cL_law 347 = .ok (.iload_n 3, 1) := by decide +kernel
theorem dL_law_348 : decode cL_law 348 = .ok (.iconst 2, 1) := by decide +kernel
theorem dL_law_349 : decode cL_law 349 = .ok (.iadd, 1) := by decide +kernel
theorem dL_law_350 : decode cL_law 350 = .ok (.iaload, 1) := by decide +kernel
theorem dL_law_351 : decode cL_law 351 = .ok (.invokevirtual 43, 3) := by decide +kernel
theorem dL_law_354 : decode cL_law 354 = .ok (.if_icmp .eq 375, 3) := by decide +kernel
theorem dL_law_357 : decode cL_law 357 = .ok (.iconst 0, 1) := by decide +kernel
theorem dL_law_358 : decode cL_law 358 = .ok (.ireturn, 1) := by decide +kernel
theorem dL_law_359 : decode cL_law 359 = .ok (.aload_n 1, 1) := by decide +kernel
theorem dL_law_360 : decode cL_law 360 = .ok (.aload_n 0, 1) := by decide +kernel
theorem dL_law_361 : decode cL_law 361 = .ok (.iload_n 3, 1) := by decide +kernel
theorem dL_law_362 : decode cL_law 362 = .ok (.iconst 1, 1) := by decide +kernel
theorem dL_law_363 : decode cL_law 363 = .ok (.iadd, 1) := by decide +kernel
theorem dL_law_364 : decode cL_law 364 = .ok (.iaload, 1) := by decide +kernel
theorem dL_law_365 : decode cL_law 365 = .ok (.invokevirtual 44, 3) := by decide +kernel
theorem dL_law_368 : decode cL_law 368 = .ok (.aload_n 2, 1) := by decide +kernel
theorem dL_law_369 : decode cL_law 369 = .ok (.aload_n 0, 1) := by decide +kernel
theorem dL_law_370 : decode cL_law 370 = .ok (.iload_n 3, 1) := by decide +kernel
theorem dL_law_371 : decode cL_law 371 = .ok (.iconst 1, 1) := by decide +kernel
theorem dL_law_372 : decode cL_law 372 = .ok (.iadd, 1) := by decide +kernel
theorem dL_law_373 : decode cL_law 373 = .ok (.iaload, 1) := by decide +kernel
theorem dL_law_374 : decode cL_law 374 = .ok (.invokevirtual 48, 3) := by decide +kernel
theorem dL_law_377 : decode cL_law 377 = .ok (.if_icmp .eq 352, 3) := by decide +kernel
theorem dL_law_380 : decode cL_law 380 = .ok (.iconst 0, 1) := by decide +kernel
theorem dL_law_381 : decode cL_law 381 = .ok (.ireturn, 1) := by decide +kernel
theorem dL_law_382 : decode cL_law 382 = .ok (.aload_n 1, 1) := by decide +kernel
theorem dL_law_383 : decode cL_law 383 = .ok (.aload_n 0, 1) := by decide +kernel
theorem dL_law_384 : decode cL_law 384 = .ok (.iload_n 3, 1) := by decide +kernel
theorem dL_law_385 : decode cL_law 385 = .ok (.iconst 1, 1) := by decide +kernel
theorem dL_law_386 : decode cL_law 386 = .ok (.iadd, 1) := by decide +kernel
theorem dL_law_387 : decode cL_law 387 = .ok (.iaload, 1) := by decide +kernel
theorem dL_law_388 : decode cL_law 388 = .ok (.aload_n 0, 1) := by decide +kernel
theorem dL_law_389 : decode cL_law 389 = .ok (.iload_n 3, 1) := by decide +kernel
theorem dL_law_390 : decode cL_law 390 = .ok (.iconst 2, 1) := by decide +kernel
theorem dL_law_391 : decode cL_law 391 = .ok (.iadd, 1) := by decide +kernel
theorem dL_law_392 : decode cL_law 392 = .ok (.iaload, 1) := by decide +kernel
theorem dL_law_393 : decode cL_law 393 = .ok (.invokevirtual 49, 3) := by decide +kernel
theorem dL_law_396 : decode cL_law 396 = .ok (.aload_n 2, 1) := by decide +kernel
theorem dL_law_397 : decode cL_law 397 = .ok (.aload_n 0, 1) := by decide +kernel
theorem dL_law_398 : decode cL_law 398 = .ok (.iload_n 3, 1) := by decide +kernel
theorem dL_law_399 : decode cL_law 399 = .ok (.iconst 1, 1) := by decide +kernel
theorem dL_law_400 : decode cL_law 400 = .ok (.iadd, 1) := by decide +kernel
theorem dL_law_401 : decode cL_law 401 = .ok (.iaload, 1) := by decide +kernel
theorem dL_law_402 : decode cL_law 402 = .ok (.aload_n 0, 1) := by decide +kernel
theorem dL_law_403 : decode cL_law 403 = .ok (.iload_n 3, 1) := by decide +kernel
theorem dL_law_404 : decode cL_law 404 = .ok (.iconst 2, 1) := by decide +kernel
theorem dL_law_405 : decode cL_law 405 = .ok (.iadd, 1) := by decide +kernel
theorem dL_law_406 : decode cL_law 406 = .ok (.iaload, 1) := by decide +kernel
theorem dL_law_407 : decode cL_law 407 = .ok (.invokevirtual 52, 3) := by decide +kernel
theorem dL_law_410 : decode cL_law 410 = .ok (.if_icmp .eq 319, 3) := by decide +kernel
theorem dL_law_413 : decode cL_law 413 = .ok (.iconst 0, 1) := by decide +kernel
theorem dL_law_414 : decode cL_law 414 = .ok (.ireturn, 1) := by decide +kernel
theorem dL_law_415 : decode cL_law 415 = .ok (.aload_n 1, 1) := by decide +kernel
theorem dL_law_416 : decode cL_law 416 = .ok (.aload_n 0, 1) := by decide +kernel
theorem dL_law_417 : decode cL_law 417 = .ok (.iload_n 3, 1) := by decide +kernel
theorem dL_law_418 : decode cL_law 418 = .ok (.iconst 1, 1) := by decide +kernel
theorem dL_law_419 : decode cL_law 419 = .ok (.iadd, 1) := by decide +kernel
theorem dL_law_420 : decode cL_law 420 = .ok (.iaload, 1) := by decide +kernel
theorem dL_law_421 : decode cL_law 421 = .ok (.aload_n 0, 1) := by decide +kernel
theorem dL_law_422 : decode cL_law 422 = .ok (.iload_n 3, 1) := by decide +kernel
theorem dL_law_423 : decode cL_law 423 = .ok (.iconst 2, 1) := by decide +kernel
theorem dL_law_424 : decode cL_law 424 = .ok (.iadd, 1) := by decide +kernel
theorem dL_law_425 : decode cL_law 425 = .ok (.iaload, 1) := by decide +kernel
theorem dL_law_426 : decode cL_law 426 = .ok (.aload_n 0, 1) := by decide +kernel
theorem dL_law_427 : decode cL_law 427 = .ok (.iload_n 3, 1) := by decide +kernel
theorem dL_law_428 : decode cL_law 428 = .ok (.iconst 3, 1) := by decide +kernel
theorem dL_law_429 : decode cL_law 429 = .ok (.iadd, 1) := by decide +kernel
theorem dL_law_430 : decode cL_law 430 = .ok (.iaload, 1) := by decide +kernel
theorem dL_law_431 : decode cL_law 431 = .ok (.invokevirtual 53, 3) := by decide +kernel
theorem dL_law_434 : decode cL_law 434 = .ok (.aload_n 2, 1) := by decide +kernel
theorem dL_law_435 : decode cL_law 435 = .ok (.aload_n 0, 1) := by decide +kernel
theorem dL_law_436 : decode cL_law 436 = .ok (.iload_n 3, 1) := by decide +kernel
theorem dL_law_437 : decode cL_law 437 = .ok (.iconst 1, 1) := by decide +kernel
theorem dL_law_438 : decode cL_law 438 = .ok (.iadd, 1) := by decide +kernel
theorem dL_law_439 : decode cL_law 439 = .ok (.iaload, 1) := by decide +kernel
theorem dL_law_440 : decode cL_law 440 = .ok (.aload_n 0, 1) := by decide +kernel
theorem dL_law_441 : decode cL_law 441 = .ok (.iload_n 3, 1) := by decide +kernel
theorem dL_law_442 : decode cL_law 442 = .ok (.iconst 2, 1) := by decide +kernel
theorem dL_law_443 : decode cL_law 443 = .ok (.iadd, 1) := by decide +kernel
theorem dL_law_444 : decode cL_law 444 = .ok (.iaload, 1) := by decide +kernel
theorem dL_law_445 : decode cL_law 445 = .ok (.aload_n 0, 1) := by decide +kernel
theorem dL_law_446 : decode cL_law 446 = .ok (.iload_n 3, 1) := by decide +kernel
theorem dL_law_447 : decode cL_law 447 = .ok (.iconst 3, 1) := by decide +kernel
theorem dL_law_448 : decode cL_law 448 = .ok (.iadd, 1) := by decide +kernel
theorem dL_law_449 : decode cL_law 449 = .ok (.iaload, 1) := by decide +kernel
theorem dL_law_450 : decode cL_law 450 = .ok (.invokevirtual 56, 3) := by decide +kernel
theorem dL_law_453 : decode cL_law 453 = .ok (.if_icmp .eq 276, 3) := by decide +kernel
theorem dL_law_456 : decode cL_law 456 = .ok (.iconst 0, 1) := by decide +kernel
theorem dL_law_457 : decode cL_law 457 = .ok (.ireturn, 1) := by decide +kernel
theorem dL_law_458 : decode cL_law 458 = .ok (.aload_n 1, 1) := by decide +kernel
theorem dL_law_459 : decode cL_law 459 = .ok (.aload_n 0, 1) := by decide +kernel
theorem dL_law_460 : decode cL_law 460 = .ok (.iload_n 3, 1) := by decide +kernel
theorem dL_law_461 : decode cL_law 461 = .ok (.iconst 1, 1) := by decide +kernel
theorem dL_law_462 : decode cL_law 462 = .ok (.iadd, 1) := by decide +kernel
theorem dL_law_463 : decode cL_law 463 = .ok (.iaload, 1) := by decide +kernel
theorem dL_law_464 : decode cL_law 464 = .ok (.aload_n 0, 1) := by decide +kernel
theorem dL_law_465 : decode cL_law 465 = .ok (.iload_n 3, 1) := by decide +kernel
theorem dL_law_466 : decode cL_law 466 = .ok (.iconst 2, 1) := by decide +kernel
theorem dL_law_467 : decode cL_law 467 = .ok (.iadd, 1) := by decide +kernel
theorem dL_law_468 : decode cL_law 468 = .ok (.iaload, 1) := by decide +kernel
theorem dL_law_469 : decode cL_law 469 = .ok (.invokevirtual 57, 3) := by decide +kernel
theorem dL_law_472 : decode cL_law 472 = .ok (.aload_n 2, 1) := by decide +kernel
theorem dL_law_473 : decode cL_law 473 = .ok (.aload_n 0, 1) := by decide +kernel
theorem dL_law_474 : decode cL_law 474 = .ok (.iload_n 3, 1) := by decide +kernel
theorem dL_law_475 : decode cL_law 475 = .ok (.iconst 1, 1) := by decide +kernel
theorem dL_law_476 : decode cL_law 476 = .ok (.iadd, 1) := by decide +kernel
theorem dL_law_477 : decode cL_law 477 = .ok (.iaload, 1) := by decide +kernel
theorem dL_law_478 : decode cL_law 478 = .ok (.aload_n 0, 1) := by decide +kernel
theorem dL_law_479 : decode cL_law 479 = .ok (.iload_n 3, 1) := by decide +kernel
theorem dL_law_480 : decode cL_law 480 = .ok (.iconst 2, 1) := by decide +kernel
theorem dL_law_481 : decode cL_law 481 = .ok (.iadd, 1) := by decide +kernel
theorem dL_law_482 : decode cL_law 482 = .ok (.iaload, 1) := by decide +kernel
theorem dL_law_483 : decode cL_law 483 = .ok (.invokevirtual 60, 3) := by decide +kernel
theorem dL_law_486 : decode cL_law 486 = .ok (.if_icmp .eq 243, 3) := by decide +kernel
theorem dL_law_489 : decode cL_law 489 = .ok (.iconst 0, 1) := by decide +kernel
theorem dL_law_490 : decode cL_law 490 = .ok (.ireturn, 1) := by decide +kernel
theorem dL_law_491 : decode cL_law 491 = .ok (.aload_n 1, 1) := by decide +kernel
theorem dL_law_492 : decode cL_law 492 = .ok (.invokevirtual 61, 3) := by decide +kernel
theorem dL_law_495 : decode cL_law 495 = .ok (.aload_n 2, 1) := by decide +kernel
theorem dL_law_496 : decode cL_law 496 = .ok (.invokevirtual 64, 3) := by decide +kernel
theorem dL_law_499 : decode cL_law 499 = .ok (.if_icmp .eq 230, 3) := by decide +kernel
theorem dL_law_502 : decode cL_law 502 = .ok (.iconst 0, 1) := by decide +kernel
theorem dL_law_503 : decode cL_law 503 = .ok (.ireturn, 1) := by decide +kernel
theorem dL_law_504 : decode cL_law 504 = .ok (.aload_n 1, 1) := by decide +kernel
theorem dL_law_505 : decode cL_law 505 = .ok (.aload_n 0, 1) := by decide +kernel
theorem dL_law_506 : decode cL_law 506 = .ok (.iload_n 3, 1) := by decide +kernel
theorem dL_law_507 : decode cL_law 507 = .ok (.iconst 1, 1) := by decide +kernel
theorem dL_law_508 : decode cL_law 508 = .ok (.iadd, 1) := by decide +kernel
theorem dL_law_509 : decode cL_law 509 = .ok (.iaload, 1) := by decide +kernel
theorem dL_law_510 : decode cL_law 510 = .ok (.aload_n 0, 1) := by decide +kernel
theorem dL_law_511 : decode cL_law 511 = .ok (.iload_n 3, 1) := by decide +kernel
theorem dL_law_512 : decode cL_law 512 = .ok (.iconst 2, 1) := by decide +kernel
theorem dL_law_513 : decode cL_law 513 = .ok (.iadd, 1) := by decide +kernel
theorem dL_law_514 : decode cL_law 514 = .ok (.iaload, 1) := by decide +kernel
theorem dL_law_515 : decode cL_law 515 = .ok (.invokevirtual 65, 3) := by decide +kernel
theorem dL_law_518 : decode cL_law 518 = .ok (.aload_n 2, 1) := by decide +kernel
theorem dL_law_519 : decode cL_law 519 = .ok (.aload_n 0, 1) := by decide +kernel
theorem dL_law_520 : decode cL_law 520 = .ok (.iload_n 3, 1) := by decide +kernel
theorem dL_law_521 : decode cL_law 521 = .ok (.iconst 1, 1) := by decide +kernel
theorem dL_law_522 : decode cL_law 522 = .ok (.iadd, 1) := by decide +kernel
theorem dL_law_523 : decode cL_law 523 = .ok (.iaload, 1) := by decide +kernel
theorem dL_law_524 : decode cL_law 524 = .ok (.aload_n 0, 1) := by decide +kernel
theorem dL_law_525 : decode cL_law 525 = .ok (.iload_n 3, 1) := by decide +kernel
theorem dL_law_526 : decode cL_law 526 = .ok (.iconst 2, 1) := by decide +kernel
theorem dL_law_527 : decode cL_law 527 = .ok (.iadd, 1) := by decide +kernel
theorem dL_law_528 : decode cL_law 528 = .ok (.iaload, 1) := by decide +kernel
theorem dL_law_529 : decode cL_law 529 = .ok (.invokevirtual 68, 3) := by decide +kernel
theorem dL_law_532 : decode cL_law 532 = .ok (.if_icmp .eq 197, 3) := by decide +kernel
theorem dL_law_535 : decode cL_law 535 = .ok (.iconst 0, 1) := by decide +kernel
theorem dL_law_536 : decode cL_law 536 = .ok (.ireturn, 1) := by decide +kernel
theorem dL_law_537 : decode cL_law 537 = .ok (.aload_n 1, 1) := by decide +kernel
theorem dL_law_538 : decode cL_law 538 = .ok (.aload_n 0, 1) := by decide +kernel
theorem dL_law_539 : decode cL_law 539 = .ok (.iload_n 3, 1) := by decide +kernel
theorem dL_law_540 : decode cL_law 540 = .ok (.iconst 1, 1) := by decide +kernel
theorem dL_law_541 : decode cL_law 541 = .ok (.iadd, 1) := by decide +kernel
theorem dL_law_542 : decode cL_law 542 = .ok (.iaload, 1) := by decide +kernel
theorem dL_law_543 : decode cL_law 543 = .ok (.aload_n 0, 1) := by decide +kernel
theorem dL_law_544 : decode cL_law 544 = .ok (.iload_n 3, 1) := by decide +kernel
theorem dL_law_545 : decode cL_law 545 = .ok (.iconst 2, 1) := by decide +kernel
theorem dL_law_546 : decode cL_law 546 = .ok (.iadd, 1) := by decide +kernel
theorem dL_law_547 : decode cL_law 547 = .ok (.iaload, 1) := by decide +kernel
theorem dL_law_548 : decode cL_law 548 = .ok (.invokevirtual 69, 3) := by decide +kernel
theorem dL_law_551 : decode cL_law 551 = .ok (.aload_n 2, 1) := by decide +kernel
theorem dL_law_552 : decode cL_law 552 = .ok (.aload_n 0, 1) := by decide +kernel
theorem dL_law_553 : decode cL_law 553 = .ok (.iload_n 3, 1) := by decide +kernel
theorem dL_law_554 : decode cL_law 554 = .ok (.iconst 1, 1) := by decide +kernel
theorem dL_law_555 : decode cL_law 555 = .ok (.iadd, 1) := by decide +kernel
theorem dL_law_556 : decode cL_law 556 = .ok (.iaload, 1) := by decide +kernel
theorem dL_law_557 : decode cL_law 557 = .ok (.aload_n 0, 1) := by decide +kernel
theorem dL_law_558 : decode cL_law 558 = .ok (.iload_n 3, 1) := by decide +kernel
theorem dL_law_559 : decode cL_law 559 = .ok (.iconst 2, 1) := by decide +kernel
theorem dL_law_560 : decode cL_law 560 = .ok (.iadd, 1) := by decide +kernel
theorem dL_law_561 : decode cL_law 561 = .ok (.iaload, 1) := by decide +kernel
theorem dL_law_562 : decode cL_law 562 = .ok (.invokevirtual 73, 3) := by decide +kernel
theorem dL_law_565 : decode cL_law 565 = .ok (.lcmp, 1) := by decide +kernel
theorem dL_law_566 : decode cL_law 566 = .ok (.ifCond .eq 163, 3) := by decide +kernel
theorem dL_law_569 : decode cL_law 569 = .ok (.iconst 0, 1) := by decide +kernel
theorem dL_law_570 : decode cL_law 570 = .ok (.ireturn, 1) := by decide +kernel
theorem dL_law_571 : decode cL_law 571 = .ok (.aload_n 1, 1) := by decide +kernel
theorem dL_law_572 : decode cL_law 572 = .ok (.invokevirtual 74, 3) := by decide +kernel
theorem dL_law_575 : decode cL_law 575 = .ok (.aload_n 2, 1) := by decide +kernel
theorem dL_law_576 : decode cL_law 576 = .ok (.invokevirtual 77, 3) := by decide +kernel
theorem dL_law_579 : decode cL_law 579 = .ok (.if_icmp .eq 150, 3) := by decide +kernel
theorem dL_law_582 : decode cL_law 582 = .ok (.iconst 0, 1) := by decide +kernel
theorem dL_law_583 : decode cL_law 583 = .ok (.ireturn, 1) := by decide +kernel
theorem dL_law_584 : decode cL_law 584 = .ok (.aload_n 1, 1) := by decide +kernel
theorem dL_law_585 : decode cL_law 585 = .ok (.aload_n 0, 1) := by decide +kernel
theorem dL_law_586 : decode cL_law 586 = .ok (.iload_n 3, 1) := by decide +kernel
theorem dL_law_587 : decode cL_law 587 = .ok (.iconst 1, 1) := by decide +kernel
theorem dL_law_588 : decode cL_law 588 = .ok (.iadd, 1) := by decide +kernel
theorem dL_law_589 : decode cL_law 589 = .ok (.iaload, 1) := by decide +kernel
theorem dL_law_590 : decode cL_law 590 = .ok (.invokevirtual 78, 3) := by decide +kernel
theorem dL_law_593 : decode cL_law 593 = .ok (.aload_n 2, 1) := by decide +kernel
theorem dL_law_594 : decode cL_law 594 = .ok (.aload_n 0, 1) := by decide +kernel
theorem dL_law_595 : decode cL_law 595 = .ok (.iload_n 3, 1) := by decide +kernel
theorem dL_law_596 : decode cL_law 596 = .ok (.iconst 1, 1) := by decide +kernel
theorem dL_law_597 : decode cL_law 597 = .ok (.iadd, 1) := by decide +kernel
theorem dL_law_598 : decode cL_law 598 = .ok (.iaload, 1) := by decide +kernel
theorem dL_law_599 : decode cL_law 599 = .ok (.invokevirtual 81, 3) := by decide +kernel
theorem dL_law_602 : decode cL_law 602 = .ok (.if_icmp .eq 127, 3) := by decide +kernel
theorem dL_law_605 : decode cL_law 605 = .ok (.iconst 0, 1) := by decide +kernel
theorem dL_law_606 : decode cL_law 606 = .ok (.ireturn, 1) := by decide +kernel
theorem dL_law_607 : decode cL_law 607 = .ok (.aload_n 1, 1) := by decide +kernel
theorem dL_law_608 : decode cL_law 608 = .ok (.aload_n 0, 1) := by decide +kernel
theorem dL_law_609 : decode cL_law 609 = .ok (.iload_n 3, 1) := by decide +kernel
theorem dL_law_610 : decode cL_law 610 = .ok (.iconst 1, 1) := by decide +kernel
theorem dL_law_611 : decode cL_law 611 = .ok (.iadd, 1) := by decide +kernel
theorem dL_law_612 : decode cL_law 612 = .ok (.iaload, 1) := by decide +kernel
theorem dL_law_613 : decode cL_law 613 = .ok (.aload_n 0, 1) := by decide +kernel
theorem dL_law_614 : decode cL_law 614 = .ok (.iload_n 3, 1) := by decide +kernel
theorem dL_law_615 : decode cL_law 615 = .ok (.iconst 2, 1) := by decide +kernel
theorem dL_law_616 : decode cL_law 616 = .ok (.iadd, 1) := by decide +kernel
theorem dL_law_617 : decode cL_law 617 = .ok (.iaload, 1) := by decide +kernel
theorem dL_law_618 : decode cL_law 618 = .ok (.invokevirtual 82, 3) := by decide +kernel
theorem dL_law_621 : decode cL_law 621 = .ok (.aload_n 2, 1) := by decide +kernel
theorem dL_law_622 : decode cL_law 622 = .ok (.aload_n 0, 1) := by decide +kernel
theorem dL_law_623 : decode cL_law 623 = .ok (.iload_n 3, 1) := by decide +kernel
theorem dL_law_624 : decode cL_law 624 = .ok (.iconst 1, 1) := by decide +kernel
theorem dL_law_625 : decode cL_law 625 = .ok (.iadd, 1) := by decide +kernel
theorem dL_law_626 : decode cL_law 626 = .ok (.iaload, 1) := by decide +kernel
theorem dL_law_627 : decode cL_law 627 = .ok (.aload_n 0, 1) := by decide +kernel
theorem dL_law_628 : decode cL_law 628 = .ok (.iload_n 3, 1) := by decide +kernel
theorem dL_law_629 : decode cL_law 629 = .ok (.iconst 2, 1) := by decide +kernel
theorem dL_law_630 : decode cL_law 630 = .ok (.iadd, 1) := by decide +kernel
theorem dL_law_631 : decode cL_law 631 = .ok (.iaload, 1) := by decide +kernel
theorem dL_law_632 : decode cL_law 632 = .ok (.invokevirtual 85, 3) := by decide +kernel
theorem dL_law_635 : decode cL_law 635 = .ok (.if_icmp .eq 94, 3) := by decide +kernel
theorem dL_law_638 : decode cL_law 638 = .ok (.iconst 0, 1) := by decide +kernel
theorem dL_law_639 : decode cL_law 639 = .ok (.ireturn, 1) := by decide +kernel
theorem dL_law_640 : decode cL_law 640 = .ok (.aload_n 1, 1) := by decide +kernel
theorem dL_law_641 : decode cL_law 641 = .ok (.aload_n 0, 1) := by decide +kernel
theorem dL_law_642 : decode cL_law 642 = .ok (.iload_n 3, 1) := by decide +kernel
theorem dL_law_643 : decode cL_law 643 = .ok (.iconst 1, 1) := by decide +kernel
theorem dL_law_644 : decode cL_law 644 = .ok (.iadd, 1) := by decide +kernel
theorem dL_law_645 : decode cL_law 645 = .ok (.iaload, 1) := by decide +kernel
theorem dL_law_646 : decode cL_law 646 = .ok (.aload_n 0, 1) := by decide +kernel
theorem dL_law_647 : decode cL_law 647 = .ok (.iload_n 3, 1) := by decide +kernel
theorem dL_law_648 : decode cL_law 648 = .ok (.iconst 2, 1) := by decide +kernel
theorem dL_law_649 : decode cL_law 649 = .ok (.iadd, 1) := by decide +kernel
theorem dL_law_650 : decode cL_law 650 = .ok (.iaload, 1) := by decide +kernel
theorem dL_law_651 : decode cL_law 651 = .ok (.invokevirtual 86, 3) := by decide +kernel
theorem dL_law_654 : decode cL_law 654 = .ok (.aload_n 2, 1) := by decide +kernel
theorem dL_law_655 : decode cL_law 655 = .ok (.aload_n 0, 1) := by decide +kernel
theorem dL_law_656 : decode cL_law 656 = .ok (.iload_n 3, 1) := by decide +kernel
theorem dL_law_657 : decode cL_law 657 = .ok (.iconst 1, 1) := by decide +kernel
theorem dL_law_658 : decode cL_law 658 = .ok (.iadd, 1) := by decide +kernel
theorem dL_law_659 : decode cL_law 659 = .ok (.iaload, 1) := by decide +kernel
theorem dL_law_660 : decode cL_law 660 = .ok (.aload_n 0, 1) := by decide +kernel
theorem dL_law_661 : decode cL_law 661 = .ok (.iload_n 3, 1) := by decide +kernel
theorem dL_law_662 : decode cL_law 662 = .ok (.iconst 2, 1) := by decide +kernel
theorem dL_law_663 : decode cL_law 663 = .ok (.iadd, 1) := by decide +kernel
theorem dL_law_664 : decode cL_law 664 = .ok (.iaload, 1) := by decide +kernel
theorem dL_law_665 : decode cL_law 665 = .ok (.invokevirtual 89, 3) := by decide +kernel
theorem dL_law_668 : decode cL_law 668 = .ok (.if_icmp .eq 61, 3) := by decide +kernel
theorem dL_law_671 : decode cL_law 671 = .ok (.iconst 0, 1) := by decide +kernel
theorem dL_law_672 : decode cL_law 672 = .ok (.ireturn, 1) := by decide +kernel
theorem dL_law_673 : decode cL_law 673 = .ok (.aload_n 1, 1) := by decide +kernel
theorem dL_law_674 : decode cL_law 674 = .ok (.aload_n 0, 1) := by decide +kernel
theorem dL_law_675 : decode cL_law 675 = .ok (.iload_n 3, 1) := by decide +kernel
theorem dL_law_676 : decode cL_law 676 = .ok (.iconst 1, 1) := by decide +kernel
theorem dL_law_677 : decode cL_law 677 = .ok (.iadd, 1) := by decide +kernel
theorem dL_law_678 : decode cL_law 678 = .ok (.iaload, 1) := by decide +kernel
theorem dL_law_679 : decode cL_law 679 = .ok (.aload_n 0, 1) := by decide +kernel
theorem dL_law_680 : decode cL_law 680 = .ok (.iload_n 3, 1) := by decide +kernel
theorem dL_law_681 : decode cL_law 681 = .ok (.iconst 2, 1) := by decide +kernel
theorem dL_law_682 : decode cL_law 682 = .ok (.iadd, 1) := by decide +kernel
theorem dL_law_683 : decode cL_law 683 = .ok (.iaload, 1) := by decide +kernel
theorem dL_law_684 : decode cL_law 684 = .ok (.invokevirtual 90, 3) := by decide +kernel
theorem dL_law_687 : decode cL_law 687 = .ok (.aload_n 2, 1) := by decide +kernel
theorem dL_law_688 : decode cL_law 688 = .ok (.aload_n 0, 1) := by decide +kernel
theorem dL_law_689 : decode cL_law 689 = .ok (.iload_n 3, 1) := by decide +kernel
theorem dL_law_690 : decode cL_law 690 = .ok (.iconst 1, 1) := by decide +kernel
theorem dL_law_691 : decode cL_law 691 = .ok (.iadd, 1) := by decide +kernel
theorem dL_law_692 : decode cL_law 692 = .ok (.iaload, 1) := by decide +kernel
theorem dL_law_693 : decode cL_law 693 = .ok (.aload_n 0, 1) := by decide +kernel
theorem dL_law_694 : decode cL_law 694 = .ok (.iload_n 3, 1) := by decide +kernel
theorem dL_law_695 : decode cL_law 695 = .ok (.iconst 2, 1) := by decide +kernel
theorem dL_law_696 : decode cL_law 696 = .ok (.iadd, 1) := by decide +kernel
theorem dL_law_697 : decode cL_law 697 = .ok (.iaload, 1) := by decide +kernel
theorem dL_law_698 : decode cL_law 698 = .ok (.invokevirtual 93, 3) := by decide +kernel
theorem dL_law_701 : decode cL_law 701 = .ok (.if_icmp .eq 28, 3) := by decide +kernel
theorem dL_law_704 : decode cL_law 704 = .ok (.iconst 0, 1) := by decide +kernel
theorem dL_law_705 : decode cL_law 705 = .ok (.ireturn, 1) := by decide +kernel
theorem dL_law_706 : decode cL_law 706 = .ok (.aload_n 1, 1) := by decide +kernel
theorem dL_law_707 : decode cL_law 707 = .ok (.aload_n 0, 1) := by decide +kernel
theorem dL_law_708 : decode cL_law 708 = .ok (.iload_n 3, 1) := by decide +kernel
theorem dL_law_709 : decode cL_law 709 = .ok (.iconst 1, 1) := by decide +kernel
theorem dL_law_710 : decode cL_law 710 = .ok (.iadd, 1) := by decide +kernel
theorem dL_law_711 : decode cL_law 711 = .ok (.iaload, 1) := by decide +kernel
theorem dL_law_712 : decode cL_law 712 = .ok (.invokevirtual 94, 3) := by decide +kernel
theorem dL_law_715 : decode cL_law 715 = .ok (.aload_n 2, 1) := by decide +kernel
theorem dL_law_716 : decode cL_law 716 = .ok (.aload_n 0, 1) := by decide +kernel
theorem dL_law_717 : decode cL_law 717 = .ok (.iload_n 3, 1) := by decide +kernel
theorem dL_law_718 : decode cL_law 718 = .ok (.iconst 1, 1) := by decide +kernel
theorem dL_law_719 : decode cL_law 719 = .ok (.iadd, 1) := by decide +kernel
theorem dL_law_720 : decode cL_law 720 = .ok (.iaload, 1) := by decide +kernel
theorem dL_law_721 : decode cL_law 721 = .ok (.invokevirtual 97, 3) := by decide +kernel
theorem dL_law_724 : decode cL_law 724 = .ok (.if_icmp .eq 5, 3) := by decide +kernel
theorem dL_law_727 : decode cL_law 727 = .ok (.iconst 0, 1) := by decide +kernel
theorem dL_law_728 : decode cL_law 728 = .ok (.ireturn, 1) := by decide +kernel
theorem dL_law_729 : decode cL_law 729 = .ok (.iinc 3 4, 3) := by decide +kernel
theorem dL_law_732 : decode cL_law 732 = .ok (.goto (-714), 3) := by decide +kernel
theorem dL_law_735 : decode cL_law 735 = .ok (.iconst 1, 1) := by decide +kernel
theorem dL_law_736 : decode cL_law 736 = .ok (.ireturn, 1) := by decide +kernel
end
section
/-! the world: 110 cells, what each is, what its references are -/
abbrev ZM : Type := Nat → Nat → Int
abbrev ZR : Type := Nat → Nat → Option Nat
abbrev ZC : Type := ClassId × ClassId × ClassId × ClassId × ClassId
def iI (z : Int) : Int32 := Int32.ofInt z
def lJ (z : Int) : Int64 := Int64.ofInt z
def z_up (M : ZM) (k j : Nat) (v : Int) : ZM := fun a b => if a = k ∧ b = j then v else M a b
def z_upR (M : ZR) (k j : Nat) (v : Option Nat) : ZR := fun a b => if a = k ∧ b = j then v else M a b
def z_sh : List (Nat × Nat) := [(8, 12), (0, 4), (10, 12), (10, 12), (10, 12), (12, 5), (2, 2), (10, 10), (2, 2), (10, 10), (2, 2), (10, 10), (2, 2), (10, 10), (2, 2), (10, 10), (3, 4), (7, 4), (7, 4), (1, 3), (13, 5), (14, 5), (10, 5), (10, 5), (10, 5), (10, 5), (10, 5), (4, 6), (10, 5), (10, 5), (10, 1024), (5, 6), (10, 10), (10, 13), (10, 10), (5, 6), (10, 10), (10, 13), (10, 10), (5, 6), (10, 10), (10, 13), (10, 10), (5, 6), (10, 10), (10, 13), (10, 10), (5, 6), (10, 10), (10, 13), (10, 10), (1, 3), (13, 5), (14, 5), (10, 5), (10, 5), (10, 5), (10, 5), (10, 5), (4, 6), (10, 5), (10, 5), (10, 1024), (5, 6), (10, 10), (10, 13), (10, 10), (5, 6), (10, 10), (10, 13), (10, 10), (5, 6), (10, 10), (10, 13), (10, 10), (5, 6), (10, 10), (10, 13), (10, 10), (5, 6), (10, 10), (10, 13), (10, 10), (6, 2), (10, 30), (5, 6), (10, 10), (10, 13), (10, 10), (10, 5), (9, 26), (10, 12), (10, 12), (10, 12), (10, 5), (10, 50), (10, 2), (10, 2), (10, 2), (10, 2), (10, 2), (10, 2), (10, 24), (10, 25), (11, 30), (11, 5), (11, 5), (11, 5), (11, 5), (10, 5)]
def z_kd (k : Nat) : Nat := (z_sh.getD k (99, 0)).1
def z_ln (k : Nat) : Nat := (z_sh.getD k (99, 0)).2
def z_ft : List (List Bool) := [[false, false, false, true], [false, false, false], [false, true], [false, false, true, false], [false, true, false, true, false, true], [false, false, false, true, true, true], [false, true], [true, true, true, true], [false, false, false, false, false, false, false, false, true, true, true, true], [true, false, false, false, true, false, false, true, false, false, false, false, false, false, false, true, false, true, true, true, false, false, false, false, false, false]]
def z_fi (ci j : Nat) : Bool := (z_ft.getD ci []).getD j false
def z_rl : List (List (Option Nat)) := [[some 1, some 5, some 16, some 19, some 51, some 83, some 85, some 89], [some 2, some 3, some 4], [], [], [], [some 6, some 8, some 10, some 12, some 14], [some 7], [], [some 9], [], [some 11], [], [some 13], [], [some 15], [], [some 17, some 18, none, some 1], [], [], [some 20, some 21, some 27], [some 31, some 35, some 39, some 43, some 47], [some 22, some 23, some 24, some 25, some 26], [], [], [], [], [], [some 28, none, some 29, none, some 30], [], [], [], [some 32, some 33, some 34], [], [], [], [some 36, some 37, some 38], [], [], [], [some 40, some 41, some 42], [], [], [], [some 44, some 45, some 46], [], [], [], [some 48, some 49, some 50], [], [], [], [some 52, some 53, some 59], [some 63, some 67, some 71, some 75, some 79], [some 54, some 55, some 56, some 57, some 58], [], [], [], [], [], [some 60, none, some 61, none, some 62], [], [], [], [some 64, some 65, some 66], [], [], [], [some 68, some 69, some 70], [], [], [], [some 72, some 73, some 74], [], [], [], [some 76, some 77, some 78], [], [], [], [some 80, some 81, some 82], [], [], [], [some 84], [], [some 86, some 87, some 88], [], [], [], [], [none, some 91, some 92, some 93, none, some 94, some 95, none, some 96, some 97, some 98, some 99, some 100, some 101, some 102, none, some 103, none, none, none, some 104, some 105, some 106, some 107, some 108, some 109], [], [], [], [], [], [], [], [], [], [], [], [], [], [], [], [], [], [], []]
def z_rf : ZR := fun k j => (z_rl.getD k []).getD j none
theorem iI_add (a b : Int) : iI a + iI b = iI (a + b) := (Int32.ofInt_add _ _).symm
theorem iI_sub (a b : Int) : iI a - iI b = iI (a - b) := (Int32.ofInt_sub _ _).symm
theorem iI_mul (a b : Int) : iI a * iI b = iI (a * b) := (Int32.ofInt_mul _ _).symm
theorem iI_neg (a : Int) : -iI a = iI (-a) := Int32.neg_ofInt
theorem lJ_add (a b : Int) : lJ a + lJ b = lJ (a + b) := (Int64.ofInt_add _ _).symm
theorem lJ_sub (a b : Int) : lJ a - lJ b = lJ (a - b) := (Int64.ofInt_sub _ _).symm
theorem lJ_mul (a b : Int) : lJ a * lJ b = lJ (a * b) := (Int64.ofInt_mul _ _).symm
theorem lJ_neg (a : Int) : -lJ a = lJ (-a) := Int64.neg_ofInt
def rg (z : Int) : Prop := -2147483648 ≤ z ∧ z < 2147483648
def rl (z : Int) : Prop := -9223372036854775808 ≤ z ∧ z < 9223372036854775808
theorem iI_T {z : Int} (h : rg z) : (iI z).toInt = z := Int32.toInt_ofInt_of_le h.1 h.2
theorem lJ_T {z : Int} (h : rl z) : (lJ z).toInt = z := Int64.toInt_ofInt_of_le h.1 h.2
theorem iI_of (x : Int32) : iI x.toInt = x := Int32.ofInt_toInt x
theorem rg_of (x : Int32) : rg x.toInt := ⟨Int32.le_toInt x, Int32.toInt_lt x⟩
theorem iI_eq {a b : Int} (ha : rg a) (hb : rg b) : iI a = iI b ↔ a = b := by
  rw [← Int32.toInt_inj, iI_T ha, iI_T hb]
theorem iI_lt {a b : Int} (ha : rg a) (hb : rg b) : iI a < iI b ↔ a < b := by
  rw [Int32.lt_iff_toInt_lt, iI_T ha, iI_T hb]
theorem iI_le {a b : Int} (ha : rg a) (hb : rg b) : iI a ≤ iI b ↔ a ≤ b := by
  rw [Int32.le_iff_toInt_le, iI_T ha, iI_T hb]
theorem lJ_eq {a b : Int} (ha : rl a) (hb : rl b) : lJ a = lJ b ↔ a = b := by
  rw [← Int64.toInt_inj, lJ_T ha, lJ_T hb]
theorem lJ_lt {a b : Int} (ha : rl a) (hb : rl b) : lJ a < lJ b ↔ a < b := by
  rw [Int64.lt_iff_toInt_lt, lJ_T ha, lJ_T hb]
theorem iI_0 : (0 : Int32) = iI 0 := rfl
theorem rg_0 : rg 0 := ⟨by decide, by decide⟩
theorem iI_cl {j N : Nat} (h : j < N) (hN : N < 2147483648) : (iI (j : Int)).toNatClampNeg = j := by
  show (iI (j : Int)).toInt.toNat = j
  rw [iI_T ⟨by omega, by omega⟩]; rfl
theorem iI_in {j N : Nat} (h : j < N) (hN : N < 2147483648) : vp_in (iI (j : Int)) N := by
  intro q
  rcases q with q | q
  · rw [iI_0, iI_lt ⟨by omega, by omega⟩ rg_0] at q; omega
  · rw [iI_cl h hN] at q; omega
theorem z_ln_lt (k : Nat) : z_ln k < 2147483648 := by
  unfold z_ln
  by_cases h : k < z_sh.length
  · have h1 : ∀ x ∈ z_sh, x.2 < 2147483648 := by decide +kernel
    rw [List.getD_eq_getElem?_getD, List.getElem?_eq_getElem h]
    exact h1 _ (List.getElem_mem h)
  · rw [List.getD_eq_getElem?_getD, List.getElem?_eq_none (by omega)]; decide
theorem z_up_s {M : ZM} {k j : Nat} {v : Int} : z_up M k j v k j = v := by simp [z_up]
theorem z_up_k {M : ZM} {k j a b : Nat} {v : Int} (h : a ≠ k) : z_up M k j v a b = M a b := by simp [z_up, h]
theorem z_up_j {M : ZM} {k j a b : Nat} {v : Int} (h : b ≠ j) : z_up M k j v a b = M a b := by simp [z_up, h]
theorem z_upR_s {M : ZR} {k j : Nat} {v : Option Nat} : z_upR M k j v k j = v := by simp [z_upR]
theorem z_upR_k {M : ZR} {k j a b : Nat} {v : Option Nat} (h : a ≠ k) : z_upR M k j v a b = M a b := by simp [z_upR, h]
theorem z_upR_j {M : ZR} {k j a b : Nat} {v : Option Nat} (h : b ≠ j) : z_upR M k j v a b = M a b := by simp [z_upR, h]
/-- the value of field j of the object k -/
def z_fv (Q : Nat → Nat) (MR : ZR) (MI : ZM) (k j : Nat) : Value := if z_fi (z_kd k) j = true then .int (iI (MI k j)) else va_rf ((MR k j).map Q)
/-- what the cell k holds -/
def z_E (Z : ZC) (Q : Nat → Nat) (MR : ZR) (MI ML : ZM) (k : Nat) : va_E :=
  if z_kd k = 10 then .inl (Z.1, z_ln k, .inl (fun j => iI (MI k j)))
  else if z_kd k = 11 then .inl (Z.2.1, z_ln k, .inr (.inl (fun j => lJ (ML k j))))
  else if z_kd k = 12 then .inl (Z.2.2.1, z_ln k, .inr (.inr (.inr (.inr (fun j => (MR k j).map Q)))))
  else if z_kd k = 13 then .inl (Z.2.2.2.1, z_ln k, .inr (.inr (.inr (.inr (fun j => (MR k j).map Q)))))
  else if z_kd k = 14 then .inl (Z.2.2.2.2, z_ln k, .inr (.inr (.inr (.inr (fun j => (MR k j).map Q)))))
  else .inr (z_kd k, (List.range (z_ln k)).map (z_fv Q MR MI k))
def z_W (Z : ZC) (n : Nat) (Q : Nat → Nat) (MR : ZR) (MI ML : ZM) : va_W := (List.range n).map (fun k => (Q k, z_E Z Q MR MI ML k))
/-- an array of arrays can be made (as va_AO, of arrays) -/
def z_AOA (ty : FieldType) (U : State) : Prop := (Cond.arrayOver (.array ty)).before #[] U = true
theorem z_AOA.use {ty : FieldType} {A : Array Value} {U : State} (h : z_AOA ty U) : (Cond.arrayOver (.array ty)).before A U = true := h
theorem z_AOA.moved {ty : FieldType} {u U : State} (hvm : u.vm.Alike U.vm) (h : z_AOA ty u) : z_AOA ty U := Jvm.Stand.arrayOver_alikeB hvm h
def z_T (Z : ZC) : List (ClassId × FieldType) := [(Z.1, .int), (Z.2.1, .long), (Z.2.2.1, .object "DeckBalance$Deck"), (Z.2.2.2.1, .object "DeckBalance$Plan"), (Z.2.2.2.2, .array .int)]
def z_K (D : va_G) (Z : ZC) (U : State) : Prop := va_K D vwCl (z_T Z) U ∧ va_AO "DeckBalance$Deck" U ∧ va_AO "DeckBalance$Plan" U ∧ z_AOA .int U
def z_A (n : Nat) (Q : Nat → Nat) (sz : Nat) : Nat → Prop := fun q => (∃ k, k < n ∧ q = Q k) ∨ sz ≤ q
theorem z_W_at {Z : ZC} {n k : Nat} {Q : Nat → Nat} {MR : ZR} {MI ML : ZM} (h : k < n) : (z_W Z n Q MR MI ML)[k]? = some (Q k, z_E Z Q MR MI ML k) := by
  unfold z_W
  rw [List.getElem?_map, List.getElem?_range h]; rfl
theorem z_W_set {Z : ZC} {n k : Nat} {Q : Nat → Nat} {MR MR' : ZR} {MI ML MI' ML' : ZM} {x : Nat × va_E} (h : k < n) (hx : x = (Q k, z_E Z Q MR' MI' ML' k)) (ho : ∀ a, a ≠ k → z_E Z Q MR' MI' ML' a = z_E Z Q MR MI ML a) : (z_W Z n Q MR MI ML).set k x = z_W Z n Q MR' MI' ML' := by
  apply List.ext_getElem?
  intro i
  by_cases hi : i = k
  · subst hi
    rw [List.getElem?_set_self (by unfold z_W; simp; exact h), z_W_at h, hx]
  · rw [List.getElem?_set_ne (Ne.symm hi)]
    by_cases hn : i < n
    · rw [z_W_at hn, z_W_at hn, ho i hi]
    · rw [List.getElem?_eq_none (by unfold z_W; simp; omega), List.getElem?_eq_none (by unfold z_W; simp; omega)]
theorem z_E_up {Z : ZC} {Q : Nat → Nat} {MR : ZR} {MI ML : ZM} {k j a : Nat} {v : Int} (h : a ≠ k) : z_E Z Q MR (z_up MI k j v) ML a = z_E Z Q MR MI ML a := by
  have e : ∀ b, z_up MI k j v a b = MI a b := fun b => z_up_k h
  unfold z_E z_fv
  simp only [e]
theorem z_E_upL {Z : ZC} {Q : Nat → Nat} {MR : ZR} {MI ML : ZM} {k j a : Nat} {v : Int} (h : a ≠ k) : z_E Z Q MR MI (z_up ML k j v) a = z_E Z Q MR MI ML a := by
  have e : ∀ b, z_up ML k j v a b = ML a b := fun b => z_up_k h
  unfold z_E z_fv
  simp only [e]
theorem z_E_upR {Z : ZC} {Q : Nat → Nat} {MR : ZR} {MI ML : ZM} {k j a : Nat} {v : Option Nat} (h : a ≠ k) : z_E Z Q (z_upR MR k j v) MI ML a = z_E Z Q MR MI ML a := by
  have e : ∀ b, z_upR MR k j v a b = MR a b := fun b => z_upR_k h
  unfold z_E z_fv
  simp only [e]
theorem z_E_i {Z : ZC} {Q : Nat → Nat} {MR : ZR} {MI ML : ZM} {k : Nat} (h : z_kd k = 10) : z_E Z Q MR MI ML k = .inl (Z.1, z_ln k, .inl (fun j => iI (MI k j))) := by unfold z_E; rw [if_pos h]
theorem z_E_l {Z : ZC} {Q : Nat → Nat} {MR : ZR} {MI ML : ZM} {k : Nat} (h : z_kd k = 11) : z_E Z Q MR MI ML k = .inl (Z.2.1, z_ln k, .inr (.inl (fun j => lJ (ML k j)))) := by unfold z_E; rw [if_neg (by omega), if_pos h]
theorem z_E_D {Z : ZC} {Q : Nat → Nat} {MR : ZR} {MI ML : ZM} {k : Nat} (h : z_kd k = 12) : z_E Z Q MR MI ML k = .inl (Z.2.2.1, z_ln k, .inr (.inr (.inr (.inr (fun j => (MR k j).map Q))))) := by unfold z_E; rw [if_neg (by omega), if_neg (by omega), if_pos h]
theorem z_E_P {Z : ZC} {Q : Nat → Nat} {MR : ZR} {MI ML : ZM} {k : Nat} (h : z_kd k = 13) : z_E Z Q MR MI ML k = .inl (Z.2.2.2.1, z_ln k, .inr (.inr (.inr (.inr (fun j => (MR k j).map Q))))) := by unfold z_E; rw [if_neg (by omega), if_neg (by omega), if_neg (by omega), if_pos h]
theorem z_E_T {Z : ZC} {Q : Nat → Nat} {MR : ZR} {MI ML : ZM} {k : Nat} (h : z_kd k = 14) : z_E Z Q MR MI ML k = .inl (Z.2.2.2.2, z_ln k, .inr (.inr (.inr (.inr (fun j => (MR k j).map Q))))) := by unfold z_E; rw [if_neg (by omega), if_neg (by omega), if_neg (by omega), if_neg (by omega), if_pos h]
theorem z_E_o {Z : ZC} {Q : Nat → Nat} {MR : ZR} {MI ML : ZM} {k ci : Nat} (h : z_kd k = ci) (hc : ci < 10) : z_E Z Q MR MI ML k = .inr (ci, (List.range (z_ln k)).map (z_fv Q MR MI k)) := by unfold z_E; rw [if_neg (by omega), if_neg (by omega), if_neg (by omega), if_neg (by omega), if_neg (by omega), h]
/-! the judgement -/
abbrev VX : Type := Program × Launch × Env × Room × State × MethodId × Array Value × List Frame × Method × Code × Nat × va_G × ZC × (Nat → Prop) × (State → Prop)
def V (X : VX) (cs : Nat × Nat) (n : Nat) (Q : Nat → Nat) (MR : ZR) (MI ML : ZM) (pc : Nat) (lv : List (Nat × Value)) (st : List Value) : Prop :=
  match X with
  | (p, l, e, R, s, m, args, below, meth, c, nL, D, Z, A, Qp) => ∀ (H : Heap) (locs : List Loc) (ls : Array Slot), lv_has ls nL lv → va_P D vwCl (z_W Z n Q MR MI ML) H → va_D A (z_W Z n Q MR MI ML) → va_S A s.heap H locs → W p l e R s m args below meth c H locs cs.1 cs.2 Qp (F0 m pc ls st)
def VK (X : VX) (cc : ByteArray) (own : String) (nL : Nat) (ret : Option FieldType) (fr lo mc ms : Nat) : Prop :=
  match X with
  | (p, _, _, R, s, m, args, _, meth, c, nL', D, Z, A, _) => p.tables.exec = Jvm.exec ∧ c.code = cc ∧ c.maxLocals = nL ∧ nL' = nL ∧ s.vm.findClass own = some m.cls ∧ (∀ w ∈ wsL, w.before args s = true) ∧ z_K D Z s ∧ meth.sig.returnType = ret ∧ meth.locks = false ∧ (∀ q, s.heap.size ≤ q → A q) ∧ R = { frames := fr, cells := mc, slots := ms, locals := lo }
end
section
section VROWS
variable {X : VX} {cs : Nat × Nat} {n : Nat} {Q : Nat → Nat} {MR : ZR} {MI ML : ZM} {pc : Nat} {lv : List (Nat × Value)} {st : List Value} {cc : ByteArray} {own : String} {nL : Nat} {ret : Option FieldType} {fr lo mc ms : Nat}
theorem v_iconst (K : VK X cc own nL ret fr lo mc ms) {z : Int} (hd : decode cc pc = .ok (.iconst z, 1)) (k : V X cs n Q MR MI ML (pc + 1) lv (.int (iI z) :: st)) : V X cs n Q MR MI ML pc lv st := by
  obtain ⟨p, l, e, R, s, m, args, below, meth, c, nL2, D, Z, A, Qp⟩ := X
  obtain ⟨kx, kb, km, rfl, ko, kt, kK, kr, kl, kA, rfl⟩ := K
  intro H locs ls hl hP hD hS
  exact lv_iconst kx kb hd rfl (k H locs ls hl hP hD hS)
theorem v_bipush (K : VK X cc own nL ret fr lo mc ms) {z : Int} (hd : decode cc pc = .ok (.bipush z, 2)) (hv : (Int8.ofInt z).toInt32 = iI z) (k : V X cs n Q MR MI ML (pc + 2) lv (.int (iI z) :: st)) : V X cs n Q MR MI ML pc lv st := by
  obtain ⟨p, l, e, R, s, m, args, below, meth, c, nL2, D, Z, A, Qp⟩ := X
  obtain ⟨kx, kb, km, rfl, ko, kt, kK, kr, kl, kA, rfl⟩ := K
  intro H locs ls hl hP hD hS
  exact lv_bipush kx kb hd hv (k H locs ls hl hP hD hS)
theorem v_sipush (K : VK X cc own nL ret fr lo mc ms) {z : Int} (hd : decode cc pc = .ok (.sipush z, 3)) (hv : (Int16.ofInt z).toInt32 = iI z) (k : V X cs n Q MR MI ML (pc + 3) lv (.int (iI z) :: st)) : V X cs n Q MR MI ML pc lv st := by
  obtain ⟨p, l, e, R, s, m, args, below, meth, c, nL2, D, Z, A, Qp⟩ := X
  obtain ⟨kx, kb, km, rfl, ko, kt, kK, kr, kl, kA, rfl⟩ := K
  intro H locs ls hl hP hD hS
  exact lv_sipush kx kb hd hv (k H locs ls hl hP hD hS)
theorem v_ldc (K : VK X cc own nL ret fr lo mc ms) {index : Nat} {v : Int32} (z : Int) (hw : Cond.constant own index v ∈ wsL) (hv : v = iI z) (hd : decode cc pc = .ok (.ldc index, 2)) (k : V X cs n Q MR MI ML (pc + 2) lv (.int (iI z) :: st)) : V X cs n Q MR MI ML pc lv st := by
  obtain ⟨p, l, e, R, s, m, args, below, meth, c, nL2, D, Z, A, Qp⟩ := X
  obtain ⟨kx, kb, km, rfl, ko, kt, kK, kr, kl, kA, rfl⟩ := K
  intro H locs ls hl hP hD hS
  subst hv
  exact lv_ldc kx kb ko (kt _ hw) hd (k H locs ls hl hP hD hS)
theorem v_ldc2 (K : VK X cc own nL ret fr lo mc ms) {index : Nat} {v : Int64} (z : Int) (hw : Cond.constantLong own index v ∈ wsL) (hv : v = lJ z) (hd : decode cc pc = .ok (.ldc2_w index, 3)) (k : V X cs n Q MR MI ML (pc + 3) lv (.long (lJ z) :: st)) : V X cs n Q MR MI ML pc lv st := by
  obtain ⟨p, l, e, R, s, m, args, below, meth, c, nL2, D, Z, A, Qp⟩ := X
  obtain ⟨kx, kb, km, rfl, ko, kt, kK, kr, kl, kA, rfl⟩ := K
  intro H locs ls hl hP hD hS
  subst hv
  exact lv_ldc2 kx kb ko (kt _ hw) hd (k H locs ls hl hP hD hS)
theorem v_lconst (K : VK X cc own nL ret fr lo mc ms) {f : Fin 2} (z : Int) (hd : decode cc pc = .ok (.lconst f, 1)) (hv : Int64.ofNat (f : Nat) = lJ z) (k : V X cs n Q MR MI ML (pc + 1) lv (.long (lJ z) :: st)) : V X cs n Q MR MI ML pc lv st := by
  obtain ⟨p, l, e, R, s, m, args, below, meth, c, nL2, D, Z, A, Qp⟩ := X
  obtain ⟨kx, kb, km, rfl, ko, kt, kK, kr, kl, kA, rfl⟩ := K
  intro H locs ls hl hP hD hS
  exact lv_lconst kx kb hd hv (k H locs ls hl hP hD hS)
theorem v_iload_n (K : VK X cc own nL ret fr lo mc ms) {f : Fin 4} {i : Nat} {z : Int} (j : Nat) (hd : decode cc pc = .ok (.iload_n f, 1)) (hi : (f : Nat) = i) (hj : lv[j]? = some (i, .int (iI z))) (k : V X cs n Q MR MI ML (pc + 1) lv (.int (iI z) :: st)) : V X cs n Q MR MI ML pc lv st := by
  obtain ⟨p, l, e, R, s, m, args, below, meth, c, nL2, D, Z, A, Qp⟩ := X
  obtain ⟨kx, kb, km, rfl, ko, kt, kK, kr, kl, kA, rfl⟩ := K
  intro H locs ls hl hP hD hS
  exact lv_iload_n kx kb hd hi (lv_at hl j hj) (k H locs ls hl hP hD hS)
theorem v_iload (K : VK X cc own nL ret fr lo mc ms) {i : Nat} {z : Int} (j : Nat) (hd : decode cc pc = .ok (.iload i, 2)) (hj : lv[j]? = some (i, .int (iI z))) (k : V X cs n Q MR MI ML (pc + 2) lv (.int (iI z) :: st)) : V X cs n Q MR MI ML pc lv st := by
  obtain ⟨p, l, e, R, s, m, args, below, meth, c, nL2, D, Z, A, Qp⟩ := X
  obtain ⟨kx, kb, km, rfl, ko, kt, kK, kr, kl, kA, rfl⟩ := K
  intro H locs ls hl hP hD hS
  exact lv_iload kx kb hd (lv_at hl j hj) (k H locs ls hl hP hD hS)
theorem v_lload_n (K : VK X cc own nL ret fr lo mc ms) {f : Fin 4} {i : Nat} {z : Int} (j : Nat) (hd : decode cc pc = .ok (.lload_n f, 1)) (hi : (f : Nat) = i) (hj : lv[j]? = some (i, .long (lJ z))) (k : V X cs n Q MR MI ML (pc + 1) lv (.long (lJ z) :: st)) : V X cs n Q MR MI ML pc lv st := by
  obtain ⟨p, l, e, R, s, m, args, below, meth, c, nL2, D, Z, A, Qp⟩ := X
  obtain ⟨kx, kb, km, rfl, ko, kt, kK, kr, kl, kA, rfl⟩ := K
  intro H locs ls hl hP hD hS
  exact lv_lload_n kx kb hd hi (lv_at hl j hj) (k H locs ls hl hP hD hS)
theorem v_lload (K : VK X cc own nL ret fr lo mc ms) {i : Nat} {z : Int} (j : Nat) (hd : decode cc pc = .ok (.lload i, 2)) (hj : lv[j]? = some (i, .long (lJ z))) (k : V X cs n Q MR MI ML (pc + 2) lv (.long (lJ z) :: st)) : V X cs n Q MR MI ML pc lv st := by
  obtain ⟨p, l, e, R, s, m, args, below, meth, c, nL2, D, Z, A, Qp⟩ := X
  obtain ⟨kx, kb, km, rfl, ko, kt, kK, kr, kl, kA, rfl⟩ := K
  intro H locs ls hl hP hD hS
  exact lv_lload kx kb hd (lv_at hl j hj) (k H locs ls hl hP hD hS)
theorem v_aload_n (K : VK X cc own nL ret fr lo mc ms) {f : Fin 4} {i : Nat} {z : Nat} (j : Nat) (hd : decode cc pc = .ok (.aload_n f, 1)) (hi : (f : Nat) = i) (hj : lv[j]? = some (i, .ref z)) (k : V X cs n Q MR MI ML (pc + 1) lv (.ref z :: st)) : V X cs n Q MR MI ML pc lv st := by
  obtain ⟨p, l, e, R, s, m, args, below, meth, c, nL2, D, Z, A, Qp⟩ := X
  obtain ⟨kx, kb, km, rfl, ko, kt, kK, kr, kl, kA, rfl⟩ := K
  intro H locs ls hl hP hD hS
  exact lv_aload_n kx kb hd hi (lv_at hl j hj) (k H locs ls hl hP hD hS)
theorem v_aload (K : VK X cc own nL ret fr lo mc ms) {i : Nat} {z : Nat} (j : Nat) (hd : decode cc pc = .ok (.aload i, 2)) (hj : lv[j]? = some (i, .ref z)) (k : V X cs n Q MR MI ML (pc + 2) lv (.ref z :: st)) : V X cs n Q MR MI ML pc lv st := by
  obtain ⟨p, l, e, R, s, m, args, below, meth, c, nL2, D, Z, A, Qp⟩ := X
  obtain ⟨kx, kb, km, rfl, ko, kt, kK, kr, kl, kA, rfl⟩ := K
  intro H locs ls hl hP hD hS
  exact lv_aload kx kb hd (lv_at hl j hj) (k H locs ls hl hP hD hS)
theorem v_istore_n (K : VK X cc own nL ret fr lo mc ms) {f : Fin 4} {i : Nat} {z : Int} (lf : Int → List (Nat × Value)) (hd : decode cc pc = .ok (.istore_n f, 1)) (hi : (f : Nat) = i) (hn : i < nL) (hlf : ∀ x, (i, Value.int (iI x)) :: lv.filter (fun q => !(q.1 == i) && !(q.1 + 1 == i && q.2.category == 2)) = lf x) (k : ∀ x, x = z → V X cs n Q MR MI ML (pc + 1) (lf x) st) : V X cs n Q MR MI ML pc lv (.int (iI z) :: st) := by
  obtain ⟨p, l, e, R, s, m, args, below, meth, c, nL2, D, Z, A, Qp⟩ := X
  obtain ⟨kx, kb, km, rfl, ko, kt, kK, kr, kl, kA, rfl⟩ := K
  intro H locs ls hl hP hD hS
  exact lv_istore_n kx kb hd hi hl hn (hlf z) (fun ls hl => k z rfl H locs ls hl hP hD hS)
theorem v_istore (K : VK X cc own nL ret fr lo mc ms) {i : Nat} {z : Int} (lf : Int → List (Nat × Value)) (hd : decode cc pc = .ok (.istore i, 2)) (hn : i < nL) (hlf : ∀ x, (i, Value.int (iI x)) :: lv.filter (fun q => !(q.1 == i) && !(q.1 + 1 == i && q.2.category == 2)) = lf x) (k : ∀ x, x = z → V X cs n Q MR MI ML (pc + 2) (lf x) st) : V X cs n Q MR MI ML pc lv (.int (iI z) :: st) := by
  obtain ⟨p, l, e, R, s, m, args, below, meth, c, nL2, D, Z, A, Qp⟩ := X
  obtain ⟨kx, kb, km, rfl, ko, kt, kK, kr, kl, kA, rfl⟩ := K
  intro H locs ls hl hP hD hS
  exact lv_istore kx kb hd hl hn (hlf z) (fun ls hl => k z rfl H locs ls hl hP hD hS)
theorem v_lstore_n (K : VK X cc own nL ret fr lo mc ms) {f : Fin 4} {i : Nat} {z : Int} (lf : Int → List (Nat × Value)) (hd : decode cc pc = .ok (.lstore_n f, 1)) (hi : (f : Nat) = i) (hn : i + 1 < nL) (hlf : ∀ x, (i, Value.long (lJ x)) :: lv.filter (fun q => !(q.1 == i) && (!(q.1 == i + 1) && !(q.1 + 1 == i && q.2.category == 2))) = lf x) (k : ∀ x, x = z → V X cs n Q MR MI ML (pc + 1) (lf x) st) : V X cs n Q MR MI ML pc lv (.long (lJ z) :: st) := by
  obtain ⟨p, l, e, R, s, m, args, below, meth, c, nL2, D, Z, A, Qp⟩ := X
  obtain ⟨kx, kb, km, rfl, ko, kt, kK, kr, kl, kA, rfl⟩ := K
  intro H locs ls hl hP hD hS
  exact lv_lstore_n kx kb hd hi hl hn (hlf z) (fun ls hl => k z rfl H locs ls hl hP hD hS)
theorem v_lstore (K : VK X cc own nL ret fr lo mc ms) {i : Nat} {z : Int} (lf : Int → List (Nat × Value)) (hd : decode cc pc = .ok (.lstore i, 2)) (hn : i + 1 < nL) (hlf : ∀ x, (i, Value.long (lJ x)) :: lv.filter (fun q => !(q.1 == i) && (!(q.1 == i + 1) && !(q.1 + 1 == i && q.2.category == 2))) = lf x) (k : ∀ x, x = z → V X cs n Q MR MI ML (pc + 2) (lf x) st) : V X cs n Q MR MI ML pc lv (.long (lJ z) :: st) := by
  obtain ⟨p, l, e, R, s, m, args, below, meth, c, nL2, D, Z, A, Qp⟩ := X
  obtain ⟨kx, kb, km, rfl, ko, kt, kK, kr, kl, kA, rfl⟩ := K
  intro H locs ls hl hP hD hS
  exact lv_lstore kx kb hd hl hn (hlf z) (fun ls hl => k z rfl H locs ls hl hP hD hS)
theorem v_astore_n (K : VK X cc own nL ret fr lo mc ms) {f : Fin 4} {i z : Nat} (lv1 : List (Nat × Value)) (hd : decode cc pc = .ok (.astore_n f, 1)) (hi : (f : Nat) = i) (hn : i < nL) (hlf : (i, Value.ref z) :: lv.filter (fun q => !(q.1 == i) && !(q.1 + 1 == i && q.2.category == 2)) = lv1) (k : V X cs n Q MR MI ML (pc + 1) lv1 st) : V X cs n Q MR MI ML pc lv (.ref z :: st) := by
  obtain ⟨p, l, e, R, s, m, args, below, meth, c, nL2, D, Z, A, Qp⟩ := X
  obtain ⟨kx, kb, km, rfl, ko, kt, kK, kr, kl, kA, rfl⟩ := K
  intro H locs ls hl hP hD hS
  exact lv_astore_n kx kb hd hi hl hn hlf (fun ls hl => k H locs ls hl hP hD hS)
theorem v_iinc (K : VK X cc own nL ret fr lo mc ms) {i : Nat} {d z : Int} (j : Nat) (lf : Int → List (Nat × Value)) (hd : decode cc pc = .ok (.iinc i d, 3)) (hj : lv[j]? = some (i, .int (iI z))) (hn : i < nL) (hlf : ∀ x, (i, Value.int (iI x)) :: lv.filter (fun q => !(q.1 == i) && !(q.1 + 1 == i && q.2.category == 2)) = lf x) (k : ∀ x, x = z + d → V X cs n Q MR MI ML (pc + 3) (lf x) st) : V X cs n Q MR MI ML pc lv st := by
  obtain ⟨p, l, e, R, s, m, args, below, meth, c, nL2, D, Z, A, Qp⟩ := X
  obtain ⟨kx, kb, km, rfl, ko, kt, kK, kr, kl, kA, rfl⟩ := K
  intro H locs ls hl hP hD hS
  exact lv_iinc (v := iI (z + d)) kx kb hd hl hj (iI_add z d) hn (hlf (z + d)) (fun ls hl => k (z + d) rfl H locs ls hl hP hD hS)
theorem v_sub (K : VK X cc own nL ret fr lo mc ms) {lv1 : List (Nat × Value)} (ks : List Nat) (h : lv_pick lv ks = lv1) (k : V X cs n Q MR MI ML pc lv1 st) : V X cs n Q MR MI ML pc lv st := by
  obtain ⟨p, l, e, R, s, m, args, below, meth, c, nL2, D, Z, A, Qp⟩ := X
  obtain ⟨kx, kb, km, rfl, ko, kt, kK, kr, kl, kA, rfl⟩ := K
  intro H locs ls hl hP hD hS
  exact k H locs ls (lv_sub hl ks h) hP hD hS
theorem v_iadd (K : VK X cc own nL ret fr lo mc ms) {a b : Int} (hd : decode cc pc = .ok (.iadd, 1)) (k : V X cs n Q MR MI ML (pc + 1) lv (.int (iI (a + b)) :: st)) : V X cs n Q MR MI ML pc lv (.int (iI b) :: .int (iI a) :: st) := by
  obtain ⟨p, l, e, R, s, m, args, below, meth, c, nL2, D, Z, A, Qp⟩ := X
  obtain ⟨kx, kb, km, rfl, ko, kt, kK, kr, kl, kA, rfl⟩ := K
  intro H locs ls hl hP hD hS
  have k9 := k H locs ls hl hP hD hS
  rw [← iI_add] at k9
  exact lv_iadd kx kb hd k9
theorem v_isub (K : VK X cc own nL ret fr lo mc ms) {a b : Int} (hd : decode cc pc = .ok (.isub, 1)) (k : V X cs n Q MR MI ML (pc + 1) lv (.int (iI (a - b)) :: st)) : V X cs n Q MR MI ML pc lv (.int (iI b) :: .int (iI a) :: st) := by
  obtain ⟨p, l, e, R, s, m, args, below, meth, c, nL2, D, Z, A, Qp⟩ := X
  obtain ⟨kx, kb, km, rfl, ko, kt, kK, kr, kl, kA, rfl⟩ := K
  intro H locs ls hl hP hD hS
  have k9 := k H locs ls hl hP hD hS
  rw [← iI_sub] at k9
  exact lv_isub kx kb hd k9
theorem v_imul (K : VK X cc own nL ret fr lo mc ms) {a b : Int} (hd : decode cc pc = .ok (.imul, 1)) (k : V X cs n Q MR MI ML (pc + 1) lv (.int (iI (a * b)) :: st)) : V X cs n Q MR MI ML pc lv (.int (iI b) :: .int (iI a) :: st) := by
  obtain ⟨p, l, e, R, s, m, args, below, meth, c, nL2, D, Z, A, Qp⟩ := X
  obtain ⟨kx, kb, km, rfl, ko, kt, kK, kr, kl, kA, rfl⟩ := K
  intro H locs ls hl hP hD hS
  have k9 := k H locs ls hl hP hD hS
  rw [← iI_mul] at k9
  exact lv_imul kx kb hd k9
theorem v_ladd (K : VK X cc own nL ret fr lo mc ms) {a b : Int} (hd : decode cc pc = .ok (.ladd, 1)) (k : V X cs n Q MR MI ML (pc + 1) lv (.long (lJ (a + b)) :: st)) : V X cs n Q MR MI ML pc lv (.long (lJ b) :: .long (lJ a) :: st) := by
  obtain ⟨p, l, e, R, s, m, args, below, meth, c, nL2, D, Z, A, Qp⟩ := X
  obtain ⟨kx, kb, km, rfl, ko, kt, kK, kr, kl, kA, rfl⟩ := K
  intro H locs ls hl hP hD hS
  have k9 := k H locs ls hl hP hD hS
  rw [← lJ_add] at k9
  exact lv_ladd kx kb hd k9
theorem v_lsub (K : VK X cc own nL ret fr lo mc ms) {a b : Int} (hd : decode cc pc = .ok (.lsub, 1)) (k : V X cs n Q MR MI ML (pc + 1) lv (.long (lJ (a - b)) :: st)) : V X cs n Q MR MI ML pc lv (.long (lJ b) :: .long (lJ a) :: st) := by
  obtain ⟨p, l, e, R, s, m, args, below, meth, c, nL2, D, Z, A, Qp⟩ := X
  obtain ⟨kx, kb, km, rfl, ko, kt, kK, kr, kl, kA, rfl⟩ := K
  intro H locs ls hl hP hD hS
  have k9 := k H locs ls hl hP hD hS
  rw [← lJ_sub] at k9
  exact lv_lsub kx kb hd k9
theorem v_lmul (K : VK X cc own nL ret fr lo mc ms) {a b : Int} (hd : decode cc pc = .ok (.lmul, 1)) (k : V X cs n Q MR MI ML (pc + 1) lv (.long (lJ (a * b)) :: st)) : V X cs n Q MR MI ML pc lv (.long (lJ b) :: .long (lJ a) :: st) := by
  obtain ⟨p, l, e, R, s, m, args, below, meth, c, nL2, D, Z, A, Qp⟩ := X
  obtain ⟨kx, kb, km, rfl, ko, kt, kK, kr, kl, kA, rfl⟩ := K
  intro H locs ls hl hP hD hS
  have k9 := k H locs ls hl hP hD hS
  rw [← lJ_mul] at k9
  exact lv_lmul kx kb hd k9
theorem v_ineg (K : VK X cc own nL ret fr lo mc ms) {a : Int} (hd : decode cc pc = .ok (.ineg, 1)) (k : V X cs n Q MR MI ML (pc + 1) lv (.int (iI (-a)) :: st)) : V X cs n Q MR MI ML pc lv (.int (iI a) :: st) := by
  obtain ⟨p, l, e, R, s, m, args, below, meth, c, nL2, D, Z, A, Qp⟩ := X
  obtain ⟨kx, kb, km, rfl, ko, kt, kK, kr, kl, kA, rfl⟩ := K
  intro H locs ls hl hP hD hS
  have k9 := k H locs ls hl hP hD hS
  rw [← iI_neg] at k9
  exact lv_ineg kx kb hd k9
theorem v_lneg (K : VK X cc own nL ret fr lo mc ms) {a : Int} (hd : decode cc pc = .ok (.lneg, 1)) (k : V X cs n Q MR MI ML (pc + 1) lv (.long (lJ (-a)) :: st)) : V X cs n Q MR MI ML pc lv (.long (lJ a) :: st) := by
  obtain ⟨p, l, e, R, s, m, args, below, meth, c, nL2, D, Z, A, Qp⟩ := X
  obtain ⟨kx, kb, km, rfl, ko, kt, kK, kr, kl, kA, rfl⟩ := K
  intro H locs ls hl hP hD hS
  have k9 := k H locs ls hl hP hD hS
  rw [← lJ_neg] at k9
  exact lv_lneg kx kb hd k9
theorem v_iand (K : VK X cc own nL ret fr lo mc ms) {a b : Int} (z : Int) (hz : iI a &&& iI b = iI z) (hd : decode cc pc = .ok (.iand, 1)) (k : V X cs n Q MR MI ML (pc + 1) lv (.int (iI z) :: st)) : V X cs n Q MR MI ML pc lv (.int (iI b) :: .int (iI a) :: st) := by
  obtain ⟨p, l, e, R, s, m, args, below, meth, c, nL2, D, Z, A, Qp⟩ := X
  obtain ⟨kx, kb, km, rfl, ko, kt, kK, kr, kl, kA, rfl⟩ := K
  intro H locs ls hl hP hD hS
  have k9 := k H locs ls hl hP hD hS
  rw [← hz] at k9
  exact lv_iand kx kb hd k9
theorem v_ixor (K : VK X cc own nL ret fr lo mc ms) {a b : Int} (z : Int) (hz : iI a ^^^ iI b = iI z) (hd : decode cc pc = .ok (.ixor, 1)) (k : V X cs n Q MR MI ML (pc + 1) lv (.int (iI z) :: st)) : V X cs n Q MR MI ML pc lv (.int (iI b) :: .int (iI a) :: st) := by
  obtain ⟨p, l, e, R, s, m, args, below, meth, c, nL2, D, Z, A, Qp⟩ := X
  obtain ⟨kx, kb, km, rfl, ko, kt, kK, kr, kl, kA, rfl⟩ := K
  intro H locs ls hl hP hD hS
  have k9 := k H locs ls hl hP hD hS
  rw [← hz] at k9
  exact lv_ixor kx kb hd k9
theorem v_ishl (K : VK X cc own nL ret fr lo mc ms) {a b : Int} (z : Int) (hz : iI a <<< (iI b &&& 31) = iI z) (hd : decode cc pc = .ok (.ishl, 1)) (k : V X cs n Q MR MI ML (pc + 1) lv (.int (iI z) :: st)) : V X cs n Q MR MI ML pc lv (.int (iI b) :: .int (iI a) :: st) := by
  obtain ⟨p, l, e, R, s, m, args, below, meth, c, nL2, D, Z, A, Qp⟩ := X
  obtain ⟨kx, kb, km, rfl, ko, kt, kK, kr, kl, kA, rfl⟩ := K
  intro H locs ls hl hP hD hS
  have k9 := k H locs ls hl hP hD hS
  rw [← hz] at k9
  exact lv_ishl kx kb hd k9
theorem v_ishr (K : VK X cc own nL ret fr lo mc ms) {a b : Int} (z : Int) (hz : iI a >>> (iI b &&& 31) = iI z) (hd : decode cc pc = .ok (.ishr, 1)) (k : V X cs n Q MR MI ML (pc + 1) lv (.int (iI z) :: st)) : V X cs n Q MR MI ML pc lv (.int (iI b) :: .int (iI a) :: st) := by
  obtain ⟨p, l, e, R, s, m, args, below, meth, c, nL2, D, Z, A, Qp⟩ := X
  obtain ⟨kx, kb, km, rfl, ko, kt, kK, kr, kl, kA, rfl⟩ := K
  intro H locs ls hl hP hD hS
  have k9 := k H locs ls hl hP hD hS
  rw [← hz] at k9
  exact lv_ishr kx kb hd k9
theorem v_idiv (K : VK X cc own nL ret fr lo mc ms) {a b : Int} (z : Int) (h0 : ¬ iI b = 0) (hz : iI a / iI b = iI z) (hd : decode cc pc = .ok (.idiv, 1)) (k : V X cs n Q MR MI ML (pc + 1) lv (.int (iI z) :: st)) : V X cs n Q MR MI ML pc lv (.int (iI b) :: .int (iI a) :: st) := by
  obtain ⟨p, l, e, R, s, m, args, below, meth, c, nL2, D, Z, A, Qp⟩ := X
  obtain ⟨kx, kb, km, rfl, ko, kt, kK, kr, kl, kA, rfl⟩ := K
  intro H locs ls hl hP hD hS
  have k9 := k H locs ls hl hP hD hS
  rw [← hz] at k9
  exact lv_idiv kx kb hd h0 k9
theorem v_irem (K : VK X cc own nL ret fr lo mc ms) {a b : Int} (z : Int) (h0 : ¬ iI b = 0) (hz : iI a - iI a / iI b * iI b = iI z) (hd : decode cc pc = .ok (.irem, 1)) (k : V X cs n Q MR MI ML (pc + 1) lv (.int (iI z) :: st)) : V X cs n Q MR MI ML pc lv (.int (iI b) :: .int (iI a) :: st) := by
  obtain ⟨p, l, e, R, s, m, args, below, meth, c, nL2, D, Z, A, Qp⟩ := X
  obtain ⟨kx, kb, km, rfl, ko, kt, kK, kr, kl, kA, rfl⟩ := K
  intro H locs ls hl hP hD hS
  have k9 := k H locs ls hl hP hD hS
  rw [← hz] at k9
  exact lv_irem kx kb hd h0 k9
theorem v_ldiv (K : VK X cc own nL ret fr lo mc ms) {a b : Int} (z : Int) (h0 : ¬ lJ b = 0) (hz : lJ a / lJ b = lJ z) (hd : decode cc pc = .ok (.ldiv, 1)) (k : V X cs n Q MR MI ML (pc + 1) lv (.long (lJ z) :: st)) : V X cs n Q MR MI ML pc lv (.long (lJ b) :: .long (lJ a) :: st) := by
  obtain ⟨p, l, e, R, s, m, args, below, meth, c, nL2, D, Z, A, Qp⟩ := X
  obtain ⟨kx, kb, km, rfl, ko, kt, kK, kr, kl, kA, rfl⟩ := K
  intro H locs ls hl hP hD hS
  have k9 := k H locs ls hl hP hD hS
  rw [← hz] at k9
  exact lv_ldiv kx kb hd h0 k9
theorem v_lrem (K : VK X cc own nL ret fr lo mc ms) {a b : Int} (z : Int) (h0 : ¬ lJ b = 0) (hz : lJ a - lJ a / lJ b * lJ b = lJ z) (hd : decode cc pc = .ok (.lrem, 1)) (k : V X cs n Q MR MI ML (pc + 1) lv (.long (lJ z) :: st)) : V X cs n Q MR MI ML pc lv (.long (lJ b) :: .long (lJ a) :: st) := by
  obtain ⟨p, l, e, R, s, m, args, below, meth, c, nL2, D, Z, A, Qp⟩ := X
  obtain ⟨kx, kb, km, rfl, ko, kt, kK, kr, kl, kA, rfl⟩ := K
  intro H locs ls hl hP hD hS
  have k9 := k H locs ls hl hP hD hS
  rw [← hz] at k9
  exact lv_lrem kx kb hd h0 k9
theorem v_i2l (K : VK X cc own nL ret fr lo mc ms) {a : Int} (ha : rg a) (hd : decode cc pc = .ok (.i2l, 1)) (k : V X cs n Q MR MI ML (pc + 1) lv (.long (lJ a) :: st)) : V X cs n Q MR MI ML pc lv (.int (iI a) :: st) := by
  obtain ⟨p, l, e, R, s, m, args, below, meth, c, nL2, D, Z, A, Qp⟩ := X
  obtain ⟨kx, kb, km, rfl, ko, kt, kK, kr, kl, kA, rfl⟩ := K
  intro H locs ls hl hP hD hS
  exact lv_i2l kx kb hd (by rw [← Int64.toInt_inj, Int32.toInt_toInt64, iI_T ha, lJ_T ⟨by have := ha.1; omega, by have := ha.2; omega⟩]) (k H locs ls hl hP hD hS)
theorem v_dup (K : VK X cc own nL ret fr lo mc ms) {va : Value} (hd : decode cc pc = .ok (.dup, 1)) (hva : va.category = 1) (k : V X cs n Q MR MI ML (pc + 1) lv (va :: va :: st)) : V X cs n Q MR MI ML pc lv (va :: st) := by
  obtain ⟨p, l, e, R, s, m, args, below, meth, c, nL2, D, Z, A, Qp⟩ := X
  obtain ⟨kx, kb, km, rfl, ko, kt, kK, kr, kl, kA, rfl⟩ := K
  intro H locs ls hl hP hD hS
  exact lv_dup kx kb hd hva (k H locs ls hl hP hD hS)
theorem v_pop (K : VK X cc own nL ret fr lo mc ms) {va : Value} (hd : decode cc pc = .ok (.pop, 1)) (hva : va.category = 1) (k : V X cs n Q MR MI ML (pc + 1) lv st) : V X cs n Q MR MI ML pc lv (va :: st) := by
  obtain ⟨p, l, e, R, s, m, args, below, meth, c, nL2, D, Z, A, Qp⟩ := X
  obtain ⟨kx, kb, km, rfl, ko, kt, kK, kr, kl, kA, rfl⟩ := K
  intro H locs ls hl hP hD hS
  exact lv_pop kx kb hd hva (k H locs ls hl hP hD hS)
theorem v_dup2_11 (K : VK X cc own nL ret fr lo mc ms) {va vb : Value} (hd : decode cc pc = .ok (.dup2, 1)) (hva : va.category = 1) (hvb : vb.category = 1) (k : V X cs n Q MR MI ML (pc + 1) lv (va :: vb :: va :: vb :: st)) : V X cs n Q MR MI ML pc lv (va :: vb :: st) := by
  obtain ⟨p, l, e, R, s, m, args, below, meth, c, nL2, D, Z, A, Qp⟩ := X
  obtain ⟨kx, kb, km, rfl, ko, kt, kK, kr, kl, kA, rfl⟩ := K
  intro H locs ls hl hP hD hS
  exact lv_dup2_11 kx kb hd hva hvb (k H locs ls hl hP hD hS)
theorem v_goto (K : VK X cc own nL ret fr lo mc ms) {off : Int} (tgt : Nat) (hd : decode cc pc = .ok (.goto off, 3)) (ht : (pc : Int) + off = (tgt : Int)) (k : V X cs n Q MR MI ML tgt lv st) : V X cs n Q MR MI ML pc lv st := by
  obtain ⟨p, l, e, R, s, m, args, below, meth, c, nL2, D, Z, A, Qp⟩ := X
  obtain ⟨kx, kb, km, rfl, ko, kt, kK, kr, kl, kA, rfl⟩ := K
  intro H locs ls hl hP hD hS
  exact lv_goto kx kb hd ht (k H locs ls hl hP hD hS)
theorem v_icmp_eq (K : VK X cc own nL ret fr lo mc ms) {a b off : Int} (tgt : Nat) (ha : rg a) (hb : rg b) (hd : decode cc pc = .ok (.if_icmp .eq off, 3)) (ht : (pc : Int) + off = (tgt : Int)) (kt : a = b → V X cs n Q MR MI ML tgt lv st) (kf : a ≠ b → V X cs n Q MR MI ML (pc + 3) lv st) : V X cs n Q MR MI ML pc lv (.int (iI b) :: .int (iI a) :: st) := by
  obtain ⟨p, l, e, R, s, m, args, below, meth, c, nL2, D, Z, A, Qp⟩ := X
  obtain ⟨kx, kb, km, rfl, ko, kt, kK, kr, kl, kA, rfl⟩ := K
  intro H locs ls hl hP hD hS
  refine lv_icmp_eq kx kb hd ht (fun q => kt ?_ H locs ls hl hP hD hS) (fun q => kf ?_ H locs ls hl hP hD hS)
  · simp only [ge_iff_le, gt_iff_lt, ne_eq, iI_lt ha hb, iI_lt hb ha, iI_le ha hb, iI_le hb ha, iI_eq ha hb, Decidable.not_not] at q
    omega
  · simp only [ge_iff_le, gt_iff_lt, ne_eq, iI_lt ha hb, iI_lt hb ha, iI_le ha hb, iI_le hb ha, iI_eq ha hb, Decidable.not_not] at q
    omega
theorem v_if_eq (K : VK X cc own nL ret fr lo mc ms) {a off : Int} (tgt : Nat) (ha : rg a) (hd : decode cc pc = .ok (.ifCond .eq off, 3)) (ht : (pc : Int) + off = (tgt : Int)) (kt : a = 0 → V X cs n Q MR MI ML tgt lv st) (kf : a ≠ 0 → V X cs n Q MR MI ML (pc + 3) lv st) : V X cs n Q MR MI ML pc lv (.int (iI a) :: st) := by
  obtain ⟨p, l, e, R, s, m, args, below, meth, c, nL2, D, Z, A, Qp⟩ := X
  obtain ⟨kx, kb, km, rfl, ko, kt, kK, kr, kl, kA, rfl⟩ := K
  intro H locs ls hl hP hD hS
  refine lv_if_eq kx kb hd ht (fun q => kt ?_ H locs ls hl hP hD hS) (fun q => kf ?_ H locs ls hl hP hD hS)
  · simp only [ge_iff_le, gt_iff_lt, ne_eq, iI_0, iI_lt ha rg_0, iI_lt rg_0 ha, iI_le ha rg_0, iI_le rg_0 ha, iI_eq ha rg_0, Decidable.not_not] at q
    omega
  · simp only [ge_iff_le, gt_iff_lt, ne_eq, iI_0, iI_lt ha rg_0, iI_lt rg_0 ha, iI_le ha rg_0, iI_le rg_0 ha, iI_eq ha rg_0, Decidable.not_not] at q
    omega
theorem v_lcmp_eq (K : VK X cc own nL ret fr lo mc ms) {a b off : Int} (tgt : Nat) (ha : rl a) (hb : rl b) (hd1 : decode cc pc = .ok (.lcmp, 1)) (hd : decode cc (pc + 1) = .ok (.ifCond .eq off, 3)) (ht : ((pc + 1 : Nat) : Int) + off = (tgt : Int)) (kt : a = b → V X cs n Q MR MI ML tgt lv st) (kf : a ≠ b → V X cs n Q MR MI ML (pc + 1 + 3) lv st) : V X cs n Q MR MI ML pc lv (.long (lJ b) :: .long (lJ a) :: st) := by
  obtain ⟨p, l, e, R, s, m, args, below, meth, c, nL2, D, Z, A, Qp⟩ := X
  obtain ⟨kx, kb, km, rfl, ko, kt, kK, kr, kl, kA, rfl⟩ := K
  intro H locs ls hl hP hD hS
  have h1 : lg_cmp (lJ a) (lJ b) = iI (if b < a then 1 else if a = b then 0 else -1) := by
    unfold lg_cmp
    simp only [gt_iff_lt, lJ_lt hb ha, lJ_eq ha hb]
    split
    · rfl
    · split <;> rfl
  refine W.lcmp kx kb hd1 ?_
  rw [h1]
  have hr : rg (if b < a then 1 else if a = b then 0 else -1) := by
    split
    · exact ⟨by decide, by decide⟩
    · split <;> exact ⟨by decide, by decide⟩
  refine lv_if_eq kx kb hd ht (fun q => kt ?_ H locs ls hl hP hD hS) (fun q => kf ?_ H locs ls hl hP hD hS)
  · simp only [ge_iff_le, gt_iff_lt, ne_eq, iI_0, iI_lt hr rg_0, iI_lt rg_0 hr, iI_le hr rg_0, iI_le rg_0 hr, iI_eq hr rg_0, Decidable.not_not] at q
    split at q
    · omega
    · split at q <;> omega
  · simp only [ge_iff_le, gt_iff_lt, ne_eq, iI_0, iI_lt hr rg_0, iI_lt rg_0 hr, iI_le hr rg_0, iI_le rg_0 hr, iI_eq hr rg_0, Decidable.not_not] at q
    split at q
    · omega
    · split at q <;> omega
theorem v_icmp_ne (K : VK X cc own nL ret fr lo mc ms) {a b off : Int} (tgt : Nat) (ha : rg a) (hb : rg b) (hd : decode cc pc = .ok (.if_icmp .ne off, 3)) (ht : (pc : Int) + off = (tgt : Int)) (kt : a ≠ b → V X cs n Q MR MI ML tgt lv st) (kf : a = b → V X cs n Q MR MI ML (pc + 3) lv st) : V X cs n Q MR MI ML pc lv (.int (iI b) :: .int (iI a) :: st) := by
  obtain ⟨p, l, e, R, s, m, args, below, meth, c, nL2, D, Z, A, Qp⟩ := X
  obtain ⟨kx, kb, km, rfl, ko, kt, kK, kr, kl, kA, rfl⟩ := K
  intro H locs ls hl hP hD hS
  refine lv_icmp_ne kx kb hd ht (fun q => kt ?_ H locs ls hl hP hD hS) (fun q => kf ?_ H locs ls hl hP hD hS)
  · simp only [ge_iff_le, gt_iff_lt, ne_eq, iI_lt ha hb, iI_lt hb ha, iI_le ha hb, iI_le hb ha, iI_eq ha hb, Decidable.not_not] at q
    omega
  · simp only [ge_iff_le, gt_iff_lt, ne_eq, iI_lt ha hb, iI_lt hb ha, iI_le ha hb, iI_le hb ha, iI_eq ha hb, Decidable.not_not] at q
    omega
theorem v_if_ne (K : VK X cc own nL ret fr lo mc ms) {a off : Int} (tgt : Nat) (ha : rg a) (hd : decode cc pc = .ok (.ifCond .ne off, 3)) (ht : (pc : Int) + off = (tgt : Int)) (kt : a ≠ 0 → V X cs n Q MR MI ML tgt lv st) (kf : a = 0 → V X cs n Q MR MI ML (pc + 3) lv st) : V X cs n Q MR MI ML pc lv (.int (iI a) :: st) := by
  obtain ⟨p, l, e, R, s, m, args, below, meth, c, nL2, D, Z, A, Qp⟩ := X
  obtain ⟨kx, kb, km, rfl, ko, kt, kK, kr, kl, kA, rfl⟩ := K
  intro H locs ls hl hP hD hS
  refine lv_if_ne kx kb hd ht (fun q => kt ?_ H locs ls hl hP hD hS) (fun q => kf ?_ H locs ls hl hP hD hS)
  · simp only [ge_iff_le, gt_iff_lt, ne_eq, iI_0, iI_lt ha rg_0, iI_lt rg_0 ha, iI_le ha rg_0, iI_le rg_0 ha, iI_eq ha rg_0, Decidable.not_not] at q
    omega
  · simp only [ge_iff_le, gt_iff_lt, ne_eq, iI_0, iI_lt ha rg_0, iI_lt rg_0 ha, iI_le ha rg_0, iI_le rg_0 ha, iI_eq ha rg_0, Decidable.not_not] at q
    omega
theorem v_lcmp_ne (K : VK X cc own nL ret fr lo mc ms) {a b off : Int} (tgt : Nat) (ha : rl a) (hb : rl b) (hd1 : decode cc pc = .ok (.lcmp, 1)) (hd : decode cc (pc + 1) = .ok (.ifCond .ne off, 3)) (ht : ((pc + 1 : Nat) : Int) + off = (tgt : Int)) (kt : a ≠ b → V X cs n Q MR MI ML tgt lv st) (kf : a = b → V X cs n Q MR MI ML (pc + 1 + 3) lv st) : V X cs n Q MR MI ML pc lv (.long (lJ b) :: .long (lJ a) :: st) := by
  obtain ⟨p, l, e, R, s, m, args, below, meth, c, nL2, D, Z, A, Qp⟩ := X
  obtain ⟨kx, kb, km, rfl, ko, kt, kK, kr, kl, kA, rfl⟩ := K
  intro H locs ls hl hP hD hS
  have h1 : lg_cmp (lJ a) (lJ b) = iI (if b < a then 1 else if a = b then 0 else -1) := by
    unfold lg_cmp
    simp only [gt_iff_lt, lJ_lt hb ha, lJ_eq ha hb]
    split
    · rfl
    · split <;> rfl
  refine W.lcmp kx kb hd1 ?_
  rw [h1]
  have hr : rg (if b < a then 1 else if a = b then 0 else -1) := by
    split
    · exact ⟨by decide, by decide⟩
    · split <;> exact ⟨by decide, by decide⟩
  refine lv_if_ne kx kb hd ht (fun q => kt ?_ H locs ls hl hP hD hS) (fun q => kf ?_ H locs ls hl hP hD hS)
  · simp only [ge_iff_le, gt_iff_lt, ne_eq, iI_0, iI_lt hr rg_0, iI_lt rg_0 hr, iI_le hr rg_0, iI_le rg_0 hr, iI_eq hr rg_0, Decidable.not_not] at q
    split at q
    · omega
    · split at q <;> omega
  · simp only [ge_iff_le, gt_iff_lt, ne_eq, iI_0, iI_lt hr rg_0, iI_lt rg_0 hr, iI_le hr rg_0, iI_le rg_0 hr, iI_eq hr rg_0, Decidable.not_not] at q
    split at q
    · omega
    · split at q <;> omega
theorem v_icmp_lt (K : VK X cc own nL ret fr lo mc ms) {a b off : Int} (tgt : Nat) (ha : rg a) (hb : rg b) (hd : decode cc pc = .ok (.if_icmp .lt off, 3)) (ht : (pc : Int) + off = (tgt : Int)) (kt : a < b → V X cs n Q MR MI ML tgt lv st) (kf : b ≤ a → V X cs n Q MR MI ML (pc + 3) lv st) : V X cs n Q MR MI ML pc lv (.int (iI b) :: .int (iI a) :: st) := by
  obtain ⟨p, l, e, R, s, m, args, below, meth, c, nL2, D, Z, A, Qp⟩ := X
  obtain ⟨kx, kb, km, rfl, ko, kt, kK, kr, kl, kA, rfl⟩ := K
  intro H locs ls hl hP hD hS
  refine lv_icmp_lt kx kb hd ht (fun q => kt ?_ H locs ls hl hP hD hS) (fun q => kf ?_ H locs ls hl hP hD hS)
  · simp only [ge_iff_le, gt_iff_lt, ne_eq, iI_lt ha hb, iI_lt hb ha, iI_le ha hb, iI_le hb ha, iI_eq ha hb, Decidable.not_not] at q
    omega
  · simp only [ge_iff_le, gt_iff_lt, ne_eq, iI_lt ha hb, iI_lt hb ha, iI_le ha hb, iI_le hb ha, iI_eq ha hb, Decidable.not_not] at q
    omega
theorem v_if_lt (K : VK X cc own nL ret fr lo mc ms) {a off : Int} (tgt : Nat) (ha : rg a) (hd : decode cc pc = .ok (.ifCond .lt off, 3)) (ht : (pc : Int) + off = (tgt : Int)) (kt : a < 0 → V X cs n Q MR MI ML tgt lv st) (kf : 0 ≤ a → V X cs n Q MR MI ML (pc + 3) lv st) : V X cs n Q MR MI ML pc lv (.int (iI a) :: st) := by
  obtain ⟨p, l, e, R, s, m, args, below, meth, c, nL2, D, Z, A, Qp⟩ := X
  obtain ⟨kx, kb, km, rfl, ko, kt, kK, kr, kl, kA, rfl⟩ := K
  intro H locs ls hl hP hD hS
  refine lv_if_lt kx kb hd ht (fun q => kt ?_ H locs ls hl hP hD hS) (fun q => kf ?_ H locs ls hl hP hD hS)
  · simp only [ge_iff_le, gt_iff_lt, ne_eq, iI_0, iI_lt ha rg_0, iI_lt rg_0 ha, iI_le ha rg_0, iI_le rg_0 ha, iI_eq ha rg_0, Decidable.not_not] at q
    omega
  · simp only [ge_iff_le, gt_iff_lt, ne_eq, iI_0, iI_lt ha rg_0, iI_lt rg_0 ha, iI_le ha rg_0, iI_le rg_0 ha, iI_eq ha rg_0, Decidable.not_not] at q
    omega
theorem v_lcmp_lt (K : VK X cc own nL ret fr lo mc ms) {a b off : Int} (tgt : Nat) (ha : rl a) (hb : rl b) (hd1 : decode cc pc = .ok (.lcmp, 1)) (hd : decode cc (pc + 1) = .ok (.ifCond .lt off, 3)) (ht : ((pc + 1 : Nat) : Int) + off = (tgt : Int)) (kt : a < b → V X cs n Q MR MI ML tgt lv st) (kf : b ≤ a → V X cs n Q MR MI ML (pc + 1 + 3) lv st) : V X cs n Q MR MI ML pc lv (.long (lJ b) :: .long (lJ a) :: st) := by
  obtain ⟨p, l, e, R, s, m, args, below, meth, c, nL2, D, Z, A, Qp⟩ := X
  obtain ⟨kx, kb, km, rfl, ko, kt, kK, kr, kl, kA, rfl⟩ := K
  intro H locs ls hl hP hD hS
  have h1 : lg_cmp (lJ a) (lJ b) = iI (if b < a then 1 else if a = b then 0 else -1) := by
    unfold lg_cmp
    simp only [gt_iff_lt, lJ_lt hb ha, lJ_eq ha hb]
    split
    · rfl
    · split <;> rfl
  refine W.lcmp kx kb hd1 ?_
  rw [h1]
  have hr : rg (if b < a then 1 else if a = b then 0 else -1) := by
    split
    · exact ⟨by decide, by decide⟩
    · split <;> exact ⟨by decide, by decide⟩
  refine lv_if_lt kx kb hd ht (fun q => kt ?_ H locs ls hl hP hD hS) (fun q => kf ?_ H locs ls hl hP hD hS)
  · simp only [ge_iff_le, gt_iff_lt, ne_eq, iI_0, iI_lt hr rg_0, iI_lt rg_0 hr, iI_le hr rg_0, iI_le rg_0 hr, iI_eq hr rg_0, Decidable.not_not] at q
    split at q
    · omega
    · split at q <;> omega
  · simp only [ge_iff_le, gt_iff_lt, ne_eq, iI_0, iI_lt hr rg_0, iI_lt rg_0 hr, iI_le hr rg_0, iI_le rg_0 hr, iI_eq hr rg_0, Decidable.not_not] at q
    split at q
    · omega
    · split at q <;> omega
theorem v_icmp_ge (K : VK X cc own nL ret fr lo mc ms) {a b off : Int} (tgt : Nat) (ha : rg a) (hb : rg b) (hd : decode cc pc = .ok (.if_icmp .ge off, 3)) (ht : (pc : Int) + off = (tgt : Int)) (kt : b ≤ a → V X cs n Q MR MI ML tgt lv st) (kf : a < b → V X cs n Q MR MI ML (pc + 3) lv st) : V X cs n Q MR MI ML pc lv (.int (iI b) :: .int (iI a) :: st) := by
  obtain ⟨p, l, e, R, s, m, args, below, meth, c, nL2, D, Z, A, Qp⟩ := X
  obtain ⟨kx, kb, km, rfl, ko, kt, kK, kr, kl, kA, rfl⟩ := K
  intro H locs ls hl hP hD hS
  refine lv_icmp_ge kx kb hd ht (fun q => kt ?_ H locs ls hl hP hD hS) (fun q => kf ?_ H locs ls hl hP hD hS)
  · simp only [ge_iff_le, gt_iff_lt, ne_eq, iI_lt ha hb, iI_lt hb ha, iI_le ha hb, iI_le hb ha, iI_eq ha hb, Decidable.not_not] at q
    omega
  · simp only [ge_iff_le, gt_iff_lt, ne_eq, iI_lt ha hb, iI_lt hb ha, iI_le ha hb, iI_le hb ha, iI_eq ha hb, Decidable.not_not] at q
    omega
theorem v_if_ge (K : VK X cc own nL ret fr lo mc ms) {a off : Int} (tgt : Nat) (ha : rg a) (hd : decode cc pc = .ok (.ifCond .ge off, 3)) (ht : (pc : Int) + off = (tgt : Int)) (kt : 0 ≤ a → V X cs n Q MR MI ML tgt lv st) (kf : a < 0 → V X cs n Q MR MI ML (pc + 3) lv st) : V X cs n Q MR MI ML pc lv (.int (iI a) :: st) := by
  obtain ⟨p, l, e, R, s, m, args, below, meth, c, nL2, D, Z, A, Qp⟩ := X
  obtain ⟨kx, kb, km, rfl, ko, kt, kK, kr, kl, kA, rfl⟩ := K
  intro H locs ls hl hP hD hS
  refine lv_if_ge kx kb hd ht (fun q => kt ?_ H locs ls hl hP hD hS) (fun q => kf ?_ H locs ls hl hP hD hS)
  · simp only [ge_iff_le, gt_iff_lt, ne_eq, iI_0, iI_lt ha rg_0, iI_lt rg_0 ha, iI_le ha rg_0, iI_le rg_0 ha, iI_eq ha rg_0, Decidable.not_not] at q
    omega
  · simp only [ge_iff_le, gt_iff_lt, ne_eq, iI_0, iI_lt ha rg_0, iI_lt rg_0 ha, iI_le ha rg_0, iI_le rg_0 ha, iI_eq ha rg_0, Decidable.not_not] at q
    omega
theorem v_lcmp_ge (K : VK X cc own nL ret fr lo mc ms) {a b off : Int} (tgt : Nat) (ha : rl a) (hb : rl b) (hd1 : decode cc pc = .ok (.lcmp, 1)) (hd : decode cc (pc + 1) = .ok (.ifCond .ge off, 3)) (ht : ((pc + 1 : Nat) : Int) + off = (tgt : Int)) (kt : b ≤ a → V X cs n Q MR MI ML tgt lv st) (kf : a < b → V X cs n Q MR MI ML (pc + 1 + 3) lv st) : V X cs n Q MR MI ML pc lv (.long (lJ b) :: .long (lJ a) :: st) := by
  obtain ⟨p, l, e, R, s, m, args, below, meth, c, nL2, D, Z, A, Qp⟩ := X
  obtain ⟨kx, kb, km, rfl, ko, kt, kK, kr, kl, kA, rfl⟩ := K
  intro H locs ls hl hP hD hS
  have h1 : lg_cmp (lJ a) (lJ b) = iI (if b < a then 1 else if a = b then 0 else -1) := by
    unfold lg_cmp
    simp only [gt_iff_lt, lJ_lt hb ha, lJ_eq ha hb]
    split
    · rfl
    · split <;> rfl
  refine W.lcmp kx kb hd1 ?_
  rw [h1]
  have hr : rg (if b < a then 1 else if a = b then 0 else -1) := by
    split
    · exact ⟨by decide, by decide⟩
    · split <;> exact ⟨by decide, by decide⟩
  refine lv_if_ge kx kb hd ht (fun q => kt ?_ H locs ls hl hP hD hS) (fun q => kf ?_ H locs ls hl hP hD hS)
  · simp only [ge_iff_le, gt_iff_lt, ne_eq, iI_0, iI_lt hr rg_0, iI_lt rg_0 hr, iI_le hr rg_0, iI_le rg_0 hr, iI_eq hr rg_0, Decidable.not_not] at q
    split at q
    · omega
    · split at q <;> omega
  · simp only [ge_iff_le, gt_iff_lt, ne_eq, iI_0, iI_lt hr rg_0, iI_lt rg_0 hr, iI_le hr rg_0, iI_le rg_0 hr, iI_eq hr rg_0, Decidable.not_not] at q
    split at q
    · omega
    · split at q <;> omega
theorem v_icmp_gt (K : VK X cc own nL ret fr lo mc ms) {a b off : Int} (tgt : Nat) (ha : rg a) (hb : rg b) (hd : decode cc pc = .ok (.if_icmp .gt off, 3)) (ht : (pc : Int) + off = (tgt : Int)) (kt : b < a → V X cs n Q MR MI ML tgt lv st) (kf : a ≤ b → V X cs n Q MR MI ML (pc + 3) lv st) : V X cs n Q MR MI ML pc lv (.int (iI b) :: .int (iI a) :: st) := by
  obtain ⟨p, l, e, R, s, m, args, below, meth, c, nL2, D, Z, A, Qp⟩ := X
  obtain ⟨kx, kb, km, rfl, ko, kt, kK, kr, kl, kA, rfl⟩ := K
  intro H locs ls hl hP hD hS
  refine lv_icmp_gt kx kb hd ht (fun q => kt ?_ H locs ls hl hP hD hS) (fun q => kf ?_ H locs ls hl hP hD hS)
  · simp only [ge_iff_le, gt_iff_lt, ne_eq, iI_lt ha hb, iI_lt hb ha, iI_le ha hb, iI_le hb ha, iI_eq ha hb, Decidable.not_not] at q
    omega
  · simp only [ge_iff_le, gt_iff_lt, ne_eq, iI_lt ha hb, iI_lt hb ha, iI_le ha hb, iI_le hb ha, iI_eq ha hb, Decidable.not_not] at q
    omega
theorem v_if_gt (K : VK X cc own nL ret fr lo mc ms) {a off : Int} (tgt : Nat) (ha : rg a) (hd : decode cc pc = .ok (.ifCond .gt off, 3)) (ht : (pc : Int) + off = (tgt : Int)) (kt : 0 < a → V X cs n Q MR MI ML tgt lv st) (kf : a ≤ 0 → V X cs n Q MR MI ML (pc + 3) lv st) : V X cs n Q MR MI ML pc lv (.int (iI a) :: st) := by
  obtain ⟨p, l, e, R, s, m, args, below, meth, c, nL2, D, Z, A, Qp⟩ := X
  obtain ⟨kx, kb, km, rfl, ko, kt, kK, kr, kl, kA, rfl⟩ := K
  intro H locs ls hl hP hD hS
  refine lv_if_gt kx kb hd ht (fun q => kt ?_ H locs ls hl hP hD hS) (fun q => kf ?_ H locs ls hl hP hD hS)
  · simp only [ge_iff_le, gt_iff_lt, ne_eq, iI_0, iI_lt ha rg_0, iI_lt rg_0 ha, iI_le ha rg_0, iI_le rg_0 ha, iI_eq ha rg_0, Decidable.not_not] at q
    omega
  · simp only [ge_iff_le, gt_iff_lt, ne_eq, iI_0, iI_lt ha rg_0, iI_lt rg_0 ha, iI_le ha rg_0, iI_le rg_0 ha, iI_eq ha rg_0, Decidable.not_not] at q
    omega
theorem v_lcmp_gt (K : VK X cc own nL ret fr lo mc ms) {a b off : Int} (tgt : Nat) (ha : rl a) (hb : rl b) (hd1 : decode cc pc = .ok (.lcmp, 1)) (hd : decode cc (pc + 1) = .ok (.ifCond .gt off, 3)) (ht : ((pc + 1 : Nat) : Int) + off = (tgt : Int)) (kt : b < a → V X cs n Q MR MI ML tgt lv st) (kf : a ≤ b → V X cs n Q MR MI ML (pc + 1 + 3) lv st) : V X cs n Q MR MI ML pc lv (.long (lJ b) :: .long (lJ a) :: st) := by
  obtain ⟨p, l, e, R, s, m, args, below, meth, c, nL2, D, Z, A, Qp⟩ := X
  obtain ⟨kx, kb, km, rfl, ko, kt, kK, kr, kl, kA, rfl⟩ := K
  intro H locs ls hl hP hD hS
  have h1 : lg_cmp (lJ a) (lJ b) = iI (if b < a then 1 else if a = b then 0 else -1) := by
    unfold lg_cmp
    simp only [gt_iff_lt, lJ_lt hb ha, lJ_eq ha hb]
    split
    · rfl
    · split <;> rfl
  refine W.lcmp kx kb hd1 ?_
  rw [h1]
  have hr : rg (if b < a then 1 else if a = b then 0 else -1) := by
    split
    · exact ⟨by decide, by decide⟩
    · split <;> exact ⟨by decide, by decide⟩
  refine lv_if_gt kx kb hd ht (fun q => kt ?_ H locs ls hl hP hD hS) (fun q => kf ?_ H locs ls hl hP hD hS)
  · simp only [ge_iff_le, gt_iff_lt, ne_eq, iI_0, iI_lt hr rg_0, iI_lt rg_0 hr, iI_le hr rg_0, iI_le rg_0 hr, iI_eq hr rg_0, Decidable.not_not] at q
    split at q
    · omega
    · split at q <;> omega
  · simp only [ge_iff_le, gt_iff_lt, ne_eq, iI_0, iI_lt hr rg_0, iI_lt rg_0 hr, iI_le hr rg_0, iI_le rg_0 hr, iI_eq hr rg_0, Decidable.not_not] at q
    split at q
    · omega
    · split at q <;> omega
theorem v_icmp_le (K : VK X cc own nL ret fr lo mc ms) {a b off : Int} (tgt : Nat) (ha : rg a) (hb : rg b) (hd : decode cc pc = .ok (.if_icmp .le off, 3)) (ht : (pc : Int) + off = (tgt : Int)) (kt : a ≤ b → V X cs n Q MR MI ML tgt lv st) (kf : b < a → V X cs n Q MR MI ML (pc + 3) lv st) : V X cs n Q MR MI ML pc lv (.int (iI b) :: .int (iI a) :: st) := by
  obtain ⟨p, l, e, R, s, m, args, below, meth, c, nL2, D, Z, A, Qp⟩ := X
  obtain ⟨kx, kb, km, rfl, ko, kt, kK, kr, kl, kA, rfl⟩ := K
  intro H locs ls hl hP hD hS
  refine lv_icmp_le kx kb hd ht (fun q => kt ?_ H locs ls hl hP hD hS) (fun q => kf ?_ H locs ls hl hP hD hS)
  · simp only [ge_iff_le, gt_iff_lt, ne_eq, iI_lt ha hb, iI_lt hb ha, iI_le ha hb, iI_le hb ha, iI_eq ha hb, Decidable.not_not] at q
    omega
  · simp only [ge_iff_le, gt_iff_lt, ne_eq, iI_lt ha hb, iI_lt hb ha, iI_le ha hb, iI_le hb ha, iI_eq ha hb, Decidable.not_not] at q
    omega
theorem v_if_le (K : VK X cc own nL ret fr lo mc ms) {a off : Int} (tgt : Nat) (ha : rg a) (hd : decode cc pc = .ok (.ifCond .le off, 3)) (ht : (pc : Int) + off = (tgt : Int)) (kt : a ≤ 0 → V X cs n Q MR MI ML tgt lv st) (kf : 0 < a → V X cs n Q MR MI ML (pc + 3) lv st) : V X cs n Q MR MI ML pc lv (.int (iI a) :: st) := by
  obtain ⟨p, l, e, R, s, m, args, below, meth, c, nL2, D, Z, A, Qp⟩ := X
  obtain ⟨kx, kb, km, rfl, ko, kt, kK, kr, kl, kA, rfl⟩ := K
  intro H locs ls hl hP hD hS
  refine lv_if_le kx kb hd ht (fun q => kt ?_ H locs ls hl hP hD hS) (fun q => kf ?_ H locs ls hl hP hD hS)
  · simp only [ge_iff_le, gt_iff_lt, ne_eq, iI_0, iI_lt ha rg_0, iI_lt rg_0 ha, iI_le ha rg_0, iI_le rg_0 ha, iI_eq ha rg_0, Decidable.not_not] at q
    omega
  · simp only [ge_iff_le, gt_iff_lt, ne_eq, iI_0, iI_lt ha rg_0, iI_lt rg_0 ha, iI_le ha rg_0, iI_le rg_0 ha, iI_eq ha rg_0, Decidable.not_not] at q
    omega
theorem v_lcmp_le (K : VK X cc own nL ret fr lo mc ms) {a b off : Int} (tgt : Nat) (ha : rl a) (hb : rl b) (hd1 : decode cc pc = .ok (.lcmp, 1)) (hd : decode cc (pc + 1) = .ok (.ifCond .le off, 3)) (ht : ((pc + 1 : Nat) : Int) + off = (tgt : Int)) (kt : a ≤ b → V X cs n Q MR MI ML tgt lv st) (kf : b < a → V X cs n Q MR MI ML (pc + 1 + 3) lv st) : V X cs n Q MR MI ML pc lv (.long (lJ b) :: .long (lJ a) :: st) := by
  obtain ⟨p, l, e, R, s, m, args, below, meth, c, nL2, D, Z, A, Qp⟩ := X
  obtain ⟨kx, kb, km, rfl, ko, kt, kK, kr, kl, kA, rfl⟩ := K
  intro H locs ls hl hP hD hS
  have h1 : lg_cmp (lJ a) (lJ b) = iI (if b < a then 1 else if a = b then 0 else -1) := by
    unfold lg_cmp
    simp only [gt_iff_lt, lJ_lt hb ha, lJ_eq ha hb]
    split
    · rfl
    · split <;> rfl
  refine W.lcmp kx kb hd1 ?_
  rw [h1]
  have hr : rg (if b < a then 1 else if a = b then 0 else -1) := by
    split
    · exact ⟨by decide, by decide⟩
    · split <;> exact ⟨by decide, by decide⟩
  refine lv_if_le kx kb hd ht (fun q => kt ?_ H locs ls hl hP hD hS) (fun q => kf ?_ H locs ls hl hP hD hS)
  · simp only [ge_iff_le, gt_iff_lt, ne_eq, iI_0, iI_lt hr rg_0, iI_lt rg_0 hr, iI_le hr rg_0, iI_le rg_0 hr, iI_eq hr rg_0, Decidable.not_not] at q
    split at q
    · omega
    · split at q <;> omega
  · simp only [ge_iff_le, gt_iff_lt, ne_eq, iI_0, iI_lt hr rg_0, iI_lt rg_0 hr, iI_le hr rg_0, iI_le rg_0 hr, iI_eq hr rg_0, Decidable.not_not] at q
    split at q
    · omega
    · split at q <;> omega
theorem v_tableOut (K : VK X cc own nL ret fr lo mc ms) {a dflt l1 h1 : Int} {offs : Array Int} {len : Nat} (tgt : Nat) (ha : rg a) (hd : decode cc pc = .ok (.tableswitch dflt l1 h1 offs, len)) (h : a < l1 ∨ h1 < a) (ht : (pc : Int) + dflt = (tgt : Int)) (k : V X cs n Q MR MI ML tgt lv st) : V X cs n Q MR MI ML pc lv (.int (iI a) :: st) := by
  obtain ⟨p, l, e, R, s, m, args, below, meth, c, nL2, D, Z, A, Qp⟩ := X
  obtain ⟨kx, kb, km, rfl, ko, kt, kK, kr, kl, kA, rfl⟩ := K
  intro H locs ls hl hP hD hS
  exact lv_tableOut kx kb hd (by rw [iI_T ha]; exact h) ht (k H locs ls hl hP hD hS)
theorem v_tableIn (K : VK X cc own nL ret fr lo mc ms) {a dflt l1 h1 off : Int} {offs : Array Int} {len : Nat} (tgt : Nat) (ha : rg a) (hd : decode cc pc = .ok (.tableswitch dflt l1 h1 offs, len)) (h : l1 ≤ a ∧ a ≤ h1) (ho : offs[(a - l1).toNat]? = some off) (ht : (pc : Int) + off = (tgt : Int)) (k : V X cs n Q MR MI ML tgt lv st) : V X cs n Q MR MI ML pc lv (.int (iI a) :: st) := by
  obtain ⟨p, l, e, R, s, m, args, below, meth, c, nL2, D, Z, A, Qp⟩ := X
  obtain ⟨kx, kb, km, rfl, ko, kt, kK, kr, kl, kA, rfl⟩ := K
  intro H locs ls hl hP hD hS
  exact lv_tableIn kx kb hd (by rw [iI_T ha]; omega) (by rw [iI_T ha]; omega) (by rw [iI_T ha]; exact ho) ht (k H locs ls hl hP hD hS)
theorem v_lookup (K : VK X cc own nL ret fr lo mc ms) {a dflt off : Int} {ps : Array (Int × Int)} {len : Nat} (tgt : Nat) (ha : rg a) (hd : decode cc pc = .ok (.lookupswitch dflt ps, len)) (hp : (ps.toList.zip (ps.toList.drop 1)).all (fun (a, next) => a.1 < next.1) = true) (ho : Op.lookupswitch.offset ps.toList dflt a = off) (ht : (pc : Int) + off = (tgt : Int)) (k : V X cs n Q MR MI ML tgt lv st) : V X cs n Q MR MI ML pc lv (.int (iI a) :: st) := by
  obtain ⟨p, l, e, R, s, m, args, below, meth, c, nL2, D, Z, A, Qp⟩ := X
  obtain ⟨kx, kb, km, rfl, ko, kt, kK, kr, kl, kA, rfl⟩ := K
  intro H locs ls hl hP hD hS
  exact lv_lookup kx kb hd hp (by rw [iI_T ha]; exact ho) ht (k H locs ls hl hP hD hS)
theorem v_iald (K : VK X cc own nL ret fr lo mc ms) {k : Nat} {z : Int} (j : Nat) (hk : k < n) (hkd : z_kd k = 10) (hz : z = (j : Int)) (hj : j < z_ln k) (hd : decode cc pc = .ok (.iaload, 1)) (kk : V X cs n Q MR MI ML (pc + 1) lv (.int (iI (MI k j)) :: st)) : V X cs n Q MR MI ML pc lv (.int (iI z) :: .ref (Q k) :: st) := by
  obtain ⟨p, l, e, R, s, m, args, below, meth, c, nL2, D, Z, A, Qp⟩ := X
  obtain ⟨kx, kb, km, rfl, ko, kt, kK, kr, kl, kA, rfl⟩ := K
  intro H locs ls hl hP hD hS
  subst hz
  refine va_iald (f := fun j => iI (MI k j)) kx kb kK.1 hP k 0 (by rw [z_W_at hk, z_E_i hkd]) rfl (iI_in hj (z_ln_lt k)) hd ?_
  rw [iI_cl hj (z_ln_lt k)]
  exact kk H locs ls hl hP hD hS
theorem v_lald (K : VK X cc own nL ret fr lo mc ms) {k : Nat} {z : Int} (j : Nat) (hk : k < n) (hkd : z_kd k = 11) (hz : z = (j : Int)) (hj : j < z_ln k) (hd : decode cc pc = .ok (.laload, 1)) (kk : V X cs n Q MR MI ML (pc + 1) lv (.long (lJ (ML k j)) :: st)) : V X cs n Q MR MI ML pc lv (.int (iI z) :: .ref (Q k) :: st) := by
  obtain ⟨p, l, e, R, s, m, args, below, meth, c, nL2, D, Z, A, Qp⟩ := X
  obtain ⟨kx, kb, km, rfl, ko, kt, kK, kr, kl, kA, rfl⟩ := K
  intro H locs ls hl hP hD hS
  subst hz
  refine va_lald (f := fun j => lJ (ML k j)) kx kb kK.1 hP k 1 (by rw [z_W_at hk, z_E_l hkd]) rfl (iI_in hj (z_ln_lt k)) hd ?_
  rw [iI_cl hj (z_ln_lt k)]
  exact kk H locs ls hl hP hD hS
theorem v_iast (K : VK X cc own nL ret fr lo mc ms) {k : Nat} {z v : Int} (j : Nat) (hk : k < n) (hkd : z_kd k = 10) (hz : z = (j : Int)) (hj : j < z_ln k) (hd : decode cc pc = .ok (.iastore, 1)) (kk : V X cs n Q MR (z_up MI k j v) ML (pc + 1) lv st) : V X cs n Q MR MI ML pc lv (.int (iI v) :: .int (iI z) :: .ref (Q k) :: st) := by
  obtain ⟨p, l, e, R, s, m, args, below, meth, c, nL2, D, Z, A, Qp⟩ := X
  obtain ⟨kx, kb, km, rfl, ko, kt, kK, kr, kl, kA, rfl⟩ := K
  intro H locs ls hl hP hD hS
  subst hz
  refine va_iast (f := fun j => iI (MI k j)) kx kb kK.1 hP hD hS k 0 (by rw [z_W_at hk, z_E_i hkd]) rfl (iI_in hj (z_ln_lt k)) hd (fun H locs hP hD hS => ?_)
  rw [iI_cl hj (z_ln_lt k)] at hP hD
  have e1 := z_W_set (Z := Z) (Q := Q) (MR := MR) (MR' := MR) (MI := MI) (ML := ML) (MI' := z_up MI k j v) (ML' := ML) (x := (Q k, .inl (Z.1, z_ln k, .inl (upd (fun j => iI (MI k j)) j (iI v))))) hk (by
    rw [z_E_i hkd]
    congr 5
    funext b
    by_cases hb : b = j
    · subst hb; rw [z_up_s]; simp [upd]
    · rw [z_up_j hb]; simp [upd, hb]) (fun a ha => z_E_up ha)
  rw [e1] at hP hD
  exact kk H locs ls hl hP hD hS
theorem v_last (K : VK X cc own nL ret fr lo mc ms) {k : Nat} {z v : Int} (j : Nat) (hk : k < n) (hkd : z_kd k = 11) (hz : z = (j : Int)) (hj : j < z_ln k) (hd : decode cc pc = .ok (.lastore, 1)) (kk : V X cs n Q MR MI (z_up ML k j v) (pc + 1) lv st) : V X cs n Q MR MI ML pc lv (.long (lJ v) :: .int (iI z) :: .ref (Q k) :: st) := by
  obtain ⟨p, l, e, R, s, m, args, below, meth, c, nL2, D, Z, A, Qp⟩ := X
  obtain ⟨kx, kb, km, rfl, ko, kt, kK, kr, kl, kA, rfl⟩ := K
  intro H locs ls hl hP hD hS
  subst hz
  refine va_last (f := fun j => lJ (ML k j)) kx kb kK.1 hP hD hS k 1 (by rw [z_W_at hk, z_E_l hkd]) rfl (iI_in hj (z_ln_lt k)) hd (fun H locs hP hD hS => ?_)
  rw [iI_cl hj (z_ln_lt k)] at hP hD
  have e1 := z_W_set (Z := Z) (Q := Q) (MR := MR) (MR' := MR) (MI := MI) (ML := ML) (MI' := MI) (ML' := z_up ML k j v) (x := (Q k, .inl (Z.2.1, z_ln k, .inr (.inl (vp_updL (fun j => lJ (ML k j)) j (lJ v)))))) hk (by
    rw [z_E_l hkd]
    congr 6
    funext b
    by_cases hb : b = j
    · subst hb; rw [z_up_s]; simp [vp_updL]
    · rw [z_up_j hb]; simp [vp_updL, hb]) (fun a ha => z_E_upL ha)
  rw [e1] at hP hD
  exact kk H locs ls hl hP hD hS
theorem v_aaldD (K : VK X cc own nL ret fr lo mc ms) {k r : Nat} {z : Int} (j : Nat) (hk : k < n) (hkd : z_kd k = 12) (hz : z = (j : Int)) (hj : j < z_ln k) (hr : MR k j = some r) (hd : decode cc pc = .ok (.aaload, 1)) (kk : V X cs n Q MR MI ML (pc + 1) lv (.ref (Q r) :: st)) : V X cs n Q MR MI ML pc lv (.int (iI z) :: .ref (Q k) :: st) := by
  obtain ⟨p, l, e, R, s, m, args, below, meth, c, nL2, D, Z, A, Qp⟩ := X
  obtain ⟨kx, kb, km, rfl, ko, kt, kK, kr, kl, kA, rfl⟩ := K
  intro H locs ls hl hP hD hS
  subst hz
  have ha := hP k _ (z_W_at hk)
  rw [z_E_D hkd] at ha
  exact W.aald (v := .ref (Q r)) (ty := .object "DeckBalance$Deck") kx kb ha ((kK.1.2 2 _ rfl).1 (z_ln k) (fun j => va_rf ((MR k j).map Q))) rfl (fun q => by cases q) (by show ¬ (_ ∨ (arrV _ _ _).slots.size ≤ _); rw [arrV_size]; exact iI_in hj (z_ln_lt k)) (by show (arrV _ _ _).slots[_]? = _; rw [iI_cl hj (z_ln_lt k), arrV_read _ _ hj]; show some (va_rf (Option.map Q (MR k j))) = _; rw [hr]; rfl) rfl rfl hd (kk H locs ls hl hP hD hS)
theorem v_aaldP (K : VK X cc own nL ret fr lo mc ms) {k r : Nat} {z : Int} (j : Nat) (hk : k < n) (hkd : z_kd k = 13) (hz : z = (j : Int)) (hj : j < z_ln k) (hr : MR k j = some r) (hd : decode cc pc = .ok (.aaload, 1)) (kk : V X cs n Q MR MI ML (pc + 1) lv (.ref (Q r) :: st)) : V X cs n Q MR MI ML pc lv (.int (iI z) :: .ref (Q k) :: st) := by
  obtain ⟨p, l, e, R, s, m, args, below, meth, c, nL2, D, Z, A, Qp⟩ := X
  obtain ⟨kx, kb, km, rfl, ko, kt, kK, kr, kl, kA, rfl⟩ := K
  intro H locs ls hl hP hD hS
  subst hz
  have ha := hP k _ (z_W_at hk)
  rw [z_E_P hkd] at ha
  exact W.aald (v := .ref (Q r)) (ty := .object "DeckBalance$Plan") kx kb ha ((kK.1.2 3 _ rfl).1 (z_ln k) (fun j => va_rf ((MR k j).map Q))) rfl (fun q => by cases q) (by show ¬ (_ ∨ (arrV _ _ _).slots.size ≤ _); rw [arrV_size]; exact iI_in hj (z_ln_lt k)) (by show (arrV _ _ _).slots[_]? = _; rw [iI_cl hj (z_ln_lt k), arrV_read _ _ hj]; show some (va_rf (Option.map Q (MR k j))) = _; rw [hr]; rfl) rfl rfl hd (kk H locs ls hl hP hD hS)
theorem v_aaldT (K : VK X cc own nL ret fr lo mc ms) {k r : Nat} {z : Int} (j : Nat) (hk : k < n) (hkd : z_kd k = 14) (hz : z = (j : Int)) (hj : j < z_ln k) (hr : MR k j = some r) (hd : decode cc pc = .ok (.aaload, 1)) (kk : V X cs n Q MR MI ML (pc + 1) lv (.ref (Q r) :: st)) : V X cs n Q MR MI ML pc lv (.int (iI z) :: .ref (Q k) :: st) := by
  obtain ⟨p, l, e, R, s, m, args, below, meth, c, nL2, D, Z, A, Qp⟩ := X
  obtain ⟨kx, kb, km, rfl, ko, kt, kK, kr, kl, kA, rfl⟩ := K
  intro H locs ls hl hP hD hS
  subst hz
  have ha := hP k _ (z_W_at hk)
  rw [z_E_T hkd] at ha
  exact W.aald (v := .ref (Q r)) (ty := .array .int) kx kb ha ((kK.1.2 4 _ rfl).1 (z_ln k) (fun j => va_rf ((MR k j).map Q))) rfl (fun q => by cases q) (by show ¬ (_ ∨ (arrV _ _ _).slots.size ≤ _); rw [arrV_size]; exact iI_in hj (z_ln_lt k)) (by show (arrV _ _ _).slots[_]? = _; rw [iI_cl hj (z_ln_lt k), arrV_read _ _ hj]; show some (va_rf (Option.map Q (MR k j))) = _; rw [hr]; rfl) rfl rfl hd (kk H locs ls hl hP hD hS)
end VROWS
end
section
/-! fields, calls, answers, the entry -/
/-- the tables' words of a field: class ci, slot j, named by entry idx of own -/
def FF (own : String) (idx ci j : Nat) : Prop := ∃ (C : String) (T : u_T) (N : Nat), vwCl[ci]? = some (C, T, N) ∧ j < N ∧ ci < 10 ∧ (∀ k, z_kd k = ci → z_ln k = N) ∧ (∀ w ∈ u_ws C T N, w ∈ wsL) ∧ Cond.fieldLink own idx (T j).1 (T j).2.1 (T j).2.2.1 ∈ wsL
/-- the same, to write: not final, of a type -/
def FP (own : String) (idx ci j : Nat) (fin : Bool) (ty : FieldType) : Prop := ∃ (C : String) (T : u_T) (N : Nat) (ty0 : Nat → FieldType), vwCl[ci]? = some (C, T, N) ∧ j < N ∧ ci < 10 ∧ (∀ k, z_kd k = ci → z_ln k = N) ∧ (∀ w ∈ u_ws C T N, w ∈ wsL) ∧ Cond.fieldLink own idx (T j).1 (T j).2.1 (T j).2.2.1 ∈ wsL ∧ (∀ k, k < N → parseFieldDescriptor (T k).2.2.1 = some (ty0 k)) ∧ (∀ a, a < N → ∀ b, b < N → a ≠ b → (T a).2.1 ≠ (T b).2.1) ∧ (T j).2.2.2 = fin ∧ (fin = true → (T j).1 = own) ∧ parseFieldDescriptor (T j).2.2.1 = some ty
theorem z_fs_at {N j : Nat} {f : Nat → Value} (h : j < N) : ((List.range N).map f)[j]? = some (f j) := by
  rw [List.getElem?_map, List.getElem?_range h]; rfl
theorem z_fs_set {N j : Nat} {f g : Nat → Value} {v : Value} (hv : g j = v) (ho : ∀ a, a ≠ j → g a = f a) (h : j < N) : ((List.range N).map f).set j v = (List.range N).map g := by
  apply List.ext_getElem?
  intro i
  by_cases hi : i = j
  · subst hi
    rw [List.getElem?_set_self (by simp; exact h), z_fs_at h, hv]
  · rw [List.getElem?_set_ne (Ne.symm hi)]
    by_cases hn : i < N
    · rw [z_fs_at hn, z_fs_at hn, ho i hi]
    · rw [List.getElem?_eq_none (by simp; omega), List.getElem?_eq_none (by simp; omega)]
section VFIELDS
variable {X : VX} {cs : Nat × Nat} {n : Nat} {Q : Nat → Nat} {MR : ZR} {MI ML : ZM} {pc : Nat} {lv : List (Nat × Value)} {st : List Value} {cc : ByteArray} {own : String} {nL : Nat} {ret : Option FieldType} {fr lo mc ms : Nat}
theorem v_geti (K : VK X cc own nL ret fr lo mc ms) {idx ci j k : Nat} (f : FF own idx ci j) (hk : k < n) (hkd : z_kd k = ci) (hfi : z_fi ci j = true) (hd : decode cc pc = .ok (.getfield idx, 3)) (kk : V X cs n Q MR MI ML (pc + 3) lv (.int (iI (MI k j)) :: st)) : V X cs n Q MR MI ML pc lv (.ref (Q k) :: st) := by
  obtain ⟨p, l, e, R, s, m, args, below, meth, c, nL2, D, Z, A, Qp⟩ := X
  obtain ⟨kx, kb, km, rfl, ko, kt, kK, kr, kl, kA, rfl⟩ := K
  intro H locs ls hl hP hD hS
  obtain ⟨C, T, N, f1, f2, f3, f4, f5, f6⟩ := f
  have hN := f4 k hkd
  refine va_get (v := .int (iI (MI k j))) kx kb kt f5 ko kK.1 hP k (by rw [z_W_at hk, z_E_o hkd f3]) f1 j f2 (kt _ f6) (fun _ h9 => h9) ?_ hd (kk H locs ls hl hP hD hS)
  rw [z_fs_at (by omega)]
  unfold z_fv
  rw [hkd, if_pos hfi]
theorem v_getr (K : VK X cc own nL ret fr lo mc ms) {idx ci j k r : Nat} (f : FF own idx ci j) (hk : k < n) (hkd : z_kd k = ci) (hfi : z_fi ci j = false) (hr : MR k j = some r) (hd : decode cc pc = .ok (.getfield idx, 3)) (kk : V X cs n Q MR MI ML (pc + 3) lv (.ref (Q r) :: st)) : V X cs n Q MR MI ML pc lv (.ref (Q k) :: st) := by
  obtain ⟨p, l, e, R, s, m, args, below, meth, c, nL2, D, Z, A, Qp⟩ := X
  obtain ⟨kx, kb, km, rfl, ko, kt, kK, kr, kl, kA, rfl⟩ := K
  intro H locs ls hl hP hD hS
  obtain ⟨C, T, N, f1, f2, f3, f4, f5, f6⟩ := f
  have hN := f4 k hkd
  refine va_get (v := .ref (Q r)) kx kb kt f5 ko kK.1 hP k (by rw [z_W_at hk, z_E_o hkd f3]) f1 j f2 (kt _ f6) (fun _ h9 => h9) ?_ hd (kk H locs ls hl hP hD hS)
  rw [z_fs_at (by omega)]
  unfold z_fv
  rw [hkd, if_neg (by rw [hfi]; decide), hr]
  rfl
theorem v_puti (K : VK X cc own nL ret fr lo mc ms) {idx ci j k : Nat} {v : Int} (f : FP own idx ci j false .int) (hk : k < n) (hkd : z_kd k = ci) (hfi : z_fi ci j = true) (hd : decode cc pc = .ok (.putfield idx, 3)) (kk : V X cs n Q MR (z_up MI k j v) ML (pc + 3) lv st) : V X cs n Q MR MI ML pc lv (.int (iI v) :: .ref (Q k) :: st) := by
  obtain ⟨p, l, e, R, s, m, args, below, meth, c, nL2, D, Z, A, Qp⟩ := X
  obtain ⟨kx, kb, km, rfl, ko, kt, kK, kr, kl, kA, rfl⟩ := K
  intro H locs ls hl hP hD hS
  obtain ⟨C, T, N, ty0, f1, f2, f3, f4, f5, f6, f7, f8, f9, f10, f11⟩ := f
  have hN := f4 k hkd
  have hs : z_W Z n Q MR MI ML = z_W Z n Q MR MI ML := rfl
  refine va_put (v := .int (iI v)) (ty := .int) kx kb kt f5 ty0 f7 f8 ko kK.1 hP hD hS k (by rw [z_W_at hk, z_E_o hkd f3]) f1 j f2 (kt _ f6) (fun _ h9 => h9) f9 f11 rfl rfl (by simp; omega) hd (fun H locs hP hD hS => ?_)
  have e1 := z_W_set (Z := Z) (Q := Q) (MR := MR) (MR' := MR) (MI := MI) (ML := ML) (MI' := z_up MI k j v) (ML' := ML) (x := (Q k, .inr (ci, ((List.range (z_ln k)).map (z_fv Q MR MI k)).set j (.int (iI v))))) hk (by
    rw [z_E_o hkd f3, z_fs_set (g := z_fv Q MR (z_up MI k j v) k) (by unfold z_fv; rw [hkd, if_pos hfi, z_up_s]) (fun a ha => by unfold z_fv; rw [z_up_j ha]) (by omega)]) (fun a ha => z_E_up ha)
  rw [e1] at hP hD
  exact kk H locs ls hl hP hD hS
theorem v_putz (K : VK X cc own nL ret fr lo mc ms) {idx ci j k : Nat} {v : Int} (f : FP own idx ci j false .boolean) (hv : v = 0 ∨ v = 1) (hk : k < n) (hkd : z_kd k = ci) (hfi : z_fi ci j = true) (hd : decode cc pc = .ok (.putfield idx, 3)) (kk : V X cs n Q MR (z_up MI k j v) ML (pc + 3) lv st) : V X cs n Q MR MI ML pc lv (.int (iI v) :: .ref (Q k) :: st) := by
  obtain ⟨p, l, e, R, s, m, args, below, meth, c, nL2, D, Z, A, Qp⟩ := X
  obtain ⟨kx, kb, km, rfl, ko, kt, kK, kr, kl, kA, rfl⟩ := K
  intro H locs ls hl hP hD hS
  obtain ⟨C, T, N, ty0, f1, f2, f3, f4, f5, f6, f7, f8, f9, f10, f11⟩ := f
  have hN := f4 k hkd
  refine va_put (v := .int (iI v)) (ty := .boolean) kx kb kt f5 ty0 f7 f8 ko kK.1 hP hD hS k (by rw [z_W_at hk, z_E_o hkd f3]) f1 j f2 (kt _ f6) (fun _ h9 => h9) f9 f11 (by rcases hv with rfl | rfl <;> decide) (by rcases hv with rfl | rfl <;> decide) (by simp; omega) hd (fun H locs hP hD hS => ?_)
  have e1 := z_W_set (Z := Z) (Q := Q) (MR := MR) (MR' := MR) (MI := MI) (ML := ML) (MI' := z_up MI k j v) (ML' := ML) (x := (Q k, .inr (ci, ((List.range (z_ln k)).map (z_fv Q MR MI k)).set j (.int (iI v))))) hk (by
    rw [z_E_o hkd f3, z_fs_set (g := z_fv Q MR (z_up MI k j v) k) (by unfold z_fv; rw [hkd, if_pos hfi, z_up_s]) (fun a ha => by unfold z_fv; rw [z_up_j ha]) (by omega)]) (fun a ha => z_E_up ha)
  rw [e1] at hP hD
  exact kk H locs ls hl hP hD hS
end VFIELDS
/-! contracts -/
abbrev ZQ : Type := Option Value → Nat → (Nat → Nat) → ZR → ZM → ZM → Prop
def z_Pre (D : va_G) (Z : ZC) (n : Nat) (Q : Nat → Nat) (MR : ZR) (MI ML : ZM) (sz : Nat) (U : State) : Prop := U.heap.size = sz ∧ va_P D vwCl (z_W Z n Q MR MI ML) U.heap ∧ z_K D Z U ∧ va_D (fun _ => True) (z_W Z n Q MR MI ML)
def z_Post (D : va_G) (Z : ZC) (n : Nat) (Q : Nat → Nat) (sz : Nat) (Post : ZQ) : Array Value → State → Outcome → State → Prop := fun _ s oc t => ∃ (v : Option Value) (n' : Nat) (Q' : Nat → Nat) (MR' : ZR) (MI' ML' : ZM), oc = .returned v ∧ Post v n' Q' MR' MI' ML' ∧ va_P D vwCl (z_W Z n' Q' MR' MI' ML') t.heap ∧ va_D (z_A n Q sz) (z_W Z n' Q' MR' MI' ML') ∧ va_F (z_A n Q sz) s t
/-- the contract of method y: from a memory (n Q MR MI ML) and the arguments As it returns, with Post -/
def CM (l : Launch) (y : MethodName) (cc : ByteArray) (nL : Nat) (ret : Option FieldType) (fr lo mc ms : Nat) (D : va_G) (Z : ZC) (n : Nat) (Q : Nat → Nat) (MR : ZR) (As : List Value) (MI ML : ZM) (Post : ZQ) : Prop :=
  ∀ sz, Met l y (.code y cc nL ret :: wsL) ({ frames := fr, cells := mc, slots := ms, locals := lo }) (va_Pc As (z_Pre D Z n Q MR MI ML sz)) (z_Post D Z n Q sz Post) mc ms (z_A n Q sz)
/-- X is a body's frame whose end is Post -/
def VE (X : VX) (mc ms n0 : Nat) (Q0 : Nat → Nat) (Post : ZQ) : Prop :=
  match X with
  | (_, _, _, _, s, _, args, below, _, _, _, D, Z, A, Qp) => A = z_A n0 Q0 s.heap.size ∧ Qp = MQ below (z_Post D Z n0 Q0 s.heap.size Post) args s mc ms A
theorem CM.of {l : Launch} {y : MethodName} {cc : ByteArray} {nL : Nat} {ret : Option FieldType} {fr lo mc ms : Nat} {D : va_G} {Z : ZC} {n : Nat} {Q : Nat → Nat} {MR : ZR} {As : List Value} {MI ML : ZM} {Post : ZQ} (hy : plainName y.cls = true) (hlen : (lg_sl As).length ≤ nL)
    (body : ∀ X : VX, VK X cc y.cls nL ret fr lo mc ms → VE X mc ms n Q Post → X.2.1 = l → X.2.2.2.2.2.2.2.2.2.2.2.1 = D → X.2.2.2.2.2.2.2.2.2.2.2.2.1 = Z → (y.name = "<init>" → X.2.2.2.2.2.2.2.2.1.name = "<init>") → V X (0, 0) n Q MR MI ML 0 (lv_args 0 As) []) : CM l y cc nL ret fr lo mc ms D Z n Q MR As MI ML Post := by
  intro sz
  refine Met.ofW (cc := cc) (maxL := nL) (ret := ret) hy rfl ?_
  intro p e s m args below meth c s₁ B hml hv
  obtain ⟨rfl, rfl, hP, hK, hD0⟩ := hv
  have hts := atoms_spec (ws := (.code y cc nL ret :: wsL)) B.pre
  have hown : s.vm.findClass y.cls = some m.cls := findClass_of_methodNamed B.named
  have hD : va_D (z_A n Q s.heap.size) (z_W Z n Q MR MI ML) := by
    refine hD0.weaken (fun k q hk _ => ?_)
    by_cases hn : k < n
    · rw [z_W_at hn] at hk
      cases hk
      exact Or.inl ⟨k, hn, rfl⟩
    · rw [List.getElem?_eq_none (by unfold z_W; simp; omega)] at hk
      cases hk
  have hb := body (p, l, e, { frames := fr, cells := mc, slots := ms, locals := lo }, s, m, As.toArray, below, meth, c, nL, D, Z, z_A n Q s.heap.size, MQ below (z_Post D Z n Q s.heap.size Post) As.toArray s mc ms (z_A n Q s.heap.size))
    ⟨B.exec, B.bytes, hml, rfl, hown, fun w h => hts w (List.mem_cons_of_mem _ h), hK, B.returns, B.notSynchronized, fun q h => Or.inr h, rfl⟩ ⟨rfl, rfl⟩ rfl rfl rfl (fun h => by rw [← h]; exact (name_of_methodNamed B.named B.method).1)
  have hl := lv_entry As (n := nL) hlen
  rw [lg_entry_eq]
  exact hb s.heap [] _ hl hP hD va_S.rf
section VRET
variable {X : VX} {n : Nat} {Q : Nat → Nat} {MR : ZR} {MI ML : ZM} {pc : Nat} {lv : List (Nat × Value)} {cc : ByteArray} {own : String} {nL : Nat} {fr lo mc ms : Nat} {n0 : Nat} {Q0 : Nat → Nat} {Post : ZQ}
theorem v_iret (K : VK X cc own nL (some .int) fr lo mc ms) (E : VE X mc ms n0 Q0 Post) {z : Int} (hd : decode cc pc = .ok (.ireturn, 1)) (h : Post (some (.int (iI z))) n Q MR MI ML) : V X (mc, ms) n Q MR MI ML pc lv [.int (iI z)] := by
  obtain ⟨p, l, e, R, s, m, args, below, meth, c, nL2, D, Z, A, Qp⟩ := X
  obtain ⟨kx, kb, km, rfl, ko, kt, kK, kr, kl, kA, rfl⟩ := K
  obtain ⟨rfl, rfl⟩ := E
  intro H locs ls hl hP hD hS
  exact W.iret (v := iI z) kx kb kr (fun t ht hW => ⟨_, n, Q, MR, MI, ML, rfl, h, by rw [ht]; exact hP, hD, hS.F ht⟩) hS.2.2 hd kl
theorem v_zret (K : VK X cc own nL (some .boolean) fr lo mc ms) (E : VE X mc ms n0 Q0 Post) {z : Int} (hz : z = 0 ∨ z = 1) (hd : decode cc pc = .ok (.ireturn, 1)) (h : Post (some (.int (iI z))) n Q MR MI ML) : V X (mc, ms) n Q MR MI ML pc lv [.int (iI z)] := by
  obtain ⟨p, l, e, R, s, m, args, below, meth, c, nL2, D, Z, A, Qp⟩ := X
  obtain ⟨kx, kb, km, rfl, ko, kt, kK, kr, kl, kA, rfl⟩ := K
  obtain ⟨rfl, rfl⟩ := E
  intro H locs ls hl hP hD hS
  exact W.zret (v := iI z) kx kb kr (by rcases hz with rfl | rfl <;> decide) (fun t ht hW => ⟨_, n, Q, MR, MI, ML, rfl, h, by rw [ht]; exact hP, hD, hS.F ht⟩) hS.2.2 hd kl
theorem v_lret (K : VK X cc own nL (some .long) fr lo mc ms) (E : VE X mc ms n0 Q0 Post) {z : Int} (hd : decode cc pc = .ok (.lreturn, 1)) (h : Post (some (.long (lJ z))) n Q MR MI ML) : V X (mc, ms) n Q MR MI ML pc lv [.long (lJ z)] := by
  obtain ⟨p, l, e, R, s, m, args, below, meth, c, nL2, D, Z, A, Qp⟩ := X
  obtain ⟨kx, kb, km, rfl, ko, kt, kK, kr, kl, kA, rfl⟩ := K
  obtain ⟨rfl, rfl⟩ := E
  intro H locs ls hl hP hD hS
  exact W.lret (v := lJ z) kx kb kr (fun t ht hW => ⟨_, n, Q, MR, MI, ML, rfl, h, by rw [ht]; exact hP, hD, hS.F ht⟩) hS.2.2 hd kl
theorem v_ret (K : VK X cc own nL none fr lo mc ms) (E : VE X mc ms n0 Q0 Post) (hd : decode cc pc = .ok (.return_, 1)) (h : Post none n Q MR MI ML) : V X (mc, ms) n Q MR MI ML pc lv [] := by
  obtain ⟨p, l, e, R, s, m, args, below, meth, c, nL2, D, Z, A, Qp⟩ := X
  obtain ⟨kx, kb, km, rfl, ko, kt, kK, kr, kl, kA, rfl⟩ := K
  obtain ⟨rfl, rfl⟩ := E
  intro H locs ls hl hP hD hS
  exact W.vret kx kb kr (fun t ht hW => ⟨_, n, Q, MR, MI, ML, rfl, h, by rw [ht]; exact hP, hD, hS.F ht⟩) hS.2.2 hd kl
theorem v_aret {C : String} (K : VK X cc own nL (some (.object C)) fr lo mc ms) (E : VE X mc ms n0 Q0 Post) {k : Nat} (hd : decode cc pc = .ok (.areturn, 1)) (h : Post (some (.ref (Q k))) n Q MR MI ML) : V X (mc, ms) n Q MR MI ML pc lv [.ref (Q k)] := by
  obtain ⟨p, l, e, R, s, m, args, below, meth, c, nL2, D, Z, A, Qp⟩ := X
  obtain ⟨kx, kb, km, rfl, ko, kt, kK, kr, kl, kA, rfl⟩ := K
  obtain ⟨rfl, rfl⟩ := E
  intro H locs ls hl hP hD hS
  exact W.aret (v := .ref (Q k)) kx kb kr (Or.inl ⟨C, rfl⟩) (Or.inr ⟨_, rfl⟩) (fun t ht hW => ⟨_, n, Q, MR, MI, ML, rfl, h, by rw [ht]; exact hP, hD, hS.F ht⟩) hS.2.2 hd kl
end VRET
theorem wsL_in {y : MethodName} {bytes : ByteArray} {maxL : Nat} {ret : Option FieldType} (h : Cond.code y bytes maxL ret ∈ wsL) : GoodIn wsL (Cond.code y bytes maxL ret :: wsL) := by
  intro w hw
  rcases List.mem_cons.mp hw with rfl | hw
  · exact ⟨h, good_of_word (wsL_good _ h)⟩
  · exact ⟨hw, good_of_word (wsL_good _ hw)⟩
theorem z_K.moved {D : va_G} {Z : ZC} {u U : State} (hvm : u.vm.Alike U.vm) (h : z_K D Z u) : z_K D Z U := ⟨va_K.moved hvm h.1, h.2.1.moved hvm, h.2.2.1.moved hvm, h.2.2.2.moved hvm⟩
theorem z_blind {D : va_G} {Z : ZC} {n : Nat} {Q : Nat → Nat} {MR : ZR} {MI ML : ZM} {sz : Nat} {As : List Value} : FrameBlind (va_Pc As (z_Pre D Z n Q MR MI ML sz)) := by
  intro a U g mk q
  obtain ⟨q0, q1, qP, qK, qD⟩ := q
  exact ⟨q0, q1, qP, z_K.moved (u := U) (U := U.calling g mk a) (Vm.Alike.refl U.vm) qK, qD⟩
/-- a call's words that don't hang on its kind -/
def FC (own : String) (idx : Nat) (y : MethodName) (cc : ByteArray) (nL : Nat) (ret : Option FieldType) (na : Nat) : Prop := Cond.code y cc nL ret ∈ wsL ∧ Cond.methodLink own idx y ∈ wsL ∧ Cond.initialized y.cls ∈ wsL ∧ (y.cls ≠ "java/lang/invoke/MethodHandle" ∧ y.cls ≠ "java/lang/invoke/VarHandle" ∧ (parseMethodDescriptor y.desc).map (fun d => d.parameters.length) = some na)
section VCALL
variable {X : VX} {cs : Nat × Nat} {n : Nat} {Q : Nat → Nat} {MR : ZR} {MI ML : ZM} {pc : Nat} {lv : List (Nat × Value)} {st : List Value} {cc : ByteArray} {own : String} {nL : Nat} {ret : Option FieldType} {fr lo mc ms : Nat}
variable {y : MethodName} {cy : ByteArray} {nLy : Nat} {rety : Option FieldType} {fry loy mcy msy na idx b : Nat} {As : List Value} {Post : ZQ}
/-- behind a call -/
theorem v_after {p : Program} {l : Launch} {e : Env} {R : Room} {s : State} {m : MethodId} {args : Array Value} {below : List Frame} {meth : Method} {c : Code} {D : va_G} {Z : ZC} {A : Nat → Prop} {Qp : State → Prop} {H : Heap} {locs : List Loc} {ls : Array Slot} {a : Array Value} {st0 : List Value} {k1 k2 : Nat} (hl : lv_has ls nL lv) (hD : va_D A (z_W Z n Q MR MI ML)) (hS : va_S A s.heap H locs) (hA : ∀ q, s.heap.size ≤ q → A q) (hr : va_Run p l e R s m args below meth c H locs k1 k2 mcy msy (F0 m pc ls st0) st (z_Post D Z n Q H.size Post a) (z_A n Q H.size))
    (kk : ∀ v n' Q' MR' MI' ML', Post v n' Q' MR' MI' ML' → V (p, l, e, R, s, m, args, below, meth, c, nL, D, Z, A, Qp) (k1 + mcy, k2 + msy) n' Q' MR' MI' ML' (pc + 3) lv (v.toList ++ st)) : W p l e R s m args below meth c H locs k1 k2 Qp (F0 m pc ls st0) := by
  intro T hT Xs
  obtain ⟨v, st₀, t, T', L, h0, X', hL, e1, e2, ⟨v', n', Q', MR', MI', ML', hv, hp, hP1, hD1, hz, hk⟩, stp⟩ := hr T hT Xs
  cases hv
  rw [h0] at hz hk
  have hF : ∀ q, z_A n Q H.size q → A q := by
    intro q h
    rcases h with ⟨k, hk, rfl⟩ | h
    · exact hD.2 k _ (z_W_at hk)
    · exact hA q (Nat.le_trans hS.1 h)
  have hS1 : va_S A s.heap T'.heap (locs ++ L) := ⟨Nat.le_trans hS.1 (by rw [e1]; exact hz), fun q h1 h2 => by rw [e1, hk q (Nat.lt_of_lt_of_le h1 hS.1) (fun z => h2 (hF q z))]; exact hS.2.1 q h1 h2, fun q hq => by
      rcases List.mem_append.mp hq with h | h
      · exact hS.2.2 q h
      · exact hF _ (hL q h)⟩
  obtain ⟨t2, a1, b1⟩ := kk v n' Q' MR' MI' ML' hp T'.heap (locs ++ L) ls hl (by rw [e1]; exact hP1) (hD1.weaken (fun k q _ h => hF q.1 h)) hS1 T' rfl X'
  exact ⟨t2, stp t2 a1, b1⟩
theorem v_callV (K : VK X cc own nL ret fr lo mc ms) (hM : CM X.2.1 y cy nLy rety fry loy mcy msy X.2.2.2.2.2.2.2.2.2.2.2.1 X.2.2.2.2.2.2.2.2.2.2.2.2.1 n Q MR (.ref (Q b) :: As) MI ML Post) (f : FC own idx y cy nLy rety na) (fi : Cond.instanceMethod y ∈ wsL) (fs : Cond.selects y.cls y y ∈ wsL) (hb : b < n) (ci : Nat) (hkd : z_kd b = ci) (hci : ci < 10) (hc : (vwCl[ci]?).map (fun q => q.1) = some y.cls) (hn : As.length = na) (hrm : fry + 1 ≤ fr ∧ 8 + (nLy + 11) + loy ≤ lo ∧ cs.1 + mcy ≤ mc ∧ cs.2 + msy ≤ ms) (hw : (st.map fun v => v.category).sum ≤ 8) (hd : decode cc pc = .ok (.invokevirtual idx, 3))
    (kk : ∀ v n' Q' MR' MI' ML', Post v n' Q' MR' MI' ML' → V X (cs.1 + mcy, cs.2 + msy) n' Q' MR' MI' ML' (pc + 3) lv (v.toList ++ st)) : V X cs n Q MR MI ML pc lv (As.reverse ++ .ref (Q b) :: st) := by
  obtain ⟨p, l, e, R, s, m, args, below, meth, c, nL2, D, Z, A, Qp⟩ := X
  obtain ⟨kx, kb, km, rfl, ko, kt, kK, kr, kl, kA, rfl⟩ := K
  intro H locs ls hl hP hD hS
  obtain ⟨f1, f2, f3, f4⟩ := f
  obtain ⟨q, hq⟩ : ∃ q, vwCl[ci]? = some q := by
    cases h9 : vwCl[ci]? with
    | none => rw [h9] at hc; cases hc
    | some q => exact ⟨q, rfl⟩
  have hqc : q.1 = y.cls := by rw [hq] at hc; exact Option.some.inj hc
  refine v_after hl hD hS kA (va_runV (y := y) (C := y.cls) (As := As) (rest := st) (b := Q b) ⟨kx, kb, km, ko, kt⟩ (hM H.size) ⟨callB_of na kt (wsL_in f1) rfl rfl rfl (kt _ f3) (kt _ f2) f4 ⟨hrm.1, hrm.2.1⟩, kt _ fi, kt _ fs⟩ ⟨z_blind, ?_, fun U hU hW => ⟨rfl, by rw [hU], by rw [hU]; exact hP, z_K.moved hW.alike kK, hD.weaken (fun _ _ _ _ => trivial)⟩⟩ rfl hn hl.1 rfl (lv_room hw) hd ⟨hrm.2.2.1, hrm.2.2.2⟩) kk
  rw [← hqc]
  exact va_recv kK.1 hP hq (ci := ci) (q0 := b) (by rw [z_W_at hb, z_E_o hkd hci])
theorem v_callS (K : VK X cc own nL ret fr lo mc ms) (hM : CM X.2.1 y cy nLy rety fry loy mcy msy X.2.2.2.2.2.2.2.2.2.2.2.1 X.2.2.2.2.2.2.2.2.2.2.2.2.1 n Q MR As MI ML Post) (f : FC own idx y cy nLy rety na) (fs : Cond.static y ∈ wsL) (hn : As.length = na) (hrm : fry + 1 ≤ fr ∧ 8 + (nLy + 11) + loy ≤ lo ∧ cs.1 + mcy ≤ mc ∧ cs.2 + msy ≤ ms) (hw : (st.map fun v => v.category).sum ≤ 8) (hd : decode cc pc = .ok (.invokestatic idx, 3))
    (kk : ∀ v n' Q' MR' MI' ML', Post v n' Q' MR' MI' ML' → V X (cs.1 + mcy, cs.2 + msy) n' Q' MR' MI' ML' (pc + 3) lv (v.toList ++ st)) : V X cs n Q MR MI ML pc lv (As.reverse ++ st) := by
  obtain ⟨p, l, e, R, s, m, args, below, meth, c, nL2, D, Z, A, Qp⟩ := X
  obtain ⟨kx, kb, km, rfl, ko, kt, kK, kr, kl, kA, rfl⟩ := K
  intro H locs ls hl hP hD hS
  obtain ⟨f1, f2, f3, f4⟩ := f
  exact v_after hl hD hS kA (va_runS (y := y) (As := As) (rest := st) ⟨kx, kb, km, ko, kt⟩ (hM H.size) ⟨callB_of na kt (wsL_in f1) rfl rfl rfl (kt _ f3) (kt _ f2) f4 ⟨hrm.1, hrm.2.1⟩, kt _ fs⟩ ⟨z_blind, fun U hU hW => ⟨rfl, by rw [hU], by rw [hU]; exact hP, z_K.moved hW.alike kK, hD.weaken (fun _ _ _ _ => trivial)⟩⟩ rfl hn hl.1 rfl (lv_room hw) hd ⟨hrm.2.2.1, hrm.2.2.2⟩) kk
end VCALL
end
section
theorem z_beyond {k : Nat} (h : 110 ≤ k) : z_kd k = 99 := by
  unfold z_kd
  rw [List.getD_eq_getElem?_getD, List.getElem?_eq_none (by have : z_sh.length = 110 := rfl; omega)]; rfl
theorem zc0 : ∀ k, z_kd k = 0 → z_ln k = 4 := by
  intro k hk
  by_cases h : k < 110
  · have h1 : ∀ k, k < 110 → z_kd k = 0 → z_ln k = 4 := by decide +kernel
    exact h1 k h hk
  · rw [z_beyond (by omega)] at hk; omega
theorem zc1 : ∀ k, z_kd k = 1 → z_ln k = 3 := by
  intro k hk
  by_cases h : k < 110
  · have h1 : ∀ k, k < 110 → z_kd k = 1 → z_ln k = 3 := by decide +kernel
    exact h1 k h hk
  · rw [z_beyond (by omega)] at hk; omega
theorem zc2 : ∀ k, z_kd k = 2 → z_ln k = 2 := by
  intro k hk
  by_cases h : k < 110
  · have h1 : ∀ k, k < 110 → z_kd k = 2 → z_ln k = 2 := by decide +kernel
    exact h1 k h hk
  · rw [z_beyond (by omega)] at hk; omega
theorem zc3 : ∀ k, z_kd k = 3 → z_ln k = 4 := by
  intro k hk
  by_cases h : k < 110
  · have h1 : ∀ k, k < 110 → z_kd k = 3 → z_ln k = 4 := by decide +kernel
    exact h1 k h hk
  · rw [z_beyond (by omega)] at hk; omega
theorem zc4 : ∀ k, z_kd k = 4 → z_ln k = 6 := by
  intro k hk
  by_cases h : k < 110
  · have h1 : ∀ k, k < 110 → z_kd k = 4 → z_ln k = 6 := by decide +kernel
    exact h1 k h hk
  · rw [z_beyond (by omega)] at hk; omega
theorem zc5 : ∀ k, z_kd k = 5 → z_ln k = 6 := by
  intro k hk
  by_cases h : k < 110
  · have h1 : ∀ k, k < 110 → z_kd k = 5 → z_ln k = 6 := by decide +kernel
    exact h1 k h hk
  · rw [z_beyond (by omega)] at hk; omega
theorem zc6 : ∀ k, z_kd k = 6 → z_ln k = 2 := by
  intro k hk
  by_cases h : k < 110
  · have h1 : ∀ k, k < 110 → z_kd k = 6 → z_ln k = 2 := by decide +kernel
    exact h1 k h hk
  · rw [z_beyond (by omega)] at hk; omega
theorem zc7 : ∀ k, z_kd k = 7 → z_ln k = 4 := by
  intro k hk
  by_cases h : k < 110
  · have h1 : ∀ k, k < 110 → z_kd k = 7 → z_ln k = 4 := by decide +kernel
    exact h1 k h hk
  · rw [z_beyond (by omega)] at hk; omega
theorem zc8 : ∀ k, z_kd k = 8 → z_ln k = 12 := by
  intro k hk
  by_cases h : k < 110
  · have h1 : ∀ k, k < 110 → z_kd k = 8 → z_ln k = 12 := by decide +kernel
    exact h1 k h hk
  · rw [z_beyond (by omega)] at hk; omega
theorem zc9 : ∀ k, z_kd k = 9 → z_ln k = 26 := by
  intro k hk
  by_cases h : k < 110
  · have h1 : ∀ k, k < 110 → z_kd k = 9 → z_ln k = 26 := by decide +kernel
    exact h1 k h hk
  · rw [z_beyond (by omega)] at hk; omega
theorem ff_X0_9 : FF RX0 9 0 0 := ⟨_, _, _, rfl, by decide, by decide, zc0, us0, fl_X0_9⟩
theorem fp_X0_9 : FP RX0 9 0 0 true (.array .int) := ⟨_, _, _, tyX0, rfl, by decide, by decide, zc0, us0, fl_X0_9, tyX0_ok, nmX0, rfl, (fun _ => rfl), by decide +kernel⟩
theorem ff_X7_43 : FF RX7 43 0 0 := ⟨_, _, _, rfl, by decide, by decide, zc0, us0, fl_X7_43⟩
theorem ff_X0_15 : FF RX0 15 0 1 := ⟨_, _, _, rfl, by decide, by decide, zc0, us0, fl_X0_15⟩
theorem fp_X0_15 : FP RX0 15 0 1 true (.array .int) := ⟨_, _, _, tyX0, rfl, by decide, by decide, zc0, us0, fl_X0_15, tyX0_ok, nmX0, rfl, (fun _ => rfl), by decide +kernel⟩
theorem ff_X5_57 : FF RX5 57 0 1 := ⟨_, _, _, rfl, by decide, by decide, zc0, us0, fl_X5_57⟩
theorem ff_X0_18 : FF RX0 18 0 2 := ⟨_, _, _, rfl, by decide, by decide, zc0, us0, fl_X0_18⟩
theorem fp_X0_18 : FP RX0 18 0 2 true (.array .int) := ⟨_, _, _, tyX0, rfl, by decide, by decide, zc0, us0, fl_X0_18, tyX0_ok, nmX0, rfl, (fun _ => rfl), by decide +kernel⟩
theorem ff_X8_76 : FF RX8 76 0 2 := ⟨_, _, _, rfl, by decide, by decide, zc0, us0, fl_X8_76⟩
theorem ff_X7_48 : FF RX7 48 0 2 := ⟨_, _, _, rfl, by decide, by decide, zc0, us0, fl_X7_48⟩
theorem ff_X0_21 : FF RX0 21 0 3 := ⟨_, _, _, rfl, by decide, by decide, zc0, us0, fl_X0_21⟩
theorem fp_X0_21 : FP RX0 21 0 3 false .int := ⟨_, _, _, tyX0, rfl, by decide, by decide, zc0, us0, fl_X0_21, tyX0_ok, nmX0, rfl, (fun h => by cases h), by decide +kernel⟩
theorem ff_X8_176 : FF RX8 176 0 3 := ⟨_, _, _, rfl, by decide, by decide, zc0, us0, fl_X8_176⟩
theorem fp_X8_176 : FP RX8 176 0 3 false .int := ⟨_, _, _, tyX0, rfl, by decide, by decide, zc0, us0, fl_X8_176, tyX0_ok, nmX0, rfl, (fun h => by cases h), by decide +kernel⟩
theorem ff_X2_9 : FF RX2 9 2 0 := ⟨_, _, _, rfl, by decide, by decide, zc2, us2, fl_X2_9⟩
theorem fp_X2_9 : FP RX2 9 2 0 true (.array .int) := ⟨_, _, _, tyX2, rfl, by decide, by decide, zc2, us2, fl_X2_9, tyX2_ok, nmX2, rfl, (fun _ => rfl), by decide +kernel⟩
theorem ff_X5_50 : FF RX5 50 2 0 := ⟨_, _, _, rfl, by decide, by decide, zc2, us2, fl_X5_50⟩
theorem ff_X8_103 : FF RX8 103 2 0 := ⟨_, _, _, rfl, by decide, by decide, zc2, us2, fl_X8_103⟩
theorem ff_X2_15 : FF RX2 15 2 1 := ⟨_, _, _, rfl, by decide, by decide, zc2, us2, fl_X2_15⟩
theorem fp_X2_15 : FP RX2 15 2 1 false .int := ⟨_, _, _, tyX2, rfl, by decide, by decide, zc2, us2, fl_X2_15, tyX2_ok, nmX2, rfl, (fun h => by cases h), by decide +kernel⟩
theorem ff_X5_45 : FF RX5 45 2 1 := ⟨_, _, _, rfl, by decide, by decide, zc2, us2, fl_X5_45⟩
theorem fp_X5_45 : FP RX5 45 2 1 false .int := ⟨_, _, _, tyX2, rfl, by decide, by decide, zc2, us2, fl_X5_45, tyX2_ok, nmX2, rfl, (fun h => by cases h), by decide +kernel⟩
theorem ff_X8_185 : FF RX8 185 2 1 := ⟨_, _, _, rfl, by decide, by decide, zc2, us2, fl_X8_185⟩
theorem fp_X8_185 : FP RX8 185 2 1 false .int := ⟨_, _, _, tyX2, rfl, by decide, by decide, zc2, us2, fl_X8_185, tyX2_ok, nmX2, rfl, (fun h => by cases h), by decide +kernel⟩
theorem ff_X7_9 : FF RX7 9 7 0 := ⟨_, _, _, rfl, by decide, by decide, zc7, us7, fl_X7_9⟩
theorem fp_X7_9 : FP RX7 9 7 0 false .int := ⟨_, _, _, tyX7, rfl, by decide, by decide, zc7, us7, fl_X7_9, tyX7_ok, nmX7, rfl, (fun h => by cases h), by decide +kernel⟩
theorem ff_X3_37 : FF RX3 37 7 0 := ⟨_, _, _, rfl, by decide, by decide, zc7, us7, fl_X3_37⟩
theorem fp_X3_37 : FP RX3 37 7 0 false .int := ⟨_, _, _, tyX7, rfl, by decide, by decide, zc7, us7, fl_X3_37, tyX7_ok, nmX7, rfl, (fun h => by cases h), by decide +kernel⟩
theorem ff_X8_125 : FF RX8 125 7 0 := ⟨_, _, _, rfl, by decide, by decide, zc7, us7, fl_X8_125⟩
theorem fp_X8_125 : FP RX8 125 7 0 false .int := ⟨_, _, _, tyX7, rfl, by decide, by decide, zc7, us7, fl_X8_125, tyX7_ok, nmX7, rfl, (fun h => by cases h), by decide +kernel⟩
theorem ff_X7_15 : FF RX7 15 7 1 := ⟨_, _, _, rfl, by decide, by decide, zc7, us7, fl_X7_15⟩
theorem fp_X7_15 : FP RX7 15 7 1 false .int := ⟨_, _, _, tyX7, rfl, by decide, by decide, zc7, us7, fl_X7_15, tyX7_ok, nmX7, rfl, (fun h => by cases h), by decide +kernel⟩
theorem ff_X8_133 : FF RX8 133 7 1 := ⟨_, _, _, rfl, by decide, by decide, zc7, us7, fl_X8_133⟩
theorem fp_X8_133 : FP RX8 133 7 1 false .int := ⟨_, _, _, tyX7, rfl, by decide, by decide, zc7, us7, fl_X8_133, tyX7_ok, nmX7, rfl, (fun h => by cases h), by decide +kernel⟩
theorem ff_X7_18 : FF RX7 18 7 2 := ⟨_, _, _, rfl, by decide, by decide, zc7, us7, fl_X7_18⟩
theorem fp_X7_18 : FP RX7 18 7 2 false .int := ⟨_, _, _, tyX7, rfl, by decide, by decide, zc7, us7, fl_X7_18, tyX7_ok, nmX7, rfl, (fun h => by cases h), by decide +kernel⟩
theorem ff_X7_21 : FF RX7 21 7 3 := ⟨_, _, _, rfl, by decide, by decide, zc7, us7, fl_X7_21⟩
theorem fp_X7_21 : FP RX7 21 7 3 false .int := ⟨_, _, _, tyX7, rfl, by decide, by decide, zc7, us7, fl_X7_21, tyX7_ok, nmX7, rfl, (fun h => by cases h), by decide +kernel⟩
theorem ff_X3_12 : FF RX3 12 3 0 := ⟨_, _, _, rfl, by decide, by decide, zc3, us3, fl_X3_12⟩
theorem fp_X3_12 : FP RX3 12 3 0 true (.object "DeckBalance$Side") := ⟨_, _, _, tyX3, rfl, by decide, by decide, zc3, us3, fl_X3_12, tyX3_ok, nmX3, rfl, (fun _ => rfl), by decide +kernel⟩
theorem ff_X8_121 : FF RX8 121 3 0 := ⟨_, _, _, rfl, by decide, by decide, zc3, us3, fl_X8_121⟩
theorem ff_X3_18 : FF RX3 18 3 1 := ⟨_, _, _, rfl, by decide, by decide, zc3, us3, fl_X3_18⟩
theorem fp_X3_18 : FP RX3 18 3 1 true (.object "DeckBalance$Side") := ⟨_, _, _, tyX3, rfl, by decide, by decide, zc3, us3, fl_X3_18, tyX3_ok, nmX3, rfl, (fun _ => rfl), by decide +kernel⟩
theorem ff_X8_130 : FF RX8 130 3 1 := ⟨_, _, _, rfl, by decide, by decide, zc3, us3, fl_X8_130⟩
theorem ff_X3_29 : FF RX3 29 3 2 := ⟨_, _, _, rfl, by decide, by decide, zc3, us3, fl_X3_29⟩
theorem fp_X3_29 : FP RX3 29 3 2 false .int := ⟨_, _, _, tyX3, rfl, by decide, by decide, zc3, us3, fl_X3_29, tyX3_ok, nmX3, rfl, (fun h => by cases h), by decide +kernel⟩
theorem ff_X8_118 : FF RX8 118 3 2 := ⟨_, _, _, rfl, by decide, by decide, zc3, us3, fl_X8_118⟩
theorem fp_X8_118 : FP RX8 118 3 2 false .int := ⟨_, _, _, tyX3, rfl, by decide, by decide, zc3, us3, fl_X8_118, tyX3_ok, nmX3, rfl, (fun h => by cases h), by decide +kernel⟩
theorem ff_X3_21 : FF RX3 21 3 3 := ⟨_, _, _, rfl, by decide, by decide, zc3, us3, fl_X3_21⟩
theorem fp_X3_21 : FP RX3 21 3 3 true (.object "DeckBalance$CardBook") := ⟨_, _, _, tyX3, rfl, by decide, by decide, zc3, us3, fl_X3_21, tyX3_ok, nmX3, rfl, (fun _ => rfl), by decide +kernel⟩
theorem ff_X4_9 : FF RX4 9 4 0 := ⟨_, _, _, rfl, by decide, by decide, zc4, us4, fl_X4_9⟩
theorem fp_X4_9 : FP RX4 9 4 0 true (.array .int) := ⟨_, _, _, tyX4, rfl, by decide, by decide, zc4, us4, fl_X4_9, tyX4_ok, nmX4, rfl, (fun _ => rfl), by decide +kernel⟩
theorem ff_X8_154 : FF RX8 154 4 0 := ⟨_, _, _, rfl, by decide, by decide, zc4, us4, fl_X8_154⟩
theorem ff_X4_25 : FF RX4 25 4 1 := ⟨_, _, _, rfl, by decide, by decide, zc4, us4, fl_X4_25⟩
theorem fp_X4_25 : FP RX4 25 4 1 false .int := ⟨_, _, _, tyX4, rfl, by decide, by decide, zc4, us4, fl_X4_25, tyX4_ok, nmX4, rfl, (fun h => by cases h), by decide +kernel⟩
theorem ff_X8_159 : FF RX8 159 4 1 := ⟨_, _, _, rfl, by decide, by decide, zc4, us4, fl_X8_159⟩
theorem fp_X8_159 : FP RX8 159 4 1 false .int := ⟨_, _, _, tyX4, rfl, by decide, by decide, zc4, us4, fl_X8_159, tyX4_ok, nmX4, rfl, (fun h => by cases h), by decide +kernel⟩
theorem ff_X4_15 : FF RX4 15 4 2 := ⟨_, _, _, rfl, by decide, by decide, zc4, us4, fl_X4_15⟩
theorem fp_X4_15 : FP RX4 15 4 2 true (.array .int) := ⟨_, _, _, tyX4, rfl, by decide, by decide, zc4, us4, fl_X4_15, tyX4_ok, nmX4, rfl, (fun _ => rfl), by decide +kernel⟩
theorem ff_X4_63 : FF RX4 63 4 3 := ⟨_, _, _, rfl, by decide, by decide, zc4, us4, fl_X4_63⟩
theorem fp_X4_63 : FP RX4 63 4 3 false .int := ⟨_, _, _, tyX4, rfl, by decide, by decide, zc4, us4, fl_X4_63, tyX4_ok, nmX4, rfl, (fun h => by cases h), by decide +kernel⟩
theorem ff_X4_18 : FF RX4 18 4 4 := ⟨_, _, _, rfl, by decide, by decide, zc4, us4, fl_X4_18⟩
theorem fp_X4_18 : FP RX4 18 4 4 true (.array .int) := ⟨_, _, _, tyX4, rfl, by decide, by decide, zc4, us4, fl_X4_18, tyX4_ok, nmX4, rfl, (fun _ => rfl), by decide +kernel⟩
theorem ff_X4_21 : FF RX4 21 4 5 := ⟨_, _, _, rfl, by decide, by decide, zc4, us4, fl_X4_21⟩
theorem fp_X4_21 : FP RX4 21 4 5 false .int := ⟨_, _, _, tyX4, rfl, by decide, by decide, zc4, us4, fl_X4_21, tyX4_ok, nmX4, rfl, (fun h => by cases h), by decide +kernel⟩
theorem ff_X5_9 : FF RX5 9 5 0 := ⟨_, _, _, rfl, by decide, by decide, zc5, us5, fl_X5_9⟩
theorem fp_X5_9 : FP RX5 9 5 0 true (.array .int) := ⟨_, _, _, tyX5, rfl, by decide, by decide, zc5, us5, fl_X5_9, tyX5_ok, nmX5, rfl, (fun _ => rfl), by decide +kernel⟩
theorem ff_X7_36 : FF RX7 36 5 0 := ⟨_, _, _, rfl, by decide, by decide, zc5, us5, fl_X7_36⟩
theorem ff_X5_15 : FF RX5 15 5 1 := ⟨_, _, _, rfl, by decide, by decide, zc5, us5, fl_X5_15⟩
theorem fp_X5_15 : FP RX5 15 5 1 true (.array .int) := ⟨_, _, _, tyX5, rfl, by decide, by decide, zc5, us5, fl_X5_15, tyX5_ok, nmX5, rfl, (fun _ => rfl), by decide +kernel⟩
theorem ff_X7_30 : FF RX7 30 5 1 := ⟨_, _, _, rfl, by decide, by decide, zc5, us5, fl_X7_30⟩
theorem ff_X5_18 : FF RX5 18 5 2 := ⟨_, _, _, rfl, by decide, by decide, zc5, us5, fl_X5_18⟩
theorem fp_X5_18 : FP RX5 18 5 2 true (.array .int) := ⟨_, _, _, tyX5, rfl, by decide, by decide, zc5, us5, fl_X5_18, tyX5_ok, nmX5, rfl, (fun _ => rfl), by decide +kernel⟩
theorem ff_X5_21 : FF RX5 21 5 3 := ⟨_, _, _, rfl, by decide, by decide, zc5, us5, fl_X5_21⟩
theorem fp_X5_21 : FP RX5 21 5 3 false .int := ⟨_, _, _, tyX5, rfl, by decide, by decide, zc5, us5, fl_X5_21, tyX5_ok, nmX5, rfl, (fun h => by cases h), by decide +kernel⟩
theorem ff_X5_25 : FF RX5 25 5 4 := ⟨_, _, _, rfl, by decide, by decide, zc5, us5, fl_X5_25⟩
theorem fp_X5_25 : FP RX5 25 5 4 false .int := ⟨_, _, _, tyX5, rfl, by decide, by decide, zc5, us5, fl_X5_25, tyX5_ok, nmX5, rfl, (fun h => by cases h), by decide +kernel⟩
theorem ff_X5_28 : FF RX5 28 5 5 := ⟨_, _, _, rfl, by decide, by decide, zc5, us5, fl_X5_28⟩
theorem fp_X5_28 : FP RX5 28 5 5 false .int := ⟨_, _, _, tyX5, rfl, by decide, by decide, zc5, us5, fl_X5_28, tyX5_ok, nmX5, rfl, (fun h => by cases h), by decide +kernel⟩
theorem ff_X1_11 : FF RX1 11 1 0 := ⟨_, _, _, rfl, by decide, by decide, zc1, us1, fl_X1_11⟩
theorem fp_X1_11 : FP RX1 11 1 0 true (.array (.object "DeckBalance$Plan")) := ⟨_, _, _, tyX1, rfl, by decide, by decide, zc1, us1, fl_X1_11, tyX1_ok, nmX1, rfl, (fun _ => rfl), by decide +kernel⟩
theorem ff_X8_109 : FF RX8 109 1 0 := ⟨_, _, _, rfl, by decide, by decide, zc1, us1, fl_X8_109⟩
theorem ff_X1_19 : FF RX1 19 1 1 := ⟨_, _, _, rfl, by decide, by decide, zc1, us1, fl_X1_19⟩
theorem fp_X1_19 : FP RX1 19 1 1 true (.array (.array .int)) := ⟨_, _, _, tyX1, rfl, by decide, by decide, zc1, us1, fl_X1_19, tyX1_ok, nmX1, rfl, (fun _ => rfl), by decide +kernel⟩
theorem ff_X8_136 : FF RX8 136 1 1 := ⟨_, _, _, rfl, by decide, by decide, zc1, us1, fl_X8_136⟩
theorem ff_X1_25 : FF RX1 25 1 2 := ⟨_, _, _, rfl, by decide, by decide, zc1, us1, fl_X1_25⟩
theorem fp_X1_25 : FP RX1 25 1 2 true (.object "DeckBalance$Mix") := ⟨_, _, _, tyX1, rfl, by decide, by decide, zc1, us1, fl_X1_25, tyX1_ok, nmX1, rfl, (fun _ => rfl), by decide +kernel⟩
theorem ff_X8_150 : FF RX8 150 1 2 := ⟨_, _, _, rfl, by decide, by decide, zc1, us1, fl_X8_150⟩
theorem ff_X6_9 : FF RX6 9 6 0 := ⟨_, _, _, rfl, by decide, by decide, zc6, us6, fl_X6_9⟩
theorem fp_X6_9 : FP RX6 9 6 0 true (.array .int) := ⟨_, _, _, tyX6, rfl, by decide, by decide, zc6, us6, fl_X6_9, tyX6_ok, nmX6, rfl, (fun _ => rfl), by decide +kernel⟩
theorem ff_X8_143 : FF RX8 143 6 0 := ⟨_, _, _, rfl, by decide, by decide, zc6, us6, fl_X8_143⟩
theorem ff_X6_15 : FF RX6 15 6 1 := ⟨_, _, _, rfl, by decide, by decide, zc6, us6, fl_X6_15⟩
theorem fp_X6_15 : FP RX6 15 6 1 false .int := ⟨_, _, _, tyX6, rfl, by decide, by decide, zc6, us6, fl_X6_15, tyX6_ok, nmX6, rfl, (fun h => by cases h), by decide +kernel⟩
theorem ff_X8_140 : FF RX8 140 6 1 := ⟨_, _, _, rfl, by decide, by decide, zc6, us6, fl_X8_140⟩
theorem fp_X8_140 : FP RX8 140 6 1 false .int := ⟨_, _, _, tyX6, rfl, by decide, by decide, zc6, us6, fl_X8_140, tyX6_ok, nmX6, rfl, (fun h => by cases h), by decide +kernel⟩
theorem ff_X8_10 : FF RX8 10 8 0 := ⟨_, _, _, rfl, by decide, by decide, zc8, us8, fl_X8_10⟩
theorem fp_X8_10 : FP RX8 10 8 0 true (.object "DeckBalance$CardBook") := ⟨_, _, _, tyX8, rfl, by decide, by decide, zc8, us8, fl_X8_10, tyX8_ok, nmX8, rfl, (fun _ => rfl), by decide +kernel⟩
theorem ff_X8_18 : FF RX8 18 8 1 := ⟨_, _, _, rfl, by decide, by decide, zc8, us8, fl_X8_18⟩
theorem fp_X8_18 : FP RX8 18 8 1 true (.array (.object "DeckBalance$Deck")) := ⟨_, _, _, tyX8, rfl, by decide, by decide, zc8, us8, fl_X8_18, tyX8_ok, nmX8, rfl, (fun _ => rfl), by decide +kernel⟩
theorem ff_X8_28 : FF RX8 28 8 2 := ⟨_, _, _, rfl, by decide, by decide, zc8, us8, fl_X8_28⟩
theorem fp_X8_28 : FP RX8 28 8 2 true (.object "DeckBalance$Game") := ⟨_, _, _, tyX8, rfl, by decide, by decide, zc8, us8, fl_X8_28, tyX8_ok, nmX8, rfl, (fun _ => rfl), by decide +kernel⟩
theorem ff_X8_35 : FF RX8 35 8 3 := ⟨_, _, _, rfl, by decide, by decide, zc8, us8, fl_X8_35⟩
theorem fp_X8_35 : FP RX8 35 8 3 true (.object "DeckBalance$Contest") := ⟨_, _, _, tyX8, rfl, by decide, by decide, zc8, us8, fl_X8_35, tyX8_ok, nmX8, rfl, (fun _ => rfl), by decide +kernel⟩
theorem ff_X8_39 : FF RX8 39 8 4 := ⟨_, _, _, rfl, by decide, by decide, zc8, us8, fl_X8_39⟩
theorem fp_X8_39 : FP RX8 39 8 4 true (.object "DeckBalance$Contest") := ⟨_, _, _, tyX8, rfl, by decide, by decide, zc8, us8, fl_X8_39, tyX8_ok, nmX8, rfl, (fun _ => rfl), by decide +kernel⟩
theorem ff_X8_45 : FF RX8 45 8 5 := ⟨_, _, _, rfl, by decide, by decide, zc8, us8, fl_X8_45⟩
theorem fp_X8_45 : FP RX8 45 8 5 true (.object "DeckBalance$Rings") := ⟨_, _, _, tyX8, rfl, by decide, by decide, zc8, us8, fl_X8_45, tyX8_ok, nmX8, rfl, (fun _ => rfl), by decide +kernel⟩
theorem ff_X8_52 : FF RX8 52 8 6 := ⟨_, _, _, rfl, by decide, by decide, zc8, us8, fl_X8_52⟩
theorem fp_X8_52 : FP RX8 52 8 6 true (.object "DeckBalance$Plan") := ⟨_, _, _, tyX8, rfl, by decide, by decide, zc8, us8, fl_X8_52, tyX8_ok, nmX8, rfl, (fun _ => rfl), by decide +kernel⟩
theorem ff_X8_56 : FF RX8 56 8 7 := ⟨_, _, _, rfl, by decide, by decide, zc8, us8, fl_X8_56⟩
theorem fp_X8_56 : FP RX8 56 8 7 true (.array .int) := ⟨_, _, _, tyX8, rfl, by decide, by decide, zc8, us8, fl_X8_56, tyX8_ok, nmX8, rfl, (fun _ => rfl), by decide +kernel⟩
theorem ff_X8_82 : FF RX8 82 8 8 := ⟨_, _, _, rfl, by decide, by decide, zc8, us8, fl_X8_82⟩
theorem fp_X8_82 : FP RX8 82 8 8 false .int := ⟨_, _, _, tyX8, rfl, by decide, by decide, zc8, us8, fl_X8_82, tyX8_ok, nmX8, rfl, (fun h => by cases h), by decide +kernel⟩
theorem ff_X8_60 : FF RX8 60 8 9 := ⟨_, _, _, rfl, by decide, by decide, zc8, us8, fl_X8_60⟩
theorem fp_X8_60 : FP RX8 60 8 9 false .int := ⟨_, _, _, tyX8, rfl, by decide, by decide, zc8, us8, fl_X8_60, tyX8_ok, nmX8, rfl, (fun h => by cases h), by decide +kernel⟩
theorem ff_X8_186 : FF RX8 186 8 10 := ⟨_, _, _, rfl, by decide, by decide, zc8, us8, fl_X8_186⟩
theorem fp_X8_186 : FP RX8 186 8 10 false .boolean := ⟨_, _, _, tyX8, rfl, by decide, by decide, zc8, us8, fl_X8_186, tyX8_ok, nmX8, rfl, (fun h => by cases h), by decide +kernel⟩
theorem ff_X8_190 : FF RX8 190 8 11 := ⟨_, _, _, rfl, by decide, by decide, zc8, us8, fl_X8_190⟩
theorem fp_X8_190 : FP RX8 190 8 11 false .boolean := ⟨_, _, _, tyX8, rfl, by decide, by decide, zc8, us8, fl_X8_190, tyX8_ok, nmX8, rfl, (fun h => by cases h), by decide +kernel⟩
theorem ff_X9_72 : FF RX9 72 9 0 := ⟨_, _, _, rfl, by decide, by decide, zc9, us9, fl_X9_72⟩
theorem fp_X9_72 : FP RX9 72 9 0 false .int := ⟨_, _, _, tyX9, rfl, by decide, by decide, zc9, us9, fl_X9_72, tyX9_ok, nmX9, rfl, (fun h => by cases h), by decide +kernel⟩
theorem ff_X9_7 : FF RX9 7 9 1 := ⟨_, _, _, rfl, by decide, by decide, zc9, us9, fl_X9_7⟩
theorem fp_X9_7 : FP RX9 7 9 1 true (.array .int) := ⟨_, _, _, tyX9, rfl, by decide, by decide, zc9, us9, fl_X9_7, tyX9_ok, nmX9, rfl, (fun _ => rfl), by decide +kernel⟩
theorem ff_X9_13 : FF RX9 13 9 2 := ⟨_, _, _, rfl, by decide, by decide, zc9, us9, fl_X9_13⟩
theorem fp_X9_13 : FP RX9 13 9 2 true (.array .int) := ⟨_, _, _, tyX9, rfl, by decide, by decide, zc9, us9, fl_X9_13, tyX9_ok, nmX9, rfl, (fun _ => rfl), by decide +kernel⟩
theorem ff_X9_16 : FF RX9 16 9 3 := ⟨_, _, _, rfl, by decide, by decide, zc9, us9, fl_X9_16⟩
theorem fp_X9_16 : FP RX9 16 9 3 true (.array .int) := ⟨_, _, _, tyX9, rfl, by decide, by decide, zc9, us9, fl_X9_16, tyX9_ok, nmX9, rfl, (fun _ => rfl), by decide +kernel⟩
theorem ff_X9_79 : FF RX9 79 9 4 := ⟨_, _, _, rfl, by decide, by decide, zc9, us9, fl_X9_79⟩
theorem fp_X9_79 : FP RX9 79 9 4 false .int := ⟨_, _, _, tyX9, rfl, by decide, by decide, zc9, us9, fl_X9_79, tyX9_ok, nmX9, rfl, (fun h => by cases h), by decide +kernel⟩
theorem ff_X9_19 : FF RX9 19 9 5 := ⟨_, _, _, rfl, by decide, by decide, zc9, us9, fl_X9_19⟩
theorem fp_X9_19 : FP RX9 19 9 5 true (.array .int) := ⟨_, _, _, tyX9, rfl, by decide, by decide, zc9, us9, fl_X9_19, tyX9_ok, nmX9, rfl, (fun _ => rfl), by decide +kernel⟩
theorem ff_X9_22 : FF RX9 22 9 6 := ⟨_, _, _, rfl, by decide, by decide, zc9, us9, fl_X9_22⟩
theorem fp_X9_22 : FP RX9 22 9 6 true (.array .int) := ⟨_, _, _, tyX9, rfl, by decide, by decide, zc9, us9, fl_X9_22, tyX9_ok, nmX9, rfl, (fun _ => rfl), by decide +kernel⟩
theorem ff_X9_25 : FF RX9 25 9 7 := ⟨_, _, _, rfl, by decide, by decide, zc9, us9, fl_X9_25⟩
theorem fp_X9_25 : FP RX9 25 9 7 false .int := ⟨_, _, _, tyX9, rfl, by decide, by decide, zc9, us9, fl_X9_25, tyX9_ok, nmX9, rfl, (fun h => by cases h), by decide +kernel⟩
theorem ff_X9_29 : FF RX9 29 9 8 := ⟨_, _, _, rfl, by decide, by decide, zc9, us9, fl_X9_29⟩
theorem fp_X9_29 : FP RX9 29 9 8 true (.array .int) := ⟨_, _, _, tyX9, rfl, by decide, by decide, zc9, us9, fl_X9_29, tyX9_ok, nmX9, rfl, (fun _ => rfl), by decide +kernel⟩
theorem ff_X9_32 : FF RX9 32 9 9 := ⟨_, _, _, rfl, by decide, by decide, zc9, us9, fl_X9_32⟩
theorem fp_X9_32 : FP RX9 32 9 9 true (.array .int) := ⟨_, _, _, tyX9, rfl, by decide, by decide, zc9, us9, fl_X9_32, tyX9_ok, nmX9, rfl, (fun _ => rfl), by decide +kernel⟩
theorem ff_X9_35 : FF RX9 35 9 10 := ⟨_, _, _, rfl, by decide, by decide, zc9, us9, fl_X9_35⟩
theorem fp_X9_35 : FP RX9 35 9 10 true (.array .int) := ⟨_, _, _, tyX9, rfl, by decide, by decide, zc9, us9, fl_X9_35, tyX9_ok, nmX9, rfl, (fun _ => rfl), by decide +kernel⟩
theorem ff_X9_38 : FF RX9 38 9 11 := ⟨_, _, _, rfl, by decide, by decide, zc9, us9, fl_X9_38⟩
theorem fp_X9_38 : FP RX9 38 9 11 true (.array .int) := ⟨_, _, _, tyX9, rfl, by decide, by decide, zc9, us9, fl_X9_38, tyX9_ok, nmX9, rfl, (fun _ => rfl), by decide +kernel⟩
theorem ff_X9_41 : FF RX9 41 9 12 := ⟨_, _, _, rfl, by decide, by decide, zc9, us9, fl_X9_41⟩
theorem fp_X9_41 : FP RX9 41 9 12 true (.array .int) := ⟨_, _, _, tyX9, rfl, by decide, by decide, zc9, us9, fl_X9_41, tyX9_ok, nmX9, rfl, (fun _ => rfl), by decide +kernel⟩
theorem ff_X9_44 : FF RX9 44 9 13 := ⟨_, _, _, rfl, by decide, by decide, zc9, us9, fl_X9_44⟩
theorem fp_X9_44 : FP RX9 44 9 13 true (.array .int) := ⟨_, _, _, tyX9, rfl, by decide, by decide, zc9, us9, fl_X9_44, tyX9_ok, nmX9, rfl, (fun _ => rfl), by decide +kernel⟩
theorem ff_X9_47 : FF RX9 47 9 14 := ⟨_, _, _, rfl, by decide, by decide, zc9, us9, fl_X9_47⟩
theorem fp_X9_47 : FP RX9 47 9 14 true (.array .int) := ⟨_, _, _, tyX9, rfl, by decide, by decide, zc9, us9, fl_X9_47, tyX9_ok, nmX9, rfl, (fun _ => rfl), by decide +kernel⟩
theorem ff_X9_97 : FF RX9 97 9 15 := ⟨_, _, _, rfl, by decide, by decide, zc9, us9, fl_X9_97⟩
theorem fp_X9_97 : FP RX9 97 9 15 false .int := ⟨_, _, _, tyX9, rfl, by decide, by decide, zc9, us9, fl_X9_97, tyX9_ok, nmX9, rfl, (fun h => by cases h), by decide +kernel⟩
theorem ff_X9_50 : FF RX9 50 9 16 := ⟨_, _, _, rfl, by decide, by decide, zc9, us9, fl_X9_50⟩
theorem fp_X9_50 : FP RX9 50 9 16 true (.array .int) := ⟨_, _, _, tyX9, rfl, by decide, by decide, zc9, us9, fl_X9_50, tyX9_ok, nmX9, rfl, (fun _ => rfl), by decide +kernel⟩
theorem ff_X9_131 : FF RX9 131 9 17 := ⟨_, _, _, rfl, by decide, by decide, zc9, us9, fl_X9_131⟩
theorem fp_X9_131 : FP RX9 131 9 17 false .int := ⟨_, _, _, tyX9, rfl, by decide, by decide, zc9, us9, fl_X9_131, tyX9_ok, nmX9, rfl, (fun h => by cases h), by decide +kernel⟩
theorem ff_X9_134 : FF RX9 134 9 18 := ⟨_, _, _, rfl, by decide, by decide, zc9, us9, fl_X9_134⟩
theorem fp_X9_134 : FP RX9 134 9 18 false .int := ⟨_, _, _, tyX9, rfl, by decide, by decide, zc9, us9, fl_X9_134, tyX9_ok, nmX9, rfl, (fun h => by cases h), by decide +kernel⟩
theorem ff_X9_137 : FF RX9 137 9 19 := ⟨_, _, _, rfl, by decide, by decide, zc9, us9, fl_X9_137⟩
theorem fp_X9_137 : FP RX9 137 9 19 false .int := ⟨_, _, _, tyX9, rfl, by decide, by decide, zc9, us9, fl_X9_137, tyX9_ok, nmX9, rfl, (fun h => by cases h), by decide +kernel⟩
theorem ff_X9_53 : FF RX9 53 9 20 := ⟨_, _, _, rfl, by decide, by decide, zc9, us9, fl_X9_53⟩
theorem fp_X9_53 : FP RX9 53 9 20 true (.array .long) := ⟨_, _, _, tyX9, rfl, by decide, by decide, zc9, us9, fl_X9_53, tyX9_ok, nmX9, rfl, (fun _ => rfl), by decide +kernel⟩
theorem ff_X9_57 : FF RX9 57 9 21 := ⟨_, _, _, rfl, by decide, by decide, zc9, us9, fl_X9_57⟩
theorem fp_X9_57 : FP RX9 57 9 21 true (.array .long) := ⟨_, _, _, tyX9, rfl, by decide, by decide, zc9, us9, fl_X9_57, tyX9_ok, nmX9, rfl, (fun _ => rfl), by decide +kernel⟩
theorem ff_X9_60 : FF RX9 60 9 22 := ⟨_, _, _, rfl, by decide, by decide, zc9, us9, fl_X9_60⟩
theorem fp_X9_60 : FP RX9 60 9 22 true (.array .long) := ⟨_, _, _, tyX9, rfl, by decide, by decide, zc9, us9, fl_X9_60, tyX9_ok, nmX9, rfl, (fun _ => rfl), by decide +kernel⟩
theorem ff_X9_63 : FF RX9 63 9 23 := ⟨_, _, _, rfl, by decide, by decide, zc9, us9, fl_X9_63⟩
theorem fp_X9_63 : FP RX9 63 9 23 true (.array .long) := ⟨_, _, _, tyX9, rfl, by decide, by decide, zc9, us9, fl_X9_63, tyX9_ok, nmX9, rfl, (fun _ => rfl), by decide +kernel⟩
theorem ff_X9_66 : FF RX9 66 9 24 := ⟨_, _, _, rfl, by decide, by decide, zc9, us9, fl_X9_66⟩
theorem fp_X9_66 : FP RX9 66 9 24 true (.array .long) := ⟨_, _, _, tyX9, rfl, by decide, by decide, zc9, us9, fl_X9_66, tyX9_ok, nmX9, rfl, (fun _ => rfl), by decide +kernel⟩
theorem ff_X9_69 : FF RX9 69 9 25 := ⟨_, _, _, rfl, by decide, by decide, zc9, us9, fl_X9_69⟩
theorem fp_X9_69 : FP RX9 69 9 25 true (.array .int) := ⟨_, _, _, tyX9, rfl, by decide, by decide, zc9, us9, fl_X9_69, tyX9_ok, nmX9, rfl, (fun _ => rfl), by decide +kernel⟩
theorem fc_L_9 : FC RL 9 yX8_init cX8_init 2 none 0 := ⟨wc_X8_init, ml_L_9, wi_X8, by decide +kernel⟩
theorem fc_X8_25 : FC RX8 25 yX3_init cX3_init 2 none 1 := ⟨wc_X3_init, ml_X8_25, wi_X3, by decide +kernel⟩
theorem fc_X8_34 : FC RX8 34 yX1_init cX1_init 2 none 0 := ⟨wc_X1_init, ml_X8_34, wi_X1, by decide +kernel⟩
theorem fc_L_13 : FC RL 13 yX8_card cX8_card 4 (some .int) 3 := ⟨wc_X8_card, ml_L_13, wi_X8, by decide +kernel⟩
theorem fc_X8_64 : FC RX8 64 yX8_isOutside cX8_isOutside 3 (some .boolean) 3 := ⟨wc_X8_isOutside, ml_X8_64, wi_X8, by decide +kernel⟩
theorem fc_X8_68 : FC RX8 68 yX0_enter cX0_enter 4 (some .int) 3 := ⟨wc_X0_enter, ml_X8_68, wi_X0, by decide +kernel⟩
theorem fc_L_18 : FC RL 18 yX8_power cX8_power 4 (some .int) 2 := ⟨wc_X8_power, ml_L_18, wi_X8, by decide +kernel⟩
theorem fc_X8_72 : FC RX8 72 yX8_isNoCard cX8_isNoCard 2 (some .boolean) 1 := ⟨wc_X8_isNoCard, ml_X8_72, wi_X8, by decide +kernel⟩
theorem fc_X8_79 : FC RX8 79 yX8_forgetTables cX8_forgetTables 1 none 0 := ⟨wc_X8_forgetTables, ml_X8_79, wi_X8, by decide +kernel⟩
theorem fc_L_23 : FC RL 23 yX8_deck cX8_deck 1 (some .int) 0 := ⟨wc_X8_deck, ml_L_23, wi_X8, by decide +kernel⟩
theorem fc_L_28 : FC RL 28 yX8_add cX8_add 3 (some .int) 2 := ⟨wc_X8_add, ml_L_28, wi_X8, by decide +kernel⟩
theorem fc_X8_85 : FC RX8 85 yX8_isNoDeck cX8_isNoDeck 2 (some .boolean) 1 := ⟨wc_X8_isNoDeck, ml_X8_85, wi_X8, by decide +kernel⟩
theorem fc_X8_88 : FC RX8 88 yX2_append cX2_append 2 (some .int) 1 := ⟨wc_X2_append, ml_X8_88, wi_X2, by decide +kernel⟩
theorem fc_L_32 : FC RL 32 yX8_drop cX8_drop 4 (some .int) 2 := ⟨wc_X8_drop, ml_L_32, wi_X8, by decide +kernel⟩
theorem fc_X8_92 : FC RX8 92 yX8_isNoPlace cX8_isNoPlace 3 (some .boolean) 2 := ⟨wc_X8_isNoPlace, ml_X8_92, wi_X8, by decide +kernel⟩
theorem fc_X8_96 : FC RX8 96 yX2_takeOut cX2_takeOut 4 (some .int) 1 := ⟨wc_X2_takeOut, ml_X8_96, wi_X2, by decide +kernel⟩
theorem fc_L_36 : FC RL 36 yX8_swap cX8_swap 4 (some .int) 3 := ⟨wc_X8_swap, ml_L_36, wi_X8, by decide +kernel⟩
theorem fc_X8_99 : FC RX8 99 yX2_exchange cX2_exchange 4 none 2 := ⟨wc_X2_exchange, ml_X8_99, wi_X2, by decide +kernel⟩
theorem fc_L_40 : FC RL 40 yX8_at cX8_at 3 (some .int) 2 := ⟨wc_X8_at, ml_L_40, wi_X8, by decide +kernel⟩
theorem fc_L_44 : FC RL 44 yX8_life cX8_life 3 (some .int) 1 := ⟨wc_X8_life, ml_L_44, wi_X8, by decide +kernel⟩
theorem fc_L_49 : FC RL 49 yX8_play cX8_play 3 (some .int) 2 := ⟨wc_X8_play, ml_L_49, wi_X8, by decide +kernel⟩
theorem fc_X8_106 : FC RX8 106 yX8_learnTables cX8_learnTables 3 none 0 := ⟨wc_X8_learnTables, ml_X8_106, wi_X8, by decide +kernel⟩
theorem fc_X8_193 : FC RX8 193 yX5_lay cX5_lay 5 none 3 := ⟨wc_X5_lay, ml_X8_193, wi_X5, by decide +kernel⟩
theorem fc_X5_31 : FC RX5 31 yX5_draw cX5_draw 3 none 2 := ⟨wc_X5_draw, ml_X5_31, wi_X5, by decide +kernel⟩
theorem fc_X5_35 : FC RX5 35 yJ9_min_7cf53 cJ9_min_7cf53 2 (some .int) 2 := ⟨wc_J9_min_7cf53, ml_X5_35, wi_J9, by decide +kernel⟩
theorem fc_X5_41 : FC RX5 41 yX5_playHand cX5_playHand 6 none 2 := ⟨wc_X5_playHand, ml_X5_41, wi_X5, by decide +kernel⟩
theorem fc_X5_53 : FC RX5 53 yX5_nextPlace cX5_nextPlace 5 (some .int) 2 := ⟨wc_X5_nextPlace, ml_X5_53, wi_X5, by decide +kernel⟩
theorem fc_X5_66 : FC RX5 66 yX0_isPlayedAhead cX0_isPlayedAhead 3 (some .boolean) 2 := ⟨wc_X0_isPlayedAhead, ml_X5_66, wi_X0, by decide +kernel⟩
theorem fc_X5_62 : FC RX5 62 yX5_putDown cX5_putDown 2 none 1 := ⟨wc_X5_putDown, ml_X5_62, wi_X5, by decide +kernel⟩
theorem fc_X8_197 : FC RX8 197 yX8_tableOf cX8_tableOf 3 (some .int) 2 := ⟨wc_X8_tableOf, ml_X8_197, wi_X8, by decide +kernel⟩
theorem fc_X8_113 : FC RX8 113 yX3_resultOf cX3_resultOf 5 (some .int) 3 := ⟨wc_X3_resultOf, ml_X8_113, wi_X3, by decide +kernel⟩
theorem fc_X3_25 : FC RX3 25 yX7_begin cX7_begin 2 none 1 := ⟨wc_X7_begin, ml_X3_25, wi_X7, by decide +kernel⟩
theorem fc_X3_33 : FC RX3 33 yX7_defeats cX7_defeats 7 (some .boolean) 4 := ⟨wc_X7_defeats, ml_X3_33, wi_X7, by decide +kernel⟩
theorem fc_X7_24 : FC RX7 24 yJ9_max_7cf53 cJ9_max_7cf53 2 (some .int) 2 := ⟨wc_J9_max_7cf53, ml_X7_24, wi_J9, by decide +kernel⟩
theorem fc_X7_39 : FC RX7 39 yX7_put cX7_put 4 none 3 := ⟨wc_X7_put, ml_X7_39, wi_X7, by decide +kernel⟩
theorem fc_X3_40 : FC RX3 40 yJ6_compare_7cf53 cJ6_compare_7cf53 2 (some .int) 2 := ⟨wc_J6_compare_7cf53, ml_X3_40, wi_J6, by decide +kernel⟩
theorem fc_X8_201 : FC RX8 201 yX1_enter cX1_enter 4 none 3 := ⟨wc_X1_enter, ml_X8_201, wi_X1, by decide +kernel⟩
theorem fc_X8_204 : FC RX8 204 yX6_find cX6_find 5 none 2 := ⟨wc_X6_find, ml_X8_204, wi_X6, by decide +kernel⟩
theorem fc_X6_19 : FC RX6 19 yX6_findThird cX6_findThird 6 none 4 := ⟨wc_X6_findThird, ml_X6_19, wi_X6, by decide +kernel⟩
theorem fc_L_53 : FC RL 53 yX8_told cX8_told 4 (some .int) 3 := ⟨wc_X8_told, ml_L_53, wi_X8, by decide +kernel⟩
theorem fc_L_57 : FC RL 57 yX8_table cX8_table 3 (some .int) 2 := ⟨wc_X8_table, ml_L_57, wi_X8, by decide +kernel⟩
theorem fc_L_61 : FC RL 61 yX8_rings cX8_rings 1 (some .int) 0 := ⟨wc_X8_rings, ml_L_61, wi_X8, by decide +kernel⟩
theorem fc_L_65 : FC RL 65 yX8_ring cX8_ring 3 (some .int) 2 := ⟨wc_X8_ring, ml_L_65, wi_X8, by decide +kernel⟩
theorem fc_L_69 : FC RL 69 yX8_share cX8_share 6 (some .long) 2 := ⟨wc_X8_share, ml_L_69, wi_X8, by decide +kernel⟩
theorem fc_X8_147 : FC RX8 147 yX8_learnMix cX8_learnMix 1 none 0 := ⟨wc_X8_learnMix, ml_X8_147, wi_X8, by decide +kernel⟩
theorem fc_X8_208 : FC RX8 208 yX4_find cX4_find 7 none 2 := ⟨wc_X4_find, ml_X8_208, wi_X4, by decide +kernel⟩
theorem fc_X4_28 : FC RX4 28 yX4_findMinors cX4_findMinors 6 none 1 := ⟨wc_X4_findMinors, ml_X4_28, wi_X4, by decide +kernel⟩
theorem fc_X4_32 : FC RX4 32 yJ6_bitCount_0f7a4 cJ6_bitCount_0f7a4 1 (some .int) 1 := ⟨wc_J6_bitCount_0f7a4, ml_X4_32, wi_J6, by decide +kernel⟩
theorem fc_X4_53 : FC RX4 53 yX4_minorOf cX4_minorOf 9 (some .int) 3 := ⟨wc_X4_minorOf, ml_X4_53, wi_X4, by decide +kernel⟩
theorem fc_X4_57 : FC RX4 57 yX4_leastOf cX4_leastOf 3 (some .int) 1 := ⟨wc_X4_leastOf, ml_X4_57, wi_X4, by decide +kernel⟩
theorem fc_X4_60 : FC RX4 60 yX4_isIn cX4_isIn 2 (some .boolean) 2 := ⟨wc_X4_isIn, ml_X4_60, wi_X4, by decide +kernel⟩
theorem fc_X4_38 : FC RX4 38 yX4_tryCorner cX4_tryCorner 7 (some .boolean) 2 := ⟨wc_X4_tryCorner, ml_X4_38, wi_X4, by decide +kernel⟩
theorem fc_X4_66 : FC RX4 66 yX4_turnSigns cX4_turnSigns 2 none 0 := ⟨wc_X4_turnSigns, ml_X4_66, wi_X4, by decide +kernel⟩
theorem fc_X4_42 : FC RX4 42 yX4_isHolding cX4_isHolding 5 (some .boolean) 1 := ⟨wc_X4_isHolding, ml_X4_42, wi_X4, by decide +kernel⟩
theorem fc_X4_46 : FC RX4 46 yX4_isGreater cX4_isGreater 3 (some .boolean) 0 := ⟨wc_X4_isGreater, ml_X4_46, wi_X4, by decide +kernel⟩
theorem fc_X4_50 : FC RX4 50 yX4_takeTried cX4_takeTried 2 none 0 := ⟨wc_X4_takeTried, ml_X4_50, wi_X4, by decide +kernel⟩
theorem fc_X8_162 : FC RX8 162 yX8_greatestDivisor cX8_greatestDivisor 6 (some .int) 2 := ⟨wc_X8_greatestDivisor, ml_X8_162, wi_X8, by decide +kernel⟩
theorem fc_L_74 : FC RL 74 yX8_live cX8_live 3 (some .int) 0 := ⟨wc_X8_live, ml_L_74, wi_X8, by decide +kernel⟩
theorem fc_L_78 : FC RL 78 yX8_standing cX8_standing 2 (some .int) 1 := ⟨wc_X8_standing, ml_L_78, wi_X8, by decide +kernel⟩
theorem fc_X8_166 : FC RX8 166 yX8_sumOf cX8_sumOf 4 (some .int) 1 := ⟨wc_X8_sumOf, ml_X8_166, wi_X8, by decide +kernel⟩
theorem fc_L_82 : FC RL 82 yX8_worth cX8_worth 3 (some .int) 2 := ⟨wc_X8_worth, ml_L_82, wi_X8, by decide +kernel⟩
theorem fc_X8_170 : FC RX8 170 yX2_firstPlaceOf cX2_firstPlaceOf 3 (some .int) 1 := ⟨wc_X2_firstPlaceOf, ml_X8_170, wi_X2, by decide +kernel⟩
theorem fc_X8_173 : FC RX8 173 yX8_learnTablesWithout cX8_learnTablesWithout 4 none 2 := ⟨wc_X8_learnTablesWithout, ml_X8_173, wi_X8, by decide +kernel⟩
theorem fc_L_86 : FC RL 86 yX8_idle cX8_idle 4 (some .int) 2 := ⟨wc_X8_idle, ml_L_86, wi_X8, by decide +kernel⟩
theorem fc_L_90 : FC RL 90 yX8_remedy cX8_remedy 7 (some .int) 2 := ⟨wc_X8_remedy, ml_L_90, wi_X8, by decide +kernel⟩
theorem fc_X8_177 : FC RX8 177 yX8_isMixWithin cX8_isMixWithin 6 (some .boolean) 4 := ⟨wc_X8_isMixWithin, ml_X8_177, wi_X8, by decide +kernel⟩
theorem fc_X8_209 : FC RX8 209 yX8_learnTrialTables cX8_learnTrialTables 5 none 1 := ⟨wc_X8_learnTrialTables, ml_X8_209, wi_X8, by decide +kernel⟩
theorem fc_X8_220 : FC RX8 220 yX8_hasCard cX8_hasCard 3 (some .boolean) 2 := ⟨wc_X8_hasCard, ml_X8_220, wi_X8, by decide +kernel⟩
theorem fc_X8_223 : FC RX8 223 yX8_trialPlan cX8_trialPlan 3 (some (.object "DeckBalance$Plan")) 2 := ⟨wc_X8_trialPlan, ml_X8_223, wi_X8, by decide +kernel⟩
theorem fc_X8_213 : FC RX8 213 yX1_hasTablesOf cX1_hasTablesOf 5 (some .boolean) 2 := ⟨wc_X1_hasTablesOf, ml_X8_213, wi_X1, by decide +kernel⟩
theorem fc_X8_217 : FC RX8 217 yX4_isWithin cX4_isWithin 4 (some .boolean) 2 := ⟨wc_X4_isWithin, ml_X8_217, wi_X4, by decide +kernel⟩
theorem fc_L_94 : FC RL 94 yX8_count cX8_count 2 (some .int) 1 := ⟨wc_X8_count, ml_L_94, wi_X8, by decide +kernel⟩
theorem fc_X8_181 : FC RX8 181 yX8_cardsInDecks cX8_cardsInDecks 3 (some .int) 0 := ⟨wc_X8_cardsInDecks, ml_X8_181, wi_X8, by decide +kernel⟩
theorem fc_L_12 : FC RL 12 yX9_init cX9_init 1 none 0 := ⟨wc_X9_init, ml_L_12, wi_X9, by decide +kernel⟩
theorem fc_L_17 : FC RL 17 yX9_card cX9_card 4 (some .int) 3 := ⟨wc_X9_card, ml_L_17, wi_X9, by decide +kernel⟩
theorem fc_X9_75 : FC RX9 75 yX9_in cX9_in 3 (some .boolean) 3 := ⟨wc_X9_in, ml_X9_75, wi_X9, by decide +kernel⟩
theorem fc_L_22 : FC RL 22 yX9_power cX9_power 4 (some .int) 2 := ⟨wc_X9_power, ml_L_22, wi_X9, by decide +kernel⟩
theorem fc_X9_82 : FC RX9 82 yX9_isCard cX9_isCard 2 (some .boolean) 1 := ⟨wc_X9_isCard, ml_X9_82, wi_X9, by decide +kernel⟩
theorem fc_L_27 : FC RL 27 yX9_deck cX9_deck 1 (some .int) 0 := ⟨wc_X9_deck, ml_L_27, wi_X9, by decide +kernel⟩
theorem fc_L_31 : FC RL 31 yX9_add cX9_add 3 (some .int) 2 := ⟨wc_X9_add, ml_L_31, wi_X9, by decide +kernel⟩
theorem fc_X9_86 : FC RX9 86 yX9_isDeck cX9_isDeck 2 (some .boolean) 1 := ⟨wc_X9_isDeck, ml_X9_86, wi_X9, by decide +kernel⟩
theorem fc_L_35 : FC RL 35 yX9_drop cX9_drop 4 (some .int) 2 := ⟨wc_X9_drop, ml_L_35, wi_X9, by decide +kernel⟩
theorem fc_X9_89 : FC RX9 89 yX9_isPlace cX9_isPlace 3 (some .boolean) 2 := ⟨wc_X9_isPlace, ml_X9_89, wi_X9, by decide +kernel⟩
theorem fc_X9_93 : FC RX9 93 yX9_dropAt cX9_dropAt 4 none 2 := ⟨wc_X9_dropAt, ml_X9_93, wi_X9, by decide +kernel⟩
theorem fc_L_39 : FC RL 39 yX9_swap cX9_swap 5 (some .int) 3 := ⟨wc_X9_swap, ml_L_39, wi_X9, by decide +kernel⟩
theorem fc_L_43 : FC RL 43 yX9_at cX9_at 3 (some .int) 2 := ⟨wc_X9_at, ml_L_43, wi_X9, by decide +kernel⟩
theorem fc_L_48 : FC RL 48 yX9_life cX9_life 3 (some .int) 1 := ⟨wc_X9_life, ml_L_48, wi_X9, by decide +kernel⟩
theorem fc_L_52 : FC RL 52 yX9_play cX9_play 3 (some .int) 2 := ⟨wc_X9_play, ml_L_52, wi_X9, by decide +kernel⟩
theorem fc_X9_118 : FC RX9 118 yX9_result cX9_result 3 (some .int) 2 := ⟨wc_X9_result, ml_X9_118, wi_X9, by decide +kernel⟩
theorem fc_X9_115 : FC RX9 115 yX9_game cX9_game 4 none 2 := ⟨wc_X9_game, ml_X9_115, wi_X9, by decide +kernel⟩
theorem fc_X9_104 : FC RX9 104 yX9_isOver cX9_isOver 1 (some .boolean) 0 := ⟨wc_X9_isOver, ml_X9_104, wi_X9, by decide +kernel⟩
theorem fc_X9_111 : FC RX9 111 yX9_move cX9_move 6 none 1 := ⟨wc_X9_move, ml_X9_111, wi_X9, by decide +kernel⟩
theorem fc_X9_100 : FC RX9 100 yX9_nextCard cX9_nextCard 6 (some .int) 2 := ⟨wc_X9_nextCard, ml_X9_100, wi_X9, by decide +kernel⟩
theorem fc_X9_108 : FC RX9 108 yX9_playCard cX9_playCard 3 none 2 := ⟨wc_X9_playCard, ml_X9_108, wi_X9, by decide +kernel⟩
theorem fc_L_56 : FC RL 56 yX9_told cX9_told 4 (some .int) 3 := ⟨wc_X9_told, ml_L_56, wi_X9, by decide +kernel⟩
theorem fc_L_60 : FC RL 60 yX9_table cX9_table 3 (some .int) 2 := ⟨wc_X9_table, ml_L_60, wi_X9, by decide +kernel⟩
theorem fc_X9_122 : FC RX9 122 yX9_tableOf cX9_tableOf 3 (some .int) 2 := ⟨wc_X9_tableOf, ml_X9_122, wi_X9, by decide +kernel⟩
theorem fc_L_64 : FC RL 64 yX9_rings cX9_rings 1 (some .int) 0 := ⟨wc_X9_rings, ml_L_64, wi_X9, by decide +kernel⟩
theorem fc_X9_140 : FC RX9 140 yX9_findRings cX9_findRings 6 (some .int) 1 := ⟨wc_X9_findRings, ml_X9_140, wi_X9, by decide +kernel⟩
theorem fc_X9_125 : FC RX9 125 yX9_layTables cX9_layTables 3 none 0 := ⟨wc_X9_layTables, ml_X9_125, wi_X9, by decide +kernel⟩
theorem fc_X9_128 : FC RX9 128 yX9_beats cX9_beats 3 (some .boolean) 2 := ⟨wc_X9_beats, ml_X9_128, wi_X9, by decide +kernel⟩
theorem fc_L_68 : FC RL 68 yX9_ring cX9_ring 3 (some .int) 2 := ⟨wc_X9_ring, ml_L_68, wi_X9, by decide +kernel⟩
theorem fc_L_73 : FC RL 73 yX9_share cX9_share 3 (some .long) 2 := ⟨wc_X9_share, ml_L_73, wi_X9, by decide +kernel⟩
theorem fc_X9_174 : FC RX9 174 yX9_findMix cX9_findMix 3 none 0 := ⟨wc_X9_findMix, ml_X9_174, wi_X9, by decide +kernel⟩
theorem fc_X9_157 : FC RX9 157 yX9_ones cX9_ones 3 (some .int) 1 := ⟨wc_X9_ones, ml_X9_157, wi_X9, by decide +kernel⟩
theorem fc_X9_160 : FC RX9 160 yX9_layBounds cX9_layBounds 5 none 1 := ⟨wc_X9_layBounds, ml_X9_160, wi_X9, by decide +kernel⟩
theorem fc_X9_163 : FC RX9 163 yX9_solve cX9_solve 8 (some .boolean) 0 := ⟨wc_X9_solve, ml_X9_163, wi_X9, by decide +kernel⟩
theorem fc_X9_148 : FC RX9 148 yX9_changeRows cX9_changeRows 6 none 2 := ⟨wc_X9_changeRows, ml_X9_148, wi_X9, by decide +kernel⟩
theorem fc_X9_151 : FC RX9 151 yX9_clearRow cX9_clearRow 11 none 3 := ⟨wc_X9_clearRow, ml_X9_151, wi_X9, by decide +kernel⟩
theorem fc_X9_144 : FC RX9 144 yX9_divisor cX9_divisor 10 (some .long) 2 := ⟨wc_X9_divisor, ml_X9_144, wi_X9, by decide +kernel⟩
theorem fc_X9_166 : FC RX9 166 yX9_holds cX9_holds 8 (some .boolean) 0 := ⟨wc_X9_holds, ml_X9_166, wi_X9, by decide +kernel⟩
theorem fc_X9_169 : FC RX9 169 yX9_isGreater cX9_isGreater 4 (some .boolean) 0 := ⟨wc_X9_isGreater, ml_X9_169, wi_X9, by decide +kernel⟩
theorem fc_L_77 : FC RL 77 yX9_live cX9_live 3 (some .int) 0 := ⟨wc_X9_live, ml_L_77, wi_X9, by decide +kernel⟩
theorem fc_L_81 : FC RL 81 yX9_standing cX9_standing 2 (some .int) 1 := ⟨wc_X9_standing, ml_L_81, wi_X9, by decide +kernel⟩
theorem fc_X9_177 : FC RX9 177 yX9_standingOf cX9_standingOf 4 (some .int) 1 := ⟨wc_X9_standingOf, ml_X9_177, wi_X9, by decide +kernel⟩
theorem fc_L_85 : FC RL 85 yX9_worth cX9_worth 6 (some .int) 2 := ⟨wc_X9_worth, ml_L_85, wi_X9, by decide +kernel⟩
theorem fc_X9_180 : FC RX9 180 yX9_placeOf cX9_placeOf 4 (some .int) 2 := ⟨wc_X9_placeOf, ml_X9_180, wi_X9, by decide +kernel⟩
theorem fc_X9_183 : FC RX9 183 yX9_putBack cX9_putBack 5 none 3 := ⟨wc_X9_putBack, ml_X9_183, wi_X9, by decide +kernel⟩
theorem fc_L_89 : FC RL 89 yX9_idle cX9_idle 6 (some .int) 2 := ⟨wc_X9_idle, ml_L_89, wi_X9, by decide +kernel⟩
theorem fc_L_93 : FC RL 93 yX9_remedy cX9_remedy 9 (some .int) 2 := ⟨wc_X9_remedy, ml_L_93, wi_X9, by decide +kernel⟩
theorem fc_X9_186 : FC RX9 186 yX9_isRemedied cX9_isRemedied 5 (some .boolean) 2 := ⟨wc_X9_isRemedied, ml_X9_186, wi_X9, by decide +kernel⟩
theorem fc_L_97 : FC RL 97 yX9_count cX9_count 4 (some .int) 1 := ⟨wc_X9_count, ml_L_97, wi_X9, by decide +kernel⟩
end
section
/-! the finished world: 110 cells, their references as z_rf; contracts that make nothing -/
abbrev ZP : Type := Option Value → ZM → ZM → Prop
abbrev zq (Q : Nat → Nat) (P : ZP) : ZQ := fun v n Q' MR MI ML => n = 110 ∧ Q' = Q ∧ MR = z_rf ∧ P v MI ML
abbrev zI (P : Int → ZM → ZM → Prop) : ZP := fun v M L => ∃ r, v = some (.int (iI r)) ∧ P r M L
abbrev zL (P : Int → ZM → ZM → Prop) : ZP := fun v M L => ∃ r, v = some (.long (lJ r)) ∧ P r M L
abbrev zV (P : ZM → ZM → Prop) : ZP := fun v M L => v = none ∧ P M L
abbrev zF (Q : Nat → Nat) (P : Nat → ZM → ZM → Prop) : ZP := fun v M L => ∃ k, v = some (.ref (Q k)) ∧ P k M L
section VPOST
variable {X : VX} {Q : Nat → Nat} {MI ML : ZM} {pc : Nat} {lv : List (Nat × Value)} {st st0 : List Value} {cc : ByteArray} {own : String} {nL : Nat} {ret : Option FieldType} {fr lo : Nat}
variable {y : MethodName} {cy : ByteArray} {nLy : Nat} {rety : Option FieldType} {fry loy na idx b : Nat} {As : List Value}
theorem v_ri (K : VK X cc own nL (some .int) fr lo 0 0) {P : Int → ZM → ZM → Prop} (E : VE X 0 0 110 Q (zq Q (zI P))) {z : Int} (hd : decode cc pc = .ok (.ireturn, 1)) (h : P z MI ML) : V X (0, 0) 110 Q z_rf MI ML pc lv [.int (iI z)] := v_iret K E hd ⟨rfl, rfl, rfl, z, rfl, h⟩
theorem v_rz (K : VK X cc own nL (some .boolean) fr lo 0 0) {P : Int → ZM → ZM → Prop} (E : VE X 0 0 110 Q (zq Q (zI P))) {z : Int} (hz : z = 0 ∨ z = 1) (hd : decode cc pc = .ok (.ireturn, 1)) (h : P z MI ML) : V X (0, 0) 110 Q z_rf MI ML pc lv [.int (iI z)] := v_zret K E hz hd ⟨rfl, rfl, rfl, z, rfl, h⟩
theorem v_rl (K : VK X cc own nL (some .long) fr lo 0 0) {P : Int → ZM → ZM → Prop} (E : VE X 0 0 110 Q (zq Q (zL P))) {z : Int} (hd : decode cc pc = .ok (.lreturn, 1)) (h : P z MI ML) : V X (0, 0) 110 Q z_rf MI ML pc lv [.long (lJ z)] := v_lret K E hd ⟨rfl, rfl, rfl, z, rfl, h⟩
theorem v_rv (K : VK X cc own nL none fr lo 0 0) {P : ZM → ZM → Prop} (E : VE X 0 0 110 Q (zq Q (zV P))) (hd : decode cc pc = .ok (.return_, 1)) (h : P MI ML) : V X (0, 0) 110 Q z_rf MI ML pc lv [] := v_ret K E hd ⟨rfl, rfl, rfl, rfl, h⟩
theorem v_rr {C : String} (K : VK X cc own nL (some (.object C)) fr lo 0 0) {P : Nat → ZM → ZM → Prop} (E : VE X 0 0 110 Q (zq Q (zF Q P))) {k : Nat} (hd : decode cc pc = .ok (.areturn, 1)) (h : P k MI ML) : V X (0, 0) 110 Q z_rf MI ML pc lv [.ref (Q k)] := v_aret K E hd ⟨rfl, rfl, rfl, k, rfl, h⟩
theorem v_cVi (K : VK X cc own nL ret fr lo 0 0) {P : Int → ZM → ZM → Prop} (hM : CM X.2.1 y cy nLy rety fry loy 0 0 X.2.2.2.2.2.2.2.2.2.2.2.1 X.2.2.2.2.2.2.2.2.2.2.2.2.1 110 Q z_rf (.ref (Q b) :: As) MI ML (zq Q (zI P))) (hst : st0 = As.reverse ++ .ref (Q b) :: st) (f : FC own idx y cy nLy rety na) (fi : Cond.instanceMethod y ∈ wsL) (fs : Cond.selects y.cls y y ∈ wsL) (hb : b < 110) (ci : Nat) (hkd : z_kd b = ci) (hci : ci < 10) (hc : (vwCl[ci]?).map (fun q => q.1) = some y.cls) (hn : As.length = na) (hrm : fry + 1 ≤ fr ∧ 8 + (nLy + 11) + loy ≤ lo) (hw : (st.map fun v => v.category).sum ≤ 8) (hd : decode cc pc = .ok (.invokevirtual idx, 3))
    (kk : ∀ r M L, P r M L → V X (0, 0) 110 Q z_rf M L (pc + 3) lv (.int (iI r) :: st)) : V X (0, 0) 110 Q z_rf MI ML pc lv st0 := by
  subst hst
  refine v_callV K hM f fi fs hb ci hkd hci hc hn ⟨hrm.1, hrm.2, Nat.le_refl _, Nat.le_refl _⟩ hw hd ?_
  rintro v n' Q' MR' M L ⟨rfl, rfl, rfl, r, rfl, h⟩
  exact kk r M L h
theorem v_cVl (K : VK X cc own nL ret fr lo 0 0) {P : Int → ZM → ZM → Prop} (hM : CM X.2.1 y cy nLy rety fry loy 0 0 X.2.2.2.2.2.2.2.2.2.2.2.1 X.2.2.2.2.2.2.2.2.2.2.2.2.1 110 Q z_rf (.ref (Q b) :: As) MI ML (zq Q (zL P))) (hst : st0 = As.reverse ++ .ref (Q b) :: st) (f : FC own idx y cy nLy rety na) (fi : Cond.instanceMethod y ∈ wsL) (fs : Cond.selects y.cls y y ∈ wsL) (hb : b < 110) (ci : Nat) (hkd : z_kd b = ci) (hci : ci < 10) (hc : (vwCl[ci]?).map (fun q => q.1) = some y.cls) (hn : As.length = na) (hrm : fry + 1 ≤ fr ∧ 8 + (nLy + 11) + loy ≤ lo) (hw : (st.map fun v => v.category).sum ≤ 8) (hd : decode cc pc = .ok (.invokevirtual idx, 3))
    (kk : ∀ r M L, P r M L → V X (0, 0) 110 Q z_rf M L (pc + 3) lv (.long (lJ r) :: st)) : V X (0, 0) 110 Q z_rf MI ML pc lv st0 := by
  subst hst
  refine v_callV K hM f fi fs hb ci hkd hci hc hn ⟨hrm.1, hrm.2, Nat.le_refl _, Nat.le_refl _⟩ hw hd ?_
  rintro v n' Q' MR' M L ⟨rfl, rfl, rfl, r, rfl, h⟩
  exact kk r M L h
theorem v_cVv (K : VK X cc own nL ret fr lo 0 0) {P : ZM → ZM → Prop} (hM : CM X.2.1 y cy nLy rety fry loy 0 0 X.2.2.2.2.2.2.2.2.2.2.2.1 X.2.2.2.2.2.2.2.2.2.2.2.2.1 110 Q z_rf (.ref (Q b) :: As) MI ML (zq Q (zV P))) (hst : st0 = As.reverse ++ .ref (Q b) :: st) (f : FC own idx y cy nLy rety na) (fi : Cond.instanceMethod y ∈ wsL) (fs : Cond.selects y.cls y y ∈ wsL) (hb : b < 110) (ci : Nat) (hkd : z_kd b = ci) (hci : ci < 10) (hc : (vwCl[ci]?).map (fun q => q.1) = some y.cls) (hn : As.length = na) (hrm : fry + 1 ≤ fr ∧ 8 + (nLy + 11) + loy ≤ lo) (hw : (st.map fun v => v.category).sum ≤ 8) (hd : decode cc pc = .ok (.invokevirtual idx, 3))
    (kk : ∀ M L, P M L → V X (0, 0) 110 Q z_rf M L (pc + 3) lv st) : V X (0, 0) 110 Q z_rf MI ML pc lv st0 := by
  subst hst
  refine v_callV K hM f fi fs hb ci hkd hci hc hn ⟨hrm.1, hrm.2, Nat.le_refl _, Nat.le_refl _⟩ hw hd ?_
  rintro v n' Q' MR' M L ⟨rfl, rfl, rfl, rfl, h⟩
  exact kk M L h
theorem v_cVr (K : VK X cc own nL ret fr lo 0 0) {P : Nat → ZM → ZM → Prop} (hM : CM X.2.1 y cy nLy rety fry loy 0 0 X.2.2.2.2.2.2.2.2.2.2.2.1 X.2.2.2.2.2.2.2.2.2.2.2.2.1 110 Q z_rf (.ref (Q b) :: As) MI ML (zq Q (zF Q P))) (hst : st0 = As.reverse ++ .ref (Q b) :: st) (f : FC own idx y cy nLy rety na) (fi : Cond.instanceMethod y ∈ wsL) (fs : Cond.selects y.cls y y ∈ wsL) (hb : b < 110) (ci : Nat) (hkd : z_kd b = ci) (hci : ci < 10) (hc : (vwCl[ci]?).map (fun q => q.1) = some y.cls) (hn : As.length = na) (hrm : fry + 1 ≤ fr ∧ 8 + (nLy + 11) + loy ≤ lo) (hw : (st.map fun v => v.category).sum ≤ 8) (hd : decode cc pc = .ok (.invokevirtual idx, 3))
    (kk : ∀ k M L, P k M L → V X (0, 0) 110 Q z_rf M L (pc + 3) lv (.ref (Q k) :: st)) : V X (0, 0) 110 Q z_rf MI ML pc lv st0 := by
  subst hst
  refine v_callV K hM f fi fs hb ci hkd hci hc hn ⟨hrm.1, hrm.2, Nat.le_refl _, Nat.le_refl _⟩ hw hd ?_
  rintro v n' Q' MR' M L ⟨rfl, rfl, rfl, r, rfl, h⟩
  exact kk r M L h
theorem v_cSi (K : VK X cc own nL ret fr lo 0 0) {P : Int → ZM → ZM → Prop} (hM : CM X.2.1 y cy nLy rety fry loy 0 0 X.2.2.2.2.2.2.2.2.2.2.2.1 X.2.2.2.2.2.2.2.2.2.2.2.2.1 110 Q z_rf As MI ML (zq Q (zI P))) (hst : st0 = As.reverse ++ st) (f : FC own idx y cy nLy rety na) (fs : Cond.static y ∈ wsL) (hn : As.length = na) (hrm : fry + 1 ≤ fr ∧ 8 + (nLy + 11) + loy ≤ lo) (hw : (st.map fun v => v.category).sum ≤ 8) (hd : decode cc pc = .ok (.invokestatic idx, 3))
    (kk : ∀ r M L, P r M L → V X (0, 0) 110 Q z_rf M L (pc + 3) lv (.int (iI r) :: st)) : V X (0, 0) 110 Q z_rf MI ML pc lv st0 := by
  subst hst
  refine v_callS K hM f fs hn ⟨hrm.1, hrm.2, Nat.le_refl _, Nat.le_refl _⟩ hw hd ?_
  rintro v n' Q' MR' M L ⟨rfl, rfl, rfl, r, rfl, h⟩
  exact kk r M L h
theorem v_cSl (K : VK X cc own nL ret fr lo 0 0) {P : Int → ZM → ZM → Prop} (hM : CM X.2.1 y cy nLy rety fry loy 0 0 X.2.2.2.2.2.2.2.2.2.2.2.1 X.2.2.2.2.2.2.2.2.2.2.2.2.1 110 Q z_rf As MI ML (zq Q (zL P))) (hst : st0 = As.reverse ++ st) (f : FC own idx y cy nLy rety na) (fs : Cond.static y ∈ wsL) (hn : As.length = na) (hrm : fry + 1 ≤ fr ∧ 8 + (nLy + 11) + loy ≤ lo) (hw : (st.map fun v => v.category).sum ≤ 8) (hd : decode cc pc = .ok (.invokestatic idx, 3))
    (kk : ∀ r M L, P r M L → V X (0, 0) 110 Q z_rf M L (pc + 3) lv (.long (lJ r) :: st)) : V X (0, 0) 110 Q z_rf MI ML pc lv st0 := by
  subst hst
  refine v_callS K hM f fs hn ⟨hrm.1, hrm.2, Nat.le_refl _, Nat.le_refl _⟩ hw hd ?_
  rintro v n' Q' MR' M L ⟨rfl, rfl, rfl, r, rfl, h⟩
  exact kk r M L h
end VPOST
section VEQ
variable {X : VX} {cs : Nat × Nat} {n : Nat} {Q : Nat → Nat} {MR : ZR} {MI ML : ZM} {pc : Nat} {lv : List (Nat × Value)} {st : List Value}
theorem v_eqi {z : Int} (x : Int) (h : z = x) (k : V X cs n Q MR MI ML pc lv (.int (iI x) :: st)) : V X cs n Q MR MI ML pc lv (.int (iI z) :: st) := h ▸ k
theorem v_eql {z : Int} (x : Int) (h : z = x) (k : V X cs n Q MR MI ML pc lv (.long (lJ x) :: st)) : V X cs n Q MR MI ML pc lv (.long (lJ z) :: st) := h ▸ k
theorem v_nmi {z : Int} (k : ∀ x, x = z → V X cs n Q MR MI ML pc lv (.int (iI x) :: st)) : V X cs n Q MR MI ML pc lv (.int (iI z) :: st) := k z rfl
theorem v_eqM {M : ZM} (h : MI = M) (k : V X cs n Q MR M ML pc lv st) : V X cs n Q MR MI ML pc lv st := h ▸ k
end VEQ
theorem zr_decks {j : Nat} (h : j < 5) : z_rf 5 j = some (6 + 2 * j) := (by decide +kernel : ∀ j, j < 5 → z_rf 5 j = some (6 + 2 * j)) j h
theorem zr_np {j : Nat} (h : j < 5) : z_rf 20 j = some (31 + 4 * j) := (by decide +kernel : ∀ j, j < 5 → z_rf 20 j = some (31 + 4 * j)) j h
theorem zr_tp {j : Nat} (h : j < 5) : z_rf 52 j = some (63 + 4 * j) := (by decide +kernel : ∀ j, j < 5 → z_rf 52 j = some (63 + 4 * j)) j h
theorem zr_nt {j : Nat} (h : j < 5) : z_rf 21 j = some (22 + j) := (by decide +kernel : ∀ j, j < 5 → z_rf 21 j = some (22 + j)) j h
theorem zr_tt {j : Nat} (h : j < 5) : z_rf 53 j = some (54 + j) := (by decide +kernel : ∀ j, j < 5 → z_rf 53 j = some (54 + j)) j h

abbrev C_X0_enter (l : Launch) (D : va_G) (Z : ZC) (Q : Nat → Nat) (As : List Value) (MI ML : ZM) (P : ZP) : Prop := CM l yX0_enter cX0_enter 4 (some .int) 0 0 0 0 D Z 110 Q z_rf As MI ML (zq Q P)
abbrev C_X0_isPlayedAhead (l : Launch) (D : va_G) (Z : ZC) (Q : Nat → Nat) (As : List Value) (MI ML : ZM) (P : ZP) : Prop := CM l yX0_isPlayedAhead cX0_isPlayedAhead 3 (some .boolean) 0 0 0 0 D Z 110 Q z_rf As MI ML (zq Q P)
abbrev C_X1_enter (l : Launch) (D : va_G) (Z : ZC) (Q : Nat → Nat) (As : List Value) (MI ML : ZM) (P : ZP) : Prop := CM l yX1_enter cX1_enter 4 none 0 0 0 0 D Z 110 Q z_rf As MI ML (zq Q P)
abbrev C_X1_hasTablesOf (l : Launch) (D : va_G) (Z : ZC) (Q : Nat → Nat) (As : List Value) (MI ML : ZM) (P : ZP) : Prop := CM l yX1_hasTablesOf cX1_hasTablesOf 5 (some .boolean) 0 0 0 0 D Z 110 Q z_rf As MI ML (zq Q P)
abbrev C_X2_append (l : Launch) (D : va_G) (Z : ZC) (Q : Nat → Nat) (As : List Value) (MI ML : ZM) (P : ZP) : Prop := CM l yX2_append cX2_append 2 (some .int) 0 0 0 0 D Z 110 Q z_rf As MI ML (zq Q P)
abbrev C_X2_takeOut (l : Launch) (D : va_G) (Z : ZC) (Q : Nat → Nat) (As : List Value) (MI ML : ZM) (P : ZP) : Prop := CM l yX2_takeOut cX2_takeOut 4 (some .int) 0 0 0 0 D Z 110 Q z_rf As MI ML (zq Q P)
abbrev C_X2_exchange (l : Launch) (D : va_G) (Z : ZC) (Q : Nat → Nat) (As : List Value) (MI ML : ZM) (P : ZP) : Prop := CM l yX2_exchange cX2_exchange 4 none 0 0 0 0 D Z 110 Q z_rf As MI ML (zq Q P)
abbrev C_X2_firstPlaceOf (l : Launch) (D : va_G) (Z : ZC) (Q : Nat → Nat) (As : List Value) (MI ML : ZM) (P : ZP) : Prop := CM l yX2_firstPlaceOf cX2_firstPlaceOf 3 (some .int) 0 0 0 0 D Z 110 Q z_rf As MI ML (zq Q P)
abbrev C_X3_resultOf (l : Launch) (D : va_G) (Z : ZC) (Q : Nat → Nat) (As : List Value) (MI ML : ZM) (P : ZP) : Prop := CM l yX3_resultOf cX3_resultOf 5 (some .int) 2 49 0 0 D Z 110 Q z_rf As MI ML (zq Q P)
abbrev C_X4_find (l : Launch) (D : va_G) (Z : ZC) (Q : Nat → Nat) (As : List Value) (MI ML : ZM) (P : ZP) : Prop := CM l yX4_find cX4_find 7 none 4 96 0 0 D Z 110 Q z_rf As MI ML (zq Q P)
abbrev C_X4_isWithin (l : Launch) (D : va_G) (Z : ZC) (Q : Nat → Nat) (As : List Value) (MI ML : ZM) (P : ZP) : Prop := CM l yX4_isWithin cX4_isWithin 4 (some .boolean) 0 0 0 0 D Z 110 Q z_rf As MI ML (zq Q P)
abbrev C_X4_findMinors (l : Launch) (D : va_G) (Z : ZC) (Q : Nat → Nat) (As : List Value) (MI ML : ZM) (P : ZP) : Prop := CM l yX4_findMinors cX4_findMinors 6 none 3 71 0 0 D Z 110 Q z_rf As MI ML (zq Q P)
abbrev C_X4_minorOf (l : Launch) (D : va_G) (Z : ZC) (Q : Nat → Nat) (As : List Value) (MI ML : ZM) (P : ZP) : Prop := CM l yX4_minorOf cX4_minorOf 9 (some .int) 2 43 0 0 D Z 110 Q z_rf As MI ML (zq Q P)
abbrev C_X4_leastOf (l : Launch) (D : va_G) (Z : ZC) (Q : Nat → Nat) (As : List Value) (MI ML : ZM) (P : ZP) : Prop := CM l yX4_leastOf cX4_leastOf 3 (some .int) 1 21 0 0 D Z 110 Q z_rf As MI ML (zq Q P)
abbrev C_X4_isIn (l : Launch) (D : va_G) (Z : ZC) (Q : Nat → Nat) (As : List Value) (MI ML : ZM) (P : ZP) : Prop := CM l yX4_isIn cX4_isIn 2 (some .boolean) 0 0 0 0 D Z 110 Q z_rf As MI ML (zq Q P)
abbrev C_X4_tryCorner (l : Launch) (D : va_G) (Z : ZC) (Q : Nat → Nat) (As : List Value) (MI ML : ZM) (P : ZP) : Prop := CM l yX4_tryCorner cX4_tryCorner 7 (some .boolean) 1 21 0 0 D Z 110 Q z_rf As MI ML (zq Q P)
abbrev C_X4_turnSigns (l : Launch) (D : va_G) (Z : ZC) (Q : Nat → Nat) (As : List Value) (MI ML : ZM) (P : ZP) : Prop := CM l yX4_turnSigns cX4_turnSigns 2 none 0 0 0 0 D Z 110 Q z_rf As MI ML (zq Q P)
abbrev C_X4_isHolding (l : Launch) (D : va_G) (Z : ZC) (Q : Nat → Nat) (As : List Value) (MI ML : ZM) (P : ZP) : Prop := CM l yX4_isHolding cX4_isHolding 5 (some .boolean) 0 0 0 0 D Z 110 Q z_rf As MI ML (zq Q P)
abbrev C_X4_isGreater (l : Launch) (D : va_G) (Z : ZC) (Q : Nat → Nat) (As : List Value) (MI ML : ZM) (P : ZP) : Prop := CM l yX4_isGreater cX4_isGreater 3 (some .boolean) 0 0 0 0 D Z 110 Q z_rf As MI ML (zq Q P)
abbrev C_X4_takeTried (l : Launch) (D : va_G) (Z : ZC) (Q : Nat → Nat) (As : List Value) (MI ML : ZM) (P : ZP) : Prop := CM l yX4_takeTried cX4_takeTried 2 none 0 0 0 0 D Z 110 Q z_rf As MI ML (zq Q P)
abbrev C_X5_lay (l : Launch) (D : va_G) (Z : ZC) (Q : Nat → Nat) (As : List Value) (MI ML : ZM) (P : ZP) : Prop := CM l yX5_lay cX5_lay 5 none 3 71 0 0 D Z 110 Q z_rf As MI ML (zq Q P)
abbrev C_X5_draw (l : Launch) (D : va_G) (Z : ZC) (Q : Nat → Nat) (As : List Value) (MI ML : ZM) (P : ZP) : Prop := CM l yX5_draw cX5_draw 3 none 0 0 0 0 D Z 110 Q z_rf As MI ML (zq Q P)
abbrev C_X5_playHand (l : Launch) (D : va_G) (Z : ZC) (Q : Nat → Nat) (As : List Value) (MI ML : ZM) (P : ZP) : Prop := CM l yX5_playHand cX5_playHand 6 none 2 46 0 0 D Z 110 Q z_rf As MI ML (zq Q P)
abbrev C_X5_nextPlace (l : Launch) (D : va_G) (Z : ZC) (Q : Nat → Nat) (As : List Value) (MI ML : ZM) (P : ZP) : Prop := CM l yX5_nextPlace cX5_nextPlace 5 (some .int) 1 22 0 0 D Z 110 Q z_rf As MI ML (zq Q P)
abbrev C_X5_putDown (l : Launch) (D : va_G) (Z : ZC) (Q : Nat → Nat) (As : List Value) (MI ML : ZM) (P : ZP) : Prop := CM l yX5_putDown cX5_putDown 2 none 0 0 0 0 D Z 110 Q z_rf As MI ML (zq Q P)
abbrev C_X6_find (l : Launch) (D : va_G) (Z : ZC) (Q : Nat → Nat) (As : List Value) (MI ML : ZM) (P : ZP) : Prop := CM l yX6_find cX6_find 5 none 1 25 0 0 D Z 110 Q z_rf As MI ML (zq Q P)
abbrev C_X6_findThird (l : Launch) (D : va_G) (Z : ZC) (Q : Nat → Nat) (As : List Value) (MI ML : ZM) (P : ZP) : Prop := CM l yX6_findThird cX6_findThird 6 none 0 0 0 0 D Z 110 Q z_rf As MI ML (zq Q P)
abbrev C_X7_begin (l : Launch) (D : va_G) (Z : ZC) (Q : Nat → Nat) (As : List Value) (MI ML : ZM) (P : ZP) : Prop := CM l yX7_begin cX7_begin 2 none 0 0 0 0 D Z 110 Q z_rf As MI ML (zq Q P)
abbrev C_X7_defeats (l : Launch) (D : va_G) (Z : ZC) (Q : Nat → Nat) (As : List Value) (MI ML : ZM) (P : ZP) : Prop := CM l yX7_defeats cX7_defeats 7 (some .boolean) 1 23 0 0 D Z 110 Q z_rf As MI ML (zq Q P)
abbrev C_X7_put (l : Launch) (D : va_G) (Z : ZC) (Q : Nat → Nat) (As : List Value) (MI ML : ZM) (P : ZP) : Prop := CM l yX7_put cX7_put 4 none 0 0 0 0 D Z 110 Q z_rf As MI ML (zq Q P)
abbrev C_X8_card (l : Launch) (D : va_G) (Z : ZC) (Q : Nat → Nat) (As : List Value) (MI ML : ZM) (P : ZP) : Prop := CM l yX8_card cX8_card 4 (some .int) 1 23 0 0 D Z 110 Q z_rf As MI ML (zq Q P)
abbrev C_X8_power (l : Launch) (D : va_G) (Z : ZC) (Q : Nat → Nat) (As : List Value) (MI ML : ZM) (P : ZP) : Prop := CM l yX8_power cX8_power 4 (some .int) 2 43 0 0 D Z 110 Q z_rf As MI ML (zq Q P)
abbrev C_X8_deck (l : Launch) (D : va_G) (Z : ZC) (Q : Nat → Nat) (As : List Value) (MI ML : ZM) (P : ZP) : Prop := CM l yX8_deck cX8_deck 1 (some .int) 1 20 0 0 D Z 110 Q z_rf As MI ML (zq Q P)
abbrev C_X8_add (l : Launch) (D : va_G) (Z : ZC) (Q : Nat → Nat) (As : List Value) (MI ML : ZM) (P : ZP) : Prop := CM l yX8_add cX8_add 3 (some .int) 2 43 0 0 D Z 110 Q z_rf As MI ML (zq Q P)
abbrev C_X8_drop (l : Launch) (D : va_G) (Z : ZC) (Q : Nat → Nat) (As : List Value) (MI ML : ZM) (P : ZP) : Prop := CM l yX8_drop cX8_drop 4 (some .int) 2 44 0 0 D Z 110 Q z_rf As MI ML (zq Q P)
abbrev C_X8_swap (l : Launch) (D : va_G) (Z : ZC) (Q : Nat → Nat) (As : List Value) (MI ML : ZM) (P : ZP) : Prop := CM l yX8_swap cX8_swap 4 (some .int) 2 44 0 0 D Z 110 Q z_rf As MI ML (zq Q P)
abbrev C_X8_at (l : Launch) (D : va_G) (Z : ZC) (Q : Nat → Nat) (As : List Value) (MI ML : ZM) (P : ZP) : Prop := CM l yX8_at cX8_at 3 (some .int) 2 44 0 0 D Z 110 Q z_rf As MI ML (zq Q P)
abbrev C_X8_life (l : Launch) (D : va_G) (Z : ZC) (Q : Nat → Nat) (As : List Value) (MI ML : ZM) (P : ZP) : Prop := CM l yX8_life cX8_life 3 (some .int) 1 22 0 0 D Z 110 Q z_rf As MI ML (zq Q P)
abbrev C_X8_play (l : Launch) (D : va_G) (Z : ZC) (Q : Nat → Nat) (As : List Value) (MI ML : ZM) (P : ZP) : Prop := CM l yX8_play cX8_play 3 (some .int) 5 117 0 0 D Z 110 Q z_rf As MI ML (zq Q P)
abbrev C_X8_told (l : Launch) (D : va_G) (Z : ZC) (Q : Nat → Nat) (As : List Value) (MI ML : ZM) (P : ZP) : Prop := CM l yX8_told cX8_told 4 (some .int) 5 117 0 0 D Z 110 Q z_rf As MI ML (zq Q P)
abbrev C_X8_table (l : Launch) (D : va_G) (Z : ZC) (Q : Nat → Nat) (As : List Value) (MI ML : ZM) (P : ZP) : Prop := CM l yX8_table cX8_table 3 (some .int) 5 117 0 0 D Z 110 Q z_rf As MI ML (zq Q P)
abbrev C_X8_rings (l : Launch) (D : va_G) (Z : ZC) (Q : Nat → Nat) (As : List Value) (MI ML : ZM) (P : ZP) : Prop := CM l yX8_rings cX8_rings 1 (some .int) 5 117 0 0 D Z 110 Q z_rf As MI ML (zq Q P)
abbrev C_X8_ring (l : Launch) (D : va_G) (Z : ZC) (Q : Nat → Nat) (As : List Value) (MI ML : ZM) (P : ZP) : Prop := CM l yX8_ring cX8_ring 3 (some .int) 5 117 0 0 D Z 110 Q z_rf As MI ML (zq Q P)
abbrev C_X8_share (l : Launch) (D : va_G) (Z : ZC) (Q : Nat → Nat) (As : List Value) (MI ML : ZM) (P : ZP) : Prop := CM l yX8_share cX8_share 6 (some .long) 6 142 0 0 D Z 110 Q z_rf As MI ML (zq Q P)
abbrev C_X8_live (l : Launch) (D : va_G) (Z : ZC) (Q : Nat → Nat) (As : List Value) (MI ML : ZM) (P : ZP) : Prop := CM l yX8_live cX8_live 3 (some .int) 6 142 0 0 D Z 110 Q z_rf As MI ML (zq Q P)
abbrev C_X8_standing (l : Launch) (D : va_G) (Z : ZC) (Q : Nat → Nat) (As : List Value) (MI ML : ZM) (P : ZP) : Prop := CM l yX8_standing cX8_standing 2 (some .int) 5 117 0 0 D Z 110 Q z_rf As MI ML (zq Q P)
abbrev C_X8_worth (l : Launch) (D : va_G) (Z : ZC) (Q : Nat → Nat) (As : List Value) (MI ML : ZM) (P : ZP) : Prop := CM l yX8_worth cX8_worth 3 (some .int) 5 118 0 0 D Z 110 Q z_rf As MI ML (zq Q P)
abbrev C_X8_idle (l : Launch) (D : va_G) (Z : ZC) (Q : Nat → Nat) (As : List Value) (MI ML : ZM) (P : ZP) : Prop := CM l yX8_idle cX8_idle 4 (some .int) 5 118 0 0 D Z 110 Q z_rf As MI ML (zq Q P)
abbrev C_X8_remedy (l : Launch) (D : va_G) (Z : ZC) (Q : Nat → Nat) (As : List Value) (MI ML : ZM) (P : ZP) : Prop := CM l yX8_remedy cX8_remedy 7 (some .int) 6 147 0 0 D Z 110 Q z_rf As MI ML (zq Q P)
abbrev C_X8_count (l : Launch) (D : va_G) (Z : ZC) (Q : Nat → Nat) (As : List Value) (MI ML : ZM) (P : ZP) : Prop := CM l yX8_count cX8_count 2 (some .int) 1 22 0 0 D Z 110 Q z_rf As MI ML (zq Q P)
abbrev C_X8_isOutside (l : Launch) (D : va_G) (Z : ZC) (Q : Nat → Nat) (As : List Value) (MI ML : ZM) (P : ZP) : Prop := CM l yX8_isOutside cX8_isOutside 3 (some .boolean) 0 0 0 0 D Z 110 Q z_rf As MI ML (zq Q P)
abbrev C_X8_isNoCard (l : Launch) (D : va_G) (Z : ZC) (Q : Nat → Nat) (As : List Value) (MI ML : ZM) (P : ZP) : Prop := CM l yX8_isNoCard cX8_isNoCard 2 (some .boolean) 1 22 0 0 D Z 110 Q z_rf As MI ML (zq Q P)
abbrev C_X8_isNoDeck (l : Launch) (D : va_G) (Z : ZC) (Q : Nat → Nat) (As : List Value) (MI ML : ZM) (P : ZP) : Prop := CM l yX8_isNoDeck cX8_isNoDeck 2 (some .boolean) 1 22 0 0 D Z 110 Q z_rf As MI ML (zq Q P)
abbrev C_X8_isNoPlace (l : Launch) (D : va_G) (Z : ZC) (Q : Nat → Nat) (As : List Value) (MI ML : ZM) (P : ZP) : Prop := CM l yX8_isNoPlace cX8_isNoPlace 3 (some .boolean) 1 22 0 0 D Z 110 Q z_rf As MI ML (zq Q P)
abbrev C_X8_cardsInDecks (l : Launch) (D : va_G) (Z : ZC) (Q : Nat → Nat) (As : List Value) (MI ML : ZM) (P : ZP) : Prop := CM l yX8_cardsInDecks cX8_cardsInDecks 3 (some .int) 0 0 0 0 D Z 110 Q z_rf As MI ML (zq Q P)
abbrev C_X8_sumOf (l : Launch) (D : va_G) (Z : ZC) (Q : Nat → Nat) (As : List Value) (MI ML : ZM) (P : ZP) : Prop := CM l yX8_sumOf cX8_sumOf 4 (some .int) 0 0 0 0 D Z 110 Q z_rf As MI ML (zq Q P)
abbrev C_X8_greatestDivisor (l : Launch) (D : va_G) (Z : ZC) (Q : Nat → Nat) (As : List Value) (MI ML : ZM) (P : ZP) : Prop := CM l yX8_greatestDivisor cX8_greatestDivisor 6 (some .int) 0 0 0 0 D Z 110 Q z_rf As MI ML (zq Q P)
abbrev C_X8_forgetTables (l : Launch) (D : va_G) (Z : ZC) (Q : Nat → Nat) (As : List Value) (MI ML : ZM) (P : ZP) : Prop := CM l yX8_forgetTables cX8_forgetTables 1 none 0 0 0 0 D Z 110 Q z_rf As MI ML (zq Q P)
abbrev C_X8_learnTables (l : Launch) (D : va_G) (Z : ZC) (Q : Nat → Nat) (As : List Value) (MI ML : ZM) (P : ZP) : Prop := CM l yX8_learnTables cX8_learnTables 3 none 4 95 0 0 D Z 110 Q z_rf As MI ML (zq Q P)
abbrev C_X8_learnMix (l : Launch) (D : va_G) (Z : ZC) (Q : Nat → Nat) (As : List Value) (MI ML : ZM) (P : ZP) : Prop := CM l yX8_learnMix cX8_learnMix 1 none 5 122 0 0 D Z 110 Q z_rf As MI ML (zq Q P)
abbrev C_X8_tableOf (l : Launch) (D : va_G) (Z : ZC) (Q : Nat → Nat) (As : List Value) (MI ML : ZM) (P : ZP) : Prop := CM l yX8_tableOf cX8_tableOf 3 (some .int) 3 73 0 0 D Z 110 Q z_rf As MI ML (zq Q P)
abbrev C_X8_learnTablesWithout (l : Launch) (D : va_G) (Z : ZC) (Q : Nat → Nat) (As : List Value) (MI ML : ZM) (P : ZP) : Prop := CM l yX8_learnTablesWithout cX8_learnTablesWithout 4 none 4 95 0 0 D Z 110 Q z_rf As MI ML (zq Q P)
abbrev C_X8_isMixWithin (l : Launch) (D : va_G) (Z : ZC) (Q : Nat → Nat) (As : List Value) (MI ML : ZM) (P : ZP) : Prop := CM l yX8_isMixWithin cX8_isMixWithin 6 (some .boolean) 5 122 0 0 D Z 110 Q z_rf As MI ML (zq Q P)
abbrev C_X8_learnTrialTables (l : Launch) (D : va_G) (Z : ZC) (Q : Nat → Nat) (As : List Value) (MI ML : ZM) (P : ZP) : Prop := CM l yX8_learnTrialTables cX8_learnTrialTables 5 none 4 95 0 0 D Z 110 Q z_rf As MI ML (zq Q P)
abbrev C_X8_trialPlan (l : Launch) (D : va_G) (Z : ZC) (Q : Nat → Nat) (As : List Value) (MI ML : ZM) (P : ZP) : Prop := CM l yX8_trialPlan cX8_trialPlan 3 (some (.object "DeckBalance$Plan")) 2 44 0 0 D Z 110 Q z_rf As MI ML (zq Q P)
abbrev C_X8_hasCard (l : Launch) (D : va_G) (Z : ZC) (Q : Nat → Nat) (As : List Value) (MI ML : ZM) (P : ZP) : Prop := CM l yX8_hasCard cX8_hasCard 3 (some .boolean) 1 22 0 0 D Z 110 Q z_rf As MI ML (zq Q P)
abbrev C_X9_in (l : Launch) (D : va_G) (Z : ZC) (Q : Nat → Nat) (As : List Value) (MI ML : ZM) (P : ZP) : Prop := CM l yX9_in cX9_in 3 (some .boolean) 0 0 0 0 D Z 110 Q z_rf As MI ML (zq Q P)
abbrev C_X9_isCard (l : Launch) (D : va_G) (Z : ZC) (Q : Nat → Nat) (As : List Value) (MI ML : ZM) (P : ZP) : Prop := CM l yX9_isCard cX9_isCard 2 (some .boolean) 1 22 0 0 D Z 110 Q z_rf As MI ML (zq Q P)
abbrev C_X9_isDeck (l : Launch) (D : va_G) (Z : ZC) (Q : Nat → Nat) (As : List Value) (MI ML : ZM) (P : ZP) : Prop := CM l yX9_isDeck cX9_isDeck 2 (some .boolean) 1 22 0 0 D Z 110 Q z_rf As MI ML (zq Q P)
abbrev C_X9_card (l : Launch) (D : va_G) (Z : ZC) (Q : Nat → Nat) (As : List Value) (MI ML : ZM) (P : ZP) : Prop := CM l yX9_card cX9_card 4 (some .int) 1 22 0 0 D Z 110 Q z_rf As MI ML (zq Q P)
abbrev C_X9_power (l : Launch) (D : va_G) (Z : ZC) (Q : Nat → Nat) (As : List Value) (MI ML : ZM) (P : ZP) : Prop := CM l yX9_power cX9_power 4 (some .int) 2 43 0 0 D Z 110 Q z_rf As MI ML (zq Q P)
abbrev C_X9_deck (l : Launch) (D : va_G) (Z : ZC) (Q : Nat → Nat) (As : List Value) (MI ML : ZM) (P : ZP) : Prop := CM l yX9_deck cX9_deck 1 (some .int) 0 0 0 0 D Z 110 Q z_rf As MI ML (zq Q P)
abbrev C_X9_add (l : Launch) (D : va_G) (Z : ZC) (Q : Nat → Nat) (As : List Value) (MI ML : ZM) (P : ZP) : Prop := CM l yX9_add cX9_add 3 (some .int) 2 43 0 0 D Z 110 Q z_rf As MI ML (zq Q P)
abbrev C_X9_isPlace (l : Launch) (D : va_G) (Z : ZC) (Q : Nat → Nat) (As : List Value) (MI ML : ZM) (P : ZP) : Prop := CM l yX9_isPlace cX9_isPlace 3 (some .boolean) 2 43 0 0 D Z 110 Q z_rf As MI ML (zq Q P)
abbrev C_X9_dropAt (l : Launch) (D : va_G) (Z : ZC) (Q : Nat → Nat) (As : List Value) (MI ML : ZM) (P : ZP) : Prop := CM l yX9_dropAt cX9_dropAt 4 none 0 0 0 0 D Z 110 Q z_rf As MI ML (zq Q P)
abbrev C_X9_drop (l : Launch) (D : va_G) (Z : ZC) (Q : Nat → Nat) (As : List Value) (MI ML : ZM) (P : ZP) : Prop := CM l yX9_drop cX9_drop 4 (some .int) 3 65 0 0 D Z 110 Q z_rf As MI ML (zq Q P)
abbrev C_X9_swap (l : Launch) (D : va_G) (Z : ZC) (Q : Nat → Nat) (As : List Value) (MI ML : ZM) (P : ZP) : Prop := CM l yX9_swap cX9_swap 5 (some .int) 3 65 0 0 D Z 110 Q z_rf As MI ML (zq Q P)
abbrev C_X9_at (l : Launch) (D : va_G) (Z : ZC) (Q : Nat → Nat) (As : List Value) (MI ML : ZM) (P : ZP) : Prop := CM l yX9_at cX9_at 3 (some .int) 2 43 0 0 D Z 110 Q z_rf As MI ML (zq Q P)
abbrev C_X9_life (l : Launch) (D : va_G) (Z : ZC) (Q : Nat → Nat) (As : List Value) (MI ML : ZM) (P : ZP) : Prop := CM l yX9_life cX9_life 3 (some .int) 1 22 0 0 D Z 110 Q z_rf As MI ML (zq Q P)
abbrev C_X9_isOver (l : Launch) (D : va_G) (Z : ZC) (Q : Nat → Nat) (As : List Value) (MI ML : ZM) (P : ZP) : Prop := CM l yX9_isOver cX9_isOver 1 (some .boolean) 0 0 0 0 D Z 110 Q z_rf As MI ML (zq Q P)
abbrev C_X9_nextCard (l : Launch) (D : va_G) (Z : ZC) (Q : Nat → Nat) (As : List Value) (MI ML : ZM) (P : ZP) : Prop := CM l yX9_nextCard cX9_nextCard 6 (some .int) 0 0 0 0 D Z 110 Q z_rf As MI ML (zq Q P)
abbrev C_X9_playCard (l : Launch) (D : va_G) (Z : ZC) (Q : Nat → Nat) (As : List Value) (MI ML : ZM) (P : ZP) : Prop := CM l yX9_playCard cX9_playCard 3 none 0 0 0 0 D Z 110 Q z_rf As MI ML (zq Q P)
abbrev C_X9_move (l : Launch) (D : va_G) (Z : ZC) (Q : Nat → Nat) (As : List Value) (MI ML : ZM) (P : ZP) : Prop := CM l yX9_move cX9_move 6 none 1 25 0 0 D Z 110 Q z_rf As MI ML (zq Q P)
abbrev C_X9_game (l : Launch) (D : va_G) (Z : ZC) (Q : Nat → Nat) (As : List Value) (MI ML : ZM) (P : ZP) : Prop := CM l yX9_game cX9_game 4 none 2 50 0 0 D Z 110 Q z_rf As MI ML (zq Q P)
abbrev C_X9_result (l : Launch) (D : va_G) (Z : ZC) (Q : Nat → Nat) (As : List Value) (MI ML : ZM) (P : ZP) : Prop := CM l yX9_result cX9_result 3 (some .int) 3 73 0 0 D Z 110 Q z_rf As MI ML (zq Q P)
abbrev C_X9_play (l : Launch) (D : va_G) (Z : ZC) (Q : Nat → Nat) (As : List Value) (MI ML : ZM) (P : ZP) : Prop := CM l yX9_play cX9_play 3 (some .int) 4 95 0 0 D Z 110 Q z_rf As MI ML (zq Q P)
abbrev C_X9_told (l : Launch) (D : va_G) (Z : ZC) (Q : Nat → Nat) (As : List Value) (MI ML : ZM) (P : ZP) : Prop := CM l yX9_told cX9_told 4 (some .int) 3 73 0 0 D Z 110 Q z_rf As MI ML (zq Q P)
abbrev C_X9_tableOf (l : Launch) (D : va_G) (Z : ZC) (Q : Nat → Nat) (As : List Value) (MI ML : ZM) (P : ZP) : Prop := CM l yX9_tableOf cX9_tableOf 3 (some .int) 4 95 0 0 D Z 110 Q z_rf As MI ML (zq Q P)
abbrev C_X9_table (l : Launch) (D : va_G) (Z : ZC) (Q : Nat → Nat) (As : List Value) (MI ML : ZM) (P : ZP) : Prop := CM l yX9_table cX9_table 3 (some .int) 5 117 0 0 D Z 110 Q z_rf As MI ML (zq Q P)
abbrev C_X9_layTables (l : Launch) (D : va_G) (Z : ZC) (Q : Nat → Nat) (As : List Value) (MI ML : ZM) (P : ZP) : Prop := CM l yX9_layTables cX9_layTables 3 none 5 117 0 0 D Z 110 Q z_rf As MI ML (zq Q P)
abbrev C_X9_beats (l : Launch) (D : va_G) (Z : ZC) (Q : Nat → Nat) (As : List Value) (MI ML : ZM) (P : ZP) : Prop := CM l yX9_beats cX9_beats 3 (some .boolean) 0 0 0 0 D Z 110 Q z_rf As MI ML (zq Q P)
abbrev C_X9_findRings (l : Launch) (D : va_G) (Z : ZC) (Q : Nat → Nat) (As : List Value) (MI ML : ZM) (P : ZP) : Prop := CM l yX9_findRings cX9_findRings 6 (some .int) 6 139 0 0 D Z 110 Q z_rf As MI ML (zq Q P)
abbrev C_X9_rings (l : Launch) (D : va_G) (Z : ZC) (Q : Nat → Nat) (As : List Value) (MI ML : ZM) (P : ZP) : Prop := CM l yX9_rings cX9_rings 1 (some .int) 7 164 0 0 D Z 110 Q z_rf As MI ML (zq Q P)
abbrev C_X9_ring (l : Launch) (D : va_G) (Z : ZC) (Q : Nat → Nat) (As : List Value) (MI ML : ZM) (P : ZP) : Prop := CM l yX9_ring cX9_ring 3 (some .int) 7 164 0 0 D Z 110 Q z_rf As MI ML (zq Q P)
abbrev C_X9_divisor (l : Launch) (D : va_G) (Z : ZC) (Q : Nat → Nat) (As : List Value) (MI ML : ZM) (P : ZP) : Prop := CM l yX9_divisor cX9_divisor 10 (some .long) 0 0 0 0 D Z 110 Q z_rf As MI ML (zq Q P)
abbrev C_X9_layBounds (l : Launch) (D : va_G) (Z : ZC) (Q : Nat → Nat) (As : List Value) (MI ML : ZM) (P : ZP) : Prop := CM l yX9_layBounds cX9_layBounds 5 none 0 0 0 0 D Z 110 Q z_rf As MI ML (zq Q P)
abbrev C_X9_changeRows (l : Launch) (D : va_G) (Z : ZC) (Q : Nat → Nat) (As : List Value) (MI ML : ZM) (P : ZP) : Prop := CM l yX9_changeRows cX9_changeRows 6 none 0 0 0 0 D Z 110 Q z_rf As MI ML (zq Q P)
abbrev C_X9_clearRow (l : Launch) (D : va_G) (Z : ZC) (Q : Nat → Nat) (As : List Value) (MI ML : ZM) (P : ZP) : Prop := CM l yX9_clearRow cX9_clearRow 11 none 1 29 0 0 D Z 110 Q z_rf As MI ML (zq Q P)
abbrev C_X9_solve (l : Launch) (D : va_G) (Z : ZC) (Q : Nat → Nat) (As : List Value) (MI ML : ZM) (P : ZP) : Prop := CM l yX9_solve cX9_solve 8 (some .boolean) 2 59 0 0 D Z 110 Q z_rf As MI ML (zq Q P)
abbrev C_X9_holds (l : Launch) (D : va_G) (Z : ZC) (Q : Nat → Nat) (As : List Value) (MI ML : ZM) (P : ZP) : Prop := CM l yX9_holds cX9_holds 8 (some .boolean) 1 29 0 0 D Z 110 Q z_rf As MI ML (zq Q P)
abbrev C_X9_isGreater (l : Launch) (D : va_G) (Z : ZC) (Q : Nat → Nat) (As : List Value) (MI ML : ZM) (P : ZP) : Prop := CM l yX9_isGreater cX9_isGreater 4 (some .boolean) 0 0 0 0 D Z 110 Q z_rf As MI ML (zq Q P)
abbrev C_X9_ones (l : Launch) (D : va_G) (Z : ZC) (Q : Nat → Nat) (As : List Value) (MI ML : ZM) (P : ZP) : Prop := CM l yX9_ones cX9_ones 3 (some .int) 0 0 0 0 D Z 110 Q z_rf As MI ML (zq Q P)
abbrev C_X9_findMix (l : Launch) (D : va_G) (Z : ZC) (Q : Nat → Nat) (As : List Value) (MI ML : ZM) (P : ZP) : Prop := CM l yX9_findMix cX9_findMix 3 none 6 139 0 0 D Z 110 Q z_rf As MI ML (zq Q P)
abbrev C_X9_share (l : Launch) (D : va_G) (Z : ZC) (Q : Nat → Nat) (As : List Value) (MI ML : ZM) (P : ZP) : Prop := CM l yX9_share cX9_share 3 (some .long) 7 161 0 0 D Z 110 Q z_rf As MI ML (zq Q P)
abbrev C_X9_live (l : Launch) (D : va_G) (Z : ZC) (Q : Nat → Nat) (As : List Value) (MI ML : ZM) (P : ZP) : Prop := CM l yX9_live cX9_live 3 (some .int) 7 161 0 0 D Z 110 Q z_rf As MI ML (zq Q P)
abbrev C_X9_standingOf (l : Launch) (D : va_G) (Z : ZC) (Q : Nat → Nat) (As : List Value) (MI ML : ZM) (P : ZP) : Prop := CM l yX9_standingOf cX9_standingOf 4 (some .int) 5 117 0 0 D Z 110 Q z_rf As MI ML (zq Q P)
abbrev C_X9_standing (l : Launch) (D : va_G) (Z : ZC) (Q : Nat → Nat) (As : List Value) (MI ML : ZM) (P : ZP) : Prop := CM l yX9_standing cX9_standing 2 (some .int) 6 140 0 0 D Z 110 Q z_rf As MI ML (zq Q P)
abbrev C_X9_placeOf (l : Launch) (D : va_G) (Z : ZC) (Q : Nat → Nat) (As : List Value) (MI ML : ZM) (P : ZP) : Prop := CM l yX9_placeOf cX9_placeOf 4 (some .int) 0 0 0 0 D Z 110 Q z_rf As MI ML (zq Q P)
abbrev C_X9_putBack (l : Launch) (D : va_G) (Z : ZC) (Q : Nat → Nat) (As : List Value) (MI ML : ZM) (P : ZP) : Prop := CM l yX9_putBack cX9_putBack 5 none 0 0 0 0 D Z 110 Q z_rf As MI ML (zq Q P)
abbrev C_X9_worth (l : Launch) (D : va_G) (Z : ZC) (Q : Nat → Nat) (As : List Value) (MI ML : ZM) (P : ZP) : Prop := CM l yX9_worth cX9_worth 6 (some .int) 6 140 0 0 D Z 110 Q z_rf As MI ML (zq Q P)
abbrev C_X9_idle (l : Launch) (D : va_G) (Z : ZC) (Q : Nat → Nat) (As : List Value) (MI ML : ZM) (P : ZP) : Prop := CM l yX9_idle cX9_idle 6 (some .int) 5 117 0 0 D Z 110 Q z_rf As MI ML (zq Q P)
abbrev C_X9_isRemedied (l : Launch) (D : va_G) (Z : ZC) (Q : Nat → Nat) (As : List Value) (MI ML : ZM) (P : ZP) : Prop := CM l yX9_isRemedied cX9_isRemedied 5 (some .boolean) 7 161 0 0 D Z 110 Q z_rf As MI ML (zq Q P)
abbrev C_X9_remedy (l : Launch) (D : va_G) (Z : ZC) (Q : Nat → Nat) (As : List Value) (MI ML : ZM) (P : ZP) : Prop := CM l yX9_remedy cX9_remedy 9 (some .int) 8 185 0 0 D Z 110 Q z_rf As MI ML (zq Q P)
abbrev C_X9_count (l : Launch) (D : va_G) (Z : ZC) (Q : Nat → Nat) (As : List Value) (MI ML : ZM) (P : ZP) : Prop := CM l yX9_count cX9_count 4 (some .int) 0 0 0 0 D Z 110 Q z_rf As MI ML (zq Q P)
abbrev C_J6_compare_7cf53 (l : Launch) (D : va_G) (Z : ZC) (Q : Nat → Nat) (As : List Value) (MI ML : ZM) (P : ZP) : Prop := CM l yJ6_compare_7cf53 cJ6_compare_7cf53 2 (some .int) 0 0 0 0 D Z 110 Q z_rf As MI ML (zq Q P)
abbrev C_J6_bitCount_0f7a4 (l : Launch) (D : va_G) (Z : ZC) (Q : Nat → Nat) (As : List Value) (MI ML : ZM) (P : ZP) : Prop := CM l yJ6_bitCount_0f7a4 cJ6_bitCount_0f7a4 1 (some .int) 0 0 0 0 D Z 110 Q z_rf As MI ML (zq Q P)
abbrev C_J9_max_7cf53 (l : Launch) (D : va_G) (Z : ZC) (Q : Nat → Nat) (As : List Value) (MI ML : ZM) (P : ZP) : Prop := CM l yJ9_max_7cf53 cJ9_max_7cf53 2 (some .int) 0 0 0 0 D Z 110 Q z_rf As MI ML (zq Q P)
abbrev C_J9_min_7cf53 (l : Launch) (D : va_G) (Z : ZC) (Q : Nat → Nat) (As : List Value) (MI ML : ZM) (P : ZP) : Prop := CM l yJ9_min_7cf53 cJ9_min_7cf53 2 (some .int) 0 0 0 0 D Z 110 Q z_rf As MI ML (zq Q P)
end
section
/-! GAMES, in mathematics -/
/-- the card that is played next: of the first k cards those in the hand h that the energy e buys; -1: none -/
def bst (co po h : Nat → Int) (e : Int) : Nat → Int
  | 0 => -1
  | k + 1 => if 0 < h k ∧ co k ≤ e then (if bst co po h e k = -1 ∨ co (bst co po h e k).toNat < co k ∨ (co k = co (bst co po h e k).toNat ∧ po (bst co po h e k).toNat < po k) then (k : Int) else bst co po h e k) else bst co po h e k
theorem bst_b (co po h : Nat → Int) (e : Int) : ∀ k, bst co po h e k = -1 ∨ (0 ≤ bst co po h e k ∧ bst co po h e k < k) := by
  intro k
  induction k with
  | zero => exact Or.inl rfl
  | succ k ih =>
    simp only [bst]
    split
    · split
      · omega
      · omega
    · omega
theorem bst_h (co po h : Nat → Int) (e : Int) : ∀ k, 0 ≤ bst co po h e k → 0 < h (bst co po h e k).toNat ∧ co (bst co po h e k).toNat ≤ e := by
  intro k
  induction k with
  | zero => intro q; simp [bst] at q
  | succ k ih =>
    simp only [bst]
    split
    · rename_i q
      split
      · intro _; simpa using q
      · exact ih
    · exact ih
/-- one card less, one more -/
def hdec (h : Nat → Int) (c : Nat) : Nat → Int := fun i => if i = c then h i - 1 else h i
def hinc (h : Nat → Int) (c : Nat) : Nat → Int := fun i => if i = c then h i + 1 else h i
/-- the cards played from the hand h with the energy e, and the hand that is left -/
def selL (nc : Nat) (co po : Nat → Int) : Nat → (Nat → Int) → Int → List Nat
  | 0, _, _ => []
  | n + 1, h, e => if bst co po h e nc = -1 then [] else (bst co po h e nc).toNat :: selL nc co po n (hdec h (bst co po h e nc).toNat) (e - co (bst co po h e nc).toNat)
def selH (nc : Nat) (co po : Nat → Int) : Nat → (Nat → Int) → Int → (Nat → Int)
  | 0, h, _ => h
  | n + 1, h, e => if bst co po h e nc = -1 then h else selH nc co po n (hdec h (bst co po h e nc).toNat) (e - co (bst co po h e nc).toNat)
/-- k cards more are drawn from the deck (n cards, cd), as far as it goes -/
def drw (n : Nat) (cd : Nat → Nat) : Nat → (Nat → Int) × Nat → (Nat → Int) × Nat
  | 0, s => s
  | k + 1, s => if s.2 < n then drw n cd k (hinc s.1 (cd s.2), s.2 + 1) else s
def ndr (t : Nat) : Nat := if t = 0 then 2 else 1
def eng (t : Nat) : Int := if t < 6 then (t : Int) else 6
/-- a deck's hand and how many it has drawn, behind TURN t -/
def pst (nc : Nat) (co po : Nat → Int) (n : Nat) (cd : Nat → Nat) : Nat → (Nat → Int) × Nat
  | 0 => (fun _ => 0, 0)
  | t + 1 => (selH nc co po 10 (drw n cd (ndr t) (pst nc co po n cd t)).1 (eng (t + 1)), (drw n cd (ndr t) (pst nc co po n cd t)).2)
/-- the cards that a deck plays in TURN t + 1 -/
def plL (nc : Nat) (co po : Nat → Int) (n : Nat) (cd : Nat → Nat) (t : Nat) : List Nat := selL nc co po 10 (drw n cd (ndr t) (pst nc co po n cd t)).1 (eng (t + 1))
/-- (the other one's LIFE, FIGHTERS, WALLS, cards played) behind a card -/
def put1 (so po : Nat → Int) (c : Nat) (x : Int × Int × Int × Int) : Int × Int × Int × Int :=
  if so c = 0 then (x.1, x.2.1 + po c, x.2.2.1, x.2.2.2 + 1) else if so c = 1 then (x.1 - po c, x.2.1, x.2.2.1, x.2.2.2 + 1) else (x.1, x.2.1, x.2.2.1 + po c, x.2.2.2 + 1)
def putL (so po : Nat → Int) : List Nat → Int × Int × Int × Int → Int × Int × Int × Int
  | [], x => x
  | c :: cs, x => if x.1 ≤ 0 then x else putL so po cs (put1 so po c x)
def hit (lo f wo : Int) : Int := if 0 < f - wo then lo - (f - wo) else lo
/-- a MOVE: of one's FIGHTERS, WALLS, cards played against the other one's LIFE and WALLS -/
def mv (so po : Nat → Int) (l : List Nat) (lo f w p wo : Int) : Int × Int × Int × Int := putL so po l (hit lo f wo, f, w, p)
/-- the state of a GAME: (LIFE a, LIFE b, (FIGHTERS, WALLS, played) of a, of b) -/
abbrev GS : Type := Int × Int × (Int × Int × Int) × (Int × Int × Int)
def gOver (g : GS) : Prop := g.1 ≤ 0 ∨ g.2.1 ≤ 0
def gA (so po : Nat → Int) (l : List Nat) (g : GS) : GS := (g.1, (mv so po l g.2.1 g.2.2.1.1 g.2.2.1.2.1 g.2.2.1.2.2 g.2.2.2.2.1).1, (mv so po l g.2.1 g.2.2.1.1 g.2.2.1.2.1 g.2.2.1.2.2 g.2.2.2.2.1).2, g.2.2.2)
def gB (so po : Nat → Int) (l : List Nat) (g : GS) : GS := ((mv so po l g.1 g.2.2.2.1 g.2.2.2.2.1 g.2.2.2.2.2 g.2.2.1.2.1).1, g.2.1, g.2.2.1, (mv so po l g.1 g.2.2.2.1 g.2.2.2.2.1 g.2.2.2.2.2 g.2.2.1.2.1).2)
/-- TURN t + 1 -/
def gTurn (so po : Nat → Int) (la lb : List Nat) (g : GS) : GS := if (gA so po la g).2.1 ≤ 0 then gA so po la g else gB so po lb (gA so po la g)
/-- n TURNS more, t are over: (the TURN, the state) at the end -/
def gRun (so po : Nat → Int) (pa pb : Nat → List Nat) : Nat → Nat → GS → Nat × GS
  | 0, t, g => (t, g)
  | n + 1, t, g => if g.1 ≤ 0 ∨ g.2.1 ≤ 0 then (t, g) else gRun so po pa pb n (t + 1) (gTurn so po (pa t) (pb t) g)
def g0 (lf : Int) : GS := (lf, lf, (0, 0, 0), (0, 0, 0))
def gGame (so po : Nat → Int) (pa pb : Nat → List Nat) (lf : Int) : Nat × GS := gRun so po pa pb 12 0 (g0 lf)
def gRes (g : GS) : Int := if g.2.1 < g.1 then 1 else if g.1 < g.2.1 then -1 else 0
/-! how large things get -/
def htot (h : Nat → Int) : Nat → Int
  | 0 => 0
  | k + 1 => htot h k + h k
theorem htot_0 {h : Nat → Int} (h0 : ∀ i, 0 ≤ h i) : ∀ k, 0 ≤ htot h k := by
  intro k
  induction k with
  | zero => exact Int.le_refl 0
  | succ k ih => have := h0 k; simp only [htot]; omega
theorem htot_le {h : Nat → Int} (h0 : ∀ i, 0 ≤ h i) : ∀ k i, i < k → h i ≤ htot h k := by
  intro k
  induction k with
  | zero => intro i hi; exact absurd hi (by omega)
  | succ k ih =>
    intro i hi
    simp only [htot]
    by_cases e : i = k
    · subst e; have := htot_0 h0 i; omega
    · have := ih i (by omega); have := h0 k; omega
theorem htot_dec (h : Nat → Int) (c : Nat) : ∀ k, htot (hdec h c) k = htot h k - (if c < k then 1 else 0) := by
  intro k
  induction k with
  | zero => simp [htot]
  | succ k ih =>
    simp only [htot, ih, hdec]
    by_cases e : k = c
    · subst e; simp; omega
    · rw [if_neg e]
      by_cases e2 : c < k
      · rw [if_pos e2, if_pos (by omega)]; omega
      · rw [if_neg e2, if_neg (by omega)]; omega
theorem htot_inc (h : Nat → Int) (c : Nat) : ∀ k, htot (hinc h c) k = htot h k + (if c < k then 1 else 0) := by
  intro k
  induction k with
  | zero => simp [htot]
  | succ k ih =>
    simp only [htot, ih, hinc]
    by_cases e : k = c
    · subst e; simp
      omega
    · rw [if_neg e]
      by_cases e2 : c < k
      · rw [if_pos e2, if_pos (by omega)]; omega
      · rw [if_neg e2, if_neg (by omega)]; omega
theorem selL_len (nc : Nat) (co po : Nat → Int) : ∀ n h e, (selL nc co po n h e).length ≤ n := by
  intro n
  induction n with
  | zero => intro h e; simp [selL]
  | succ n ih =>
    intro h e
    simp only [selL]
    split
    · simp
    · simp only [List.length_cons]; have := ih (hdec h (bst co po h e nc).toNat) (e - co (bst co po h e nc).toNat); omega
theorem selL_mem (nc : Nat) (co po : Nat → Int) : ∀ n h e, ∀ c ∈ selL nc co po n h e, c < nc := by
  intro n
  induction n with
  | zero => intro h e c hc; simp [selL] at hc
  | succ n ih =>
    intro h e c hc
    simp only [selL] at hc
    split at hc
    · simp at hc
    · rename_i q
      rcases List.mem_cons.mp hc with rfl | hc
      · have := bst_b co po h e nc; omega
      · exact ih _ _ c hc
/-- a state that a GAME can be in behind t TURNS -/
def gIn (t : Nat) (f w p : Int) : Prop := 0 ≤ f ∧ f ≤ 90 * t ∧ 0 ≤ w ∧ w ≤ 90 * t ∧ 0 ≤ p ∧ p ≤ 10 * t
end
section
theorem rg9 {z : Int} (h0 : 0 ≤ z) (h1 : z ≤ 1000000) : rg z := ⟨by omega, by omega⟩
/-- what the model's memory keeps -/
def mOk (M : ZM) : Prop := (0 ≤ M 90 0 ∧ M 90 0 ≤ 12) ∧ (0 ≤ M 90 4 ∧ M 90 4 ≤ 5) ∧ (5 ≤ M 90 7 ∧ M 90 7 ≤ 40) ∧ (∀ i, i < 12 → (0 ≤ M 91 i ∧ M 91 i ≤ 2) ∧ (0 ≤ M 92 i ∧ M 92 i ≤ 5) ∧ (0 ≤ M 93 i ∧ M 93 i ≤ 9)) ∧ (∀ d, d < 5 → 0 ≤ M 94 d ∧ M 94 d ≤ 10) ∧ (∀ d k : Nat, d < 5 → (k : Int) < M 94 d → 0 ≤ M 95 (10 * d + k) ∧ M 95 (10 * d + k) < M 90 0)
set_option maxRecDepth 100000 in
set_option maxHeartbeats 4000000 in
theorem c_X9_in {l : Launch} {D : va_G} {Z : ZC} {Q : Nat → Nat} {MI ML : ZM} (v lo hi : Int) (hv : rg v) (hlo : rg lo) (hhi : rg hi) : C_X9_in l D Z Q [.int (iI v), .int (iI lo), .int (iI hi)] MI ML (zI fun r M L => M = MI ∧ L = ML ∧ ((r = 1 ∧ lo ≤ v ∧ v ≤ hi) ∨ (r = 0 ∧ (v < lo ∨ hi < v)))) := by
  refine CM.of (by decide +kernel) (Nat.le_of_ble_eq_true rfl) ?_
  intro X K E _ _ _ _
  show V X (0, 0) 110 Q z_rf MI ML 0 [(0, .int (iI v)), (1, .int (iI lo)), (2, .int (iI hi))] []
  refine v_iload_n K 0 dX9_in_0 rfl rfl ?_
  refine v_iload_n K 1 dX9_in_1 rfl rfl ?_
  refine v_icmp_lt K 14 hv hlo dX9_in_2 (by decide) (fun h2 => ?_) (fun h2 => ?_)
  · refine v_iconst K dX9_in_14 ?_
    exact v_rz K E (Or.inl rfl) dX9_in_15 ⟨rfl, rfl, by omega⟩
  · refine v_iload_n K 0 dX9_in_5 rfl rfl ?_
    refine v_iload_n K 2 dX9_in_6 rfl rfl ?_
    refine v_icmp_gt K 14 hv hhi dX9_in_7 (by decide) (fun h7 => ?_) (fun h7 => ?_)
    · refine v_iconst K dX9_in_14 ?_
      exact v_rz K E (Or.inl rfl) dX9_in_15 ⟨rfl, rfl, by omega⟩
    · refine v_iconst K dX9_in_10 ?_
      refine v_goto K 15 dX9_in_11 (by decide) ?_
      exact v_rz K E (Or.inr rfl) dX9_in_15 ⟨rfl, rfl, by omega⟩
set_option maxRecDepth 100000 in
set_option maxHeartbeats 4000000 in
theorem c_X9_isCard {l : Launch} {D : va_G} {Z : ZC} {Q : Nat → Nat} {MI ML : ZM} (hM : mOk MI) (c : Int) (hc : rg c) : C_X9_isCard l D Z Q [.ref (Q 90), .int (iI c)] MI ML (zI fun r M L => M = MI ∧ L = ML ∧ ((r = 1 ∧ 0 ≤ c ∧ c < MI 90 0) ∨ (r = 0 ∧ (c < 0 ∨ MI 90 0 ≤ c)))) := by
  refine CM.of (by decide +kernel) (Nat.le_of_ble_eq_true rfl) ?_
  intro X K E _ _ _ _
  show V X (0, 0) 110 Q z_rf MI ML 0 [(0, .ref (Q 90)), (1, .int (iI c))] []
  refine v_iload_n K 1 dX9_isCard_0 rfl rfl ?_
  refine v_iconst K dX9_isCard_1 ?_
  refine v_aload_n K 0 dX9_isCard_2 rfl rfl ?_
  have h0 := hM.1
  have h4 := hM.2.1
  refine v_geti K ff_X9_72 (by decide) rfl rfl dX9_isCard_3 ?_
  refine v_iconst K dX9_isCard_6 ?_
  refine v_isub K dX9_isCard_7 ?_
  refine v_cSi K (c_X9_in _ _ _ hc rg_0 ⟨by omega, by omega⟩) rfl fc_X9_75 wt_X9_in rfl (by decide) (Nat.le_of_ble_eq_true rfl) dX9_isCard_8 (fun r8 M8 L8 h8 => ?_)
  obtain ⟨hm8, hl8, hr⟩ := h8
  subst M8 L8
  exact v_rz K E (by omega) dX9_isCard_11 ⟨rfl, rfl, by omega⟩
set_option maxRecDepth 100000 in
set_option maxHeartbeats 4000000 in
theorem c_X9_isDeck {l : Launch} {D : va_G} {Z : ZC} {Q : Nat → Nat} {MI ML : ZM} (hM : mOk MI) (c : Int) (hc : rg c) : C_X9_isDeck l D Z Q [.ref (Q 90), .int (iI c)] MI ML (zI fun r M L => M = MI ∧ L = ML ∧ ((r = 1 ∧ 0 ≤ c ∧ c < MI 90 4) ∨ (r = 0 ∧ (c < 0 ∨ MI 90 4 ≤ c)))) := by
  refine CM.of (by decide +kernel) (Nat.le_of_ble_eq_true rfl) ?_
  intro X K E _ _ _ _
  show V X (0, 0) 110 Q z_rf MI ML 0 [(0, .ref (Q 90)), (1, .int (iI c))] []
  refine v_iload_n K 1 dX9_isDeck_0 rfl rfl ?_
  refine v_iconst K dX9_isDeck_1 ?_
  refine v_aload_n K 0 dX9_isDeck_2 rfl rfl ?_
  have h0 := hM.1
  have h4 := hM.2.1
  refine v_geti K ff_X9_79 (by decide) rfl rfl dX9_isDeck_3 ?_
  refine v_iconst K dX9_isDeck_6 ?_
  refine v_isub K dX9_isDeck_7 ?_
  refine v_cSi K (c_X9_in _ _ _ hc rg_0 ⟨by omega, by omega⟩) rfl fc_X9_75 wt_X9_in rfl (by decide) (Nat.le_of_ble_eq_true rfl) dX9_isDeck_8 (fun r8 M8 L8 h8 => ?_)
  obtain ⟨hm8, hl8, hr⟩ := h8
  subst M8 L8
  exact v_rz K E (by omega) dX9_isDeck_11 ⟨rfl, rfl, by omega⟩
set_option maxRecDepth 100000 in
set_option maxHeartbeats 4000000 in
theorem c_X9_card {l : Launch} {D : va_G} {Z : ZC} {Q : Nat → Nat} {MI ML : ZM} (hM : mOk MI) (s c p : Int) (hs : rg s) (hc : rg c) (hp : rg p) (nc : Nat) (hnc : MI 90 0 = nc) : C_X9_card l D Z Q [.ref (Q 90), .int (iI s), .int (iI c), .int (iI p)] MI ML (zI fun r M L => L = ML ∧ ((r = -2 ∧ M = MI ∧ ¬ (0 ≤ s ∧ s ≤ 2 ∧ 0 ≤ c ∧ c ≤ 5 ∧ 0 ≤ p ∧ p ≤ 9)) ∨ ((0 ≤ s ∧ s ≤ 2 ∧ 0 ≤ c ∧ c ≤ 5 ∧ 0 ≤ p ∧ p ≤ 9) ∧ ((nc = 12 ∧ r = -4 ∧ M = MI) ∨ (nc < 12 ∧ r = nc ∧ M = z_up (z_up (z_up (z_up MI 91 nc s) 92 nc c) 93 nc p) 90 0 (nc + 1)))))) := by
  refine CM.of (by decide +kernel) (Nat.le_of_ble_eq_true rfl) ?_
  intro X K E _ _ _ _
  show V X (0, 0) 110 Q z_rf MI ML 0 [(0, .ref (Q 90)), (1, .int (iI s)), (2, .int (iI c)), (3, .int (iI p))] []
  have u0 := hM.1
  have u4 := hM.2.1
  have u7 := hM.2.2.1
  have ua := hM.2.2.2.1
  have us := hM.2.2.2.2.1
  have uk := hM.2.2.2.2.2
  refine v_iload_n K 1 dX9_card_0 rfl rfl ?_
  refine v_iconst K dX9_card_1 ?_
  refine v_iconst K dX9_card_2 ?_
  refine v_cSi K (c_X9_in _ _ _ hs rg_0 ⟨by omega, by omega⟩) rfl fc_X9_75 wt_X9_in rfl (by decide) (Nat.le_of_ble_eq_true rfl) dX9_card_3 (fun r3 M3 L3 h3 => ?_)
  obtain ⟨hm3, hl3, hr3⟩ := h3
  subst M3 L3
  refine v_if_eq K 28 ⟨by omega, by omega⟩ dX9_card_6 (by decide) (fun h6 => ?_) (fun h6 => ?_)
  · refine v_bipush K dX9_card_28 (by decide) ?_
    exact v_ri K E dX9_card_30 ⟨rfl, Or.inl ⟨rfl, rfl, by omega⟩⟩
  · refine v_iload_n K 2 dX9_card_9 rfl rfl ?_
    refine v_iconst K dX9_card_10 ?_
    refine v_iconst K dX9_card_11 ?_
    refine v_cSi K (c_X9_in _ _ _ hc rg_0 ⟨by omega, by omega⟩) rfl fc_X9_75 wt_X9_in rfl (by decide) (Nat.le_of_ble_eq_true rfl) dX9_card_12 (fun r12 M12 L12 h12 => ?_)
    obtain ⟨hm12, hl12, hr12⟩ := h12
    subst M12 L12
    refine v_if_eq K 28 ⟨by omega, by omega⟩ dX9_card_15 (by decide) (fun h15 => ?_) (fun h15 => ?_)
    · refine v_bipush K dX9_card_28 (by decide) ?_
      exact v_ri K E dX9_card_30 ⟨rfl, Or.inl ⟨rfl, rfl, by omega⟩⟩
    · refine v_iload_n K 3 dX9_card_18 rfl rfl ?_
      refine v_iconst K dX9_card_19 ?_
      refine v_bipush K dX9_card_20 (by decide) ?_
      refine v_cSi K (c_X9_in _ _ _ hp rg_0 ⟨by omega, by omega⟩) rfl fc_X9_75 wt_X9_in rfl (by decide) (Nat.le_of_ble_eq_true rfl) dX9_card_22 (fun r22 M22 L22 h22 => ?_)
      obtain ⟨hm22, hl22, hr22⟩ := h22
      subst M22 L22
      refine v_if_ne K 31 ⟨by omega, by omega⟩ dX9_card_25 (by decide) (fun h25 => ?_) (fun h25 => ?_)
      · refine v_aload_n K 0 dX9_card_31 rfl rfl ?_
        refine v_geti K ff_X9_72 (by decide) rfl rfl dX9_card_32 ?_
        refine v_eqi ((nc : Int)) (by simp [z_up, hnc]) ?_
        refine v_bipush K dX9_card_35 (by decide) ?_
        refine v_icmp_ne K 43 ⟨by omega, by omega⟩ ⟨by omega, by omega⟩ dX9_card_37 (by decide) (fun h37 => ?_) (fun h37 => ?_)
        · refine v_aload_n K 0 dX9_card_43 rfl rfl ?_
          refine v_getr K ff_X9_7 (by decide) rfl rfl rfl dX9_card_44 ?_
          refine v_aload_n K 0 dX9_card_47 rfl rfl ?_
          refine v_geti K ff_X9_72 (by decide) rfl rfl dX9_card_48 ?_
          refine v_eqi ((nc : Int)) (by simp [z_up, hnc]) ?_
          refine v_iload_n K 1 dX9_card_51 rfl rfl ?_
          refine v_iast K (nc) (by decide) rfl rfl (by show _ < 12; omega) dX9_card_52 ?_
          refine v_aload_n K 0 dX9_card_53 rfl rfl ?_
          refine v_getr K ff_X9_13 (by decide) rfl rfl rfl dX9_card_54 ?_
          refine v_aload_n K 0 dX9_card_57 rfl rfl ?_
          refine v_geti K ff_X9_72 (by decide) rfl rfl dX9_card_58 ?_
          refine v_eqi ((nc : Int)) (by simp [z_up, hnc]) ?_
          refine v_iload_n K 2 dX9_card_61 rfl rfl ?_
          refine v_iast K (nc) (by decide) rfl rfl (by show _ < 12; omega) dX9_card_62 ?_
          refine v_aload_n K 0 dX9_card_63 rfl rfl ?_
          refine v_getr K ff_X9_16 (by decide) rfl rfl rfl dX9_card_64 ?_
          refine v_aload_n K 0 dX9_card_67 rfl rfl ?_
          refine v_geti K ff_X9_72 (by decide) rfl rfl dX9_card_68 ?_
          refine v_eqi ((nc : Int)) (by simp [z_up, hnc]) ?_
          refine v_iload_n K 3 dX9_card_71 rfl rfl ?_
          refine v_iast K (nc) (by decide) rfl rfl (by show _ < 12; omega) dX9_card_72 ?_
          refine v_aload_n K 0 dX9_card_73 rfl rfl ?_
          refine v_dup K dX9_card_74 rfl ?_
          refine v_geti K ff_X9_72 (by decide) rfl rfl dX9_card_75 ?_
          refine v_eqi ((nc : Int)) (by simp [z_up, hnc]) ?_
          refine v_iconst K dX9_card_78 ?_
          refine v_iadd K dX9_card_79 ?_
          refine v_puti K fp_X9_72 (by decide) rfl rfl dX9_card_80 ?_
          refine v_aload_n K 0 dX9_card_83 rfl rfl ?_
          refine v_geti K ff_X9_72 (by decide) rfl rfl dX9_card_84 ?_
          refine v_eqi ((nc : Int) + 1) (by simp [z_up]) ?_
          refine v_iconst K dX9_card_87 ?_
          refine v_isub K dX9_card_88 ?_
          exact v_ri K E dX9_card_89 ⟨rfl, Or.inr ⟨by omega, Or.inr ⟨by omega, by omega, rfl⟩⟩⟩
        · refine v_bipush K dX9_card_40 (by decide) ?_
          exact v_ri K E dX9_card_42 ⟨rfl, Or.inr ⟨by omega, Or.inl ⟨by omega, rfl, rfl⟩⟩⟩
      · refine v_bipush K dX9_card_28 (by decide) ?_
        exact v_ri K E dX9_card_30 ⟨rfl, Or.inl ⟨rfl, rfl, by omega⟩⟩
set_option maxRecDepth 100000 in
set_option maxHeartbeats 4000000 in
theorem c_X9_power {l : Launch} {D : va_G} {Z : ZC} {Q : Nat → Nat} {MI ML : ZM} (hM : mOk MI) (c v : Int) (hc : rg c) (hv : rg v) : C_X9_power l D Z Q [.ref (Q 90), .int (iI c), .int (iI v)] MI ML (zI fun r M L => L = ML ∧ ((r = -2 ∧ M = MI ∧ ¬ (0 ≤ c ∧ c < MI 90 0 ∧ 0 ≤ v ∧ v ≤ 9)) ∨ ((0 ≤ c ∧ c < MI 90 0 ∧ 0 ≤ v ∧ v ≤ 9) ∧ r = MI 93 c.toNat ∧ M = z_up MI 93 c.toNat v))) := by
  refine CM.of (by decide +kernel) (Nat.le_of_ble_eq_true rfl) ?_
  intro X K E _ _ _ _
  show V X (0, 0) 110 Q z_rf MI ML 0 [(0, .ref (Q 90)), (1, .int (iI c)), (2, .int (iI v))] []
  have u0 := hM.1
  have u4 := hM.2.1
  have u7 := hM.2.2.1
  have ua := hM.2.2.2.1
  have us := hM.2.2.2.2.1
  have uk := hM.2.2.2.2.2
  refine v_aload_n K 0 dX9_power_0 rfl rfl ?_
  refine v_iload_n K 1 dX9_power_1 rfl rfl ?_
  refine v_cVi K (c_X9_isCard hM _ hc) rfl fc_X9_82 wm_X9_isCard ws_X9_isCard (by decide) 9 rfl (by decide) rfl rfl (by decide) (Nat.le_of_ble_eq_true rfl) dX9_power_2 (fun r2 M2 L2 h2 => ?_)
  obtain ⟨hm2, hl2, hr2⟩ := h2
  subst M2 L2
  refine v_if_eq K 18 ⟨by omega, by omega⟩ dX9_power_5 (by decide) (fun h5 => ?_) (fun h5 => ?_)
  · refine v_bipush K dX9_power_18 (by decide) ?_
    exact v_ri K E dX9_power_20 ⟨rfl, Or.inl ⟨rfl, rfl, by omega⟩⟩
  · refine v_iload_n K 2 dX9_power_8 rfl rfl ?_
    refine v_iconst K dX9_power_9 ?_
    refine v_bipush K dX9_power_10 (by decide) ?_
    refine v_cSi K (c_X9_in _ _ _ hv rg_0 ⟨by omega, by omega⟩) rfl fc_X9_75 wt_X9_in rfl (by decide) (Nat.le_of_ble_eq_true rfl) dX9_power_12 (fun r12 M12 L12 h12 => ?_)
    obtain ⟨hm12, hl12, hr12⟩ := h12
    subst M12 L12
    refine v_if_ne K 21 ⟨by omega, by omega⟩ dX9_power_15 (by decide) (fun h15 => ?_) (fun h15 => ?_)
    · refine v_aload_n K 0 dX9_power_21 rfl rfl ?_
      refine v_getr K ff_X9_16 (by decide) rfl rfl rfl dX9_power_22 ?_
      refine v_iload_n K 1 dX9_power_25 rfl rfl ?_
      refine v_iald K (c.toNat) (by decide) rfl (by omega) (by show _ < 12; omega) dX9_power_26 ?_
      refine v_istore_n K (fun q9 => [(3, .int (iI q9)), (0, .ref (Q 90)), (1, .int (iI c)), (2, .int (iI v))]) dX9_power_27 rfl (by decide) (fun _ => rfl) (fun x27 hx27 => ?_)
      refine v_aload_n K 1 dX9_power_28 rfl rfl ?_
      refine v_getr K ff_X9_16 (by decide) rfl rfl rfl dX9_power_29 ?_
      refine v_iload_n K 2 dX9_power_32 rfl rfl ?_
      refine v_iload_n K 3 dX9_power_33 rfl rfl ?_
      refine v_iast K (c.toNat) (by decide) rfl (by omega) (by show _ < 12; omega) dX9_power_34 ?_
      refine v_iload_n K 0 dX9_power_35 rfl rfl ?_
      exact v_ri K E dX9_power_36 ⟨rfl, Or.inr ⟨by omega, hx27, rfl⟩⟩
    · refine v_bipush K dX9_power_18 (by decide) ?_
      exact v_ri K E dX9_power_20 ⟨rfl, Or.inl ⟨rfl, rfl, by omega⟩⟩
set_option maxRecDepth 100000 in
set_option maxHeartbeats 4000000 in
theorem c_X9_deck {l : Launch} {D : va_G} {Z : ZC} {Q : Nat → Nat} {MI ML : ZM} (hM : mOk MI) (nd : Nat) (hnd : MI 90 4 = nd) : C_X9_deck l D Z Q [.ref (Q 90)] MI ML (zI fun r M L => L = ML ∧ ((nd = 5 ∧ r = -4 ∧ M = MI) ∨ (nd < 5 ∧ r = nd ∧ M = z_up MI 90 4 (nd + 1)))) := by
  refine CM.of (by decide +kernel) (Nat.le_of_ble_eq_true rfl) ?_
  intro X K E _ _ _ _
  show V X (0, 0) 110 Q z_rf MI ML 0 [(0, .ref (Q 90))] []
  have u0 := hM.1
  have u4 := hM.2.1
  have u7 := hM.2.2.1
  have ua := hM.2.2.2.1
  have us := hM.2.2.2.2.1
  have uk := hM.2.2.2.2.2
  refine v_aload_n K 0 dX9_deck_0 rfl rfl ?_
  refine v_geti K ff_X9_79 (by decide) rfl rfl dX9_deck_1 ?_
  refine v_eqi ((nd : Int)) (by simp [z_up, hnd]) ?_
  refine v_iconst K dX9_deck_4 ?_
  refine v_icmp_ne K 11 ⟨by omega, by omega⟩ ⟨by omega, by omega⟩ dX9_deck_5 (by decide) (fun h5 => ?_) (fun h5 => ?_)
  · refine v_aload_n K 0 dX9_deck_11 rfl rfl ?_
    refine v_dup K dX9_deck_12 rfl ?_
    refine v_geti K ff_X9_79 (by decide) rfl rfl dX9_deck_13 ?_
    refine v_eqi ((nd : Int)) (by simp [z_up, hnd]) ?_
    refine v_iconst K dX9_deck_16 ?_
    refine v_iadd K dX9_deck_17 ?_
    refine v_puti K fp_X9_79 (by decide) rfl rfl dX9_deck_18 ?_
    refine v_aload_n K 0 dX9_deck_21 rfl rfl ?_
    refine v_geti K ff_X9_79 (by decide) rfl rfl dX9_deck_22 ?_
    refine v_eqi ((nd : Int) + 1) (by simp [z_up]) ?_
    refine v_iconst K dX9_deck_25 ?_
    refine v_isub K dX9_deck_26 ?_
    exact v_ri K E dX9_deck_27 ⟨rfl, Or.inr ⟨by omega, by omega, rfl⟩⟩
  · refine v_bipush K dX9_deck_8 (by decide) ?_
    exact v_ri K E dX9_deck_10 ⟨rfl, Or.inl ⟨by omega, rfl, rfl⟩⟩
set_option maxRecDepth 100000 in
set_option maxHeartbeats 4000000 in
theorem c_X9_add {l : Launch} {D : va_G} {Z : ZC} {Q : Nat → Nat} {MI ML : ZM} (hM : mOk MI) (d c : Int) (hd : rg d) (hc : rg c) : C_X9_add l D Z Q [.ref (Q 90), .int (iI d), .int (iI c)] MI ML (zI fun r M L => L = ML ∧ ((r = -2 ∧ M = MI ∧ ¬ (0 ≤ d ∧ d < MI 90 4 ∧ 0 ≤ c ∧ c < MI 90 0)) ∨ ((0 ≤ d ∧ d < MI 90 4 ∧ 0 ≤ c ∧ c < MI 90 0) ∧ ((MI 94 d.toNat = 10 ∧ r = -4 ∧ M = MI) ∨ (MI 94 d.toNat < 10 ∧ r = MI 94 d.toNat + 1 ∧ M = z_up (z_up MI 95 (10 * d.toNat + (MI 94 d.toNat).toNat) c) 94 d.toNat (MI 94 d.toNat + 1)))))) := by
  refine CM.of (by decide +kernel) (Nat.le_of_ble_eq_true rfl) ?_
  intro X K E _ _ _ _
  show V X (0, 0) 110 Q z_rf MI ML 0 [(0, .ref (Q 90)), (1, .int (iI d)), (2, .int (iI c))] []
  have u0 := hM.1
  have u4 := hM.2.1
  have u7 := hM.2.2.1
  have ua := hM.2.2.2.1
  have us := hM.2.2.2.2.1
  have uk := hM.2.2.2.2.2
  refine v_aload_n K 0 dX9_add_0 rfl rfl ?_
  refine v_iload_n K 1 dX9_add_1 rfl rfl ?_
  refine v_cVi K (c_X9_isDeck hM _ hd) rfl fc_X9_86 wm_X9_isDeck ws_X9_isDeck (by decide) 9 rfl (by decide) rfl rfl (by decide) (Nat.le_of_ble_eq_true rfl) dX9_add_2 (fun r2 M2 L2 h2 => ?_)
  obtain ⟨hm2, hl2, hr2⟩ := h2
  subst M2 L2
  refine v_if_eq K 16 ⟨by omega, by omega⟩ dX9_add_5 (by decide) (fun h5 => ?_) (fun h5 => ?_)
  · refine v_bipush K dX9_add_16 (by decide) ?_
    exact v_ri K E dX9_add_18 ⟨rfl, Or.inl ⟨rfl, rfl, by omega⟩⟩
  · refine v_aload_n K 0 dX9_add_8 rfl rfl ?_
    refine v_iload_n K 2 dX9_add_9 rfl rfl ?_
    refine v_cVi K (c_X9_isCard hM _ hc) rfl fc_X9_82 wm_X9_isCard ws_X9_isCard (by decide) 9 rfl (by decide) rfl rfl (by decide) (Nat.le_of_ble_eq_true rfl) dX9_add_10 (fun r10 M10 L10 h10 => ?_)
    obtain ⟨hm10, hl10, hr10⟩ := h10
    subst M10 L10
    refine v_if_ne K 19 ⟨by omega, by omega⟩ dX9_add_13 (by decide) (fun h13 => ?_) (fun h13 => ?_)
    · refine v_aload_n K 0 dX9_add_19 rfl rfl ?_
      refine v_getr K ff_X9_19 (by decide) rfl rfl rfl dX9_add_20 ?_
      refine v_iload_n K 1 dX9_add_23 rfl rfl ?_
      refine v_iald K (d.toNat) (by decide) rfl (by omega) (by show _ < 5; omega) dX9_add_24 ?_
      have w := us d.toNat (by omega)
      refine v_bipush K dX9_add_25 (by decide) ?_
      refine v_icmp_ne K 33 ⟨by omega, by omega⟩ ⟨by omega, by omega⟩ dX9_add_27 (by decide) (fun h27 => ?_) (fun h27 => ?_)
      · refine v_aload_n K 0 dX9_add_33 rfl rfl ?_
        refine v_getr K ff_X9_22 (by decide) rfl rfl rfl dX9_add_34 ?_
        refine v_bipush K dX9_add_37 (by decide) ?_
        refine v_iload_n K 1 dX9_add_39 rfl rfl ?_
        refine v_imul K dX9_add_40 ?_
        refine v_aload_n K 0 dX9_add_41 rfl rfl ?_
        refine v_getr K ff_X9_19 (by decide) rfl rfl rfl dX9_add_42 ?_
        refine v_iload_n K 1 dX9_add_45 rfl rfl ?_
        refine v_iald K (d.toNat) (by decide) rfl (by omega) (by show _ < 5; omega) dX9_add_46 ?_
        refine v_iadd K dX9_add_47 ?_
        refine v_iload_n K 2 dX9_add_48 rfl rfl ?_
        refine v_iast K (10 * d.toNat + (MI 94 d.toNat).toNat) (by decide) rfl (by omega) (by show _ < 50; omega) dX9_add_49 ?_
        refine v_aload_n K 0 dX9_add_50 rfl rfl ?_
        refine v_getr K ff_X9_19 (by decide) rfl rfl rfl dX9_add_51 ?_
        refine v_iload_n K 1 dX9_add_54 rfl rfl ?_
        refine v_dup2_11 K dX9_add_55 rfl rfl ?_
        refine v_iald K (d.toNat) (by decide) rfl (by omega) (by show _ < 5; omega) dX9_add_56 ?_
        refine v_eqi (MI 94 d.toNat) (by simp [z_up]) ?_
        refine v_iconst K dX9_add_57 ?_
        refine v_iadd K dX9_add_58 ?_
        refine v_iast K (d.toNat) (by decide) rfl (by omega) (by show _ < 5; omega) dX9_add_59 ?_
        refine v_aload_n K 0 dX9_add_60 rfl rfl ?_
        refine v_getr K ff_X9_19 (by decide) rfl rfl rfl dX9_add_61 ?_
        refine v_iload_n K 1 dX9_add_64 rfl rfl ?_
        refine v_iald K (d.toNat) (by decide) rfl (by omega) (by show _ < 5; omega) dX9_add_65 ?_
        refine v_eqi (MI 94 d.toNat + 1) (by simp [z_up]) ?_
        exact v_ri K E dX9_add_66 ⟨rfl, Or.inr ⟨by omega, Or.inr ⟨by omega, rfl, rfl⟩⟩⟩
      · refine v_bipush K dX9_add_30 (by decide) ?_
        exact v_ri K E dX9_add_32 ⟨rfl, Or.inr ⟨by omega, Or.inl ⟨by omega, rfl, rfl⟩⟩⟩
    · refine v_bipush K dX9_add_16 (by decide) ?_
      exact v_ri K E dX9_add_18 ⟨rfl, Or.inl ⟨rfl, rfl, by omega⟩⟩
set_option maxRecDepth 100000 in
set_option maxHeartbeats 4000000 in
theorem c_X9_isPlace {l : Launch} {D : va_G} {Z : ZC} {Q : Nat → Nat} {MI ML : ZM} (hM : mOk MI) (d k : Int) (hd : rg d) (hk : rg k) : C_X9_isPlace l D Z Q [.ref (Q 90), .int (iI d), .int (iI k)] MI ML (zI fun r M L => M = MI ∧ L = ML ∧ ((r = 1 ∧ 0 ≤ d ∧ d < MI 90 4 ∧ 0 ≤ k ∧ k < MI 94 d.toNat) ∨ (r = 0 ∧ (d < 0 ∨ MI 90 4 ≤ d ∨ k < 0 ∨ MI 94 d.toNat ≤ k)))) := by
  refine CM.of (by decide +kernel) (Nat.le_of_ble_eq_true rfl) ?_
  intro X K E _ _ _ _
  show V X (0, 0) 110 Q z_rf MI ML 0 [(0, .ref (Q 90)), (1, .int (iI d)), (2, .int (iI k))] []
  have u0 := hM.1
  have u4 := hM.2.1
  have u7 := hM.2.2.1
  have ua := hM.2.2.2.1
  have us := hM.2.2.2.2.1
  have uk := hM.2.2.2.2.2
  refine v_aload_n K 0 dX9_isPlace_0 rfl rfl ?_
  refine v_iload_n K 1 dX9_isPlace_1 rfl rfl ?_
  refine v_cVi K (c_X9_isDeck hM _ hd) rfl fc_X9_86 wm_X9_isDeck ws_X9_isDeck (by decide) 9 rfl (by decide) rfl rfl (by decide) (Nat.le_of_ble_eq_true rfl) dX9_isPlace_2 (fun r2 M2 L2 h2 => ?_)
  obtain ⟨hm2, hl2, hr2⟩ := h2
  subst M2 L2
  refine v_if_eq K 28 ⟨by omega, by omega⟩ dX9_isPlace_5 (by decide) (fun h5 => ?_) (fun h5 => ?_)
  · refine v_iconst K dX9_isPlace_28 ?_
    exact v_rz K E (Or.inl rfl) dX9_isPlace_29 ⟨rfl, rfl, by omega⟩
  · refine v_iload_n K 2 dX9_isPlace_8 rfl rfl ?_
    refine v_iconst K dX9_isPlace_9 ?_
    refine v_aload_n K 0 dX9_isPlace_10 rfl rfl ?_
    refine v_getr K ff_X9_19 (by decide) rfl rfl rfl dX9_isPlace_11 ?_
    refine v_iload_n K 1 dX9_isPlace_14 rfl rfl ?_
    refine v_iald K (d.toNat) (by decide) rfl (by omega) (by show _ < 5; omega) dX9_isPlace_15 ?_
    have w := us d.toNat (by omega)
    refine v_iconst K dX9_isPlace_16 ?_
    refine v_isub K dX9_isPlace_17 ?_
    refine v_cSi K (c_X9_in _ _ _ hk rg_0 ⟨by omega, by omega⟩) rfl fc_X9_75 wt_X9_in rfl (by decide) (Nat.le_of_ble_eq_true rfl) dX9_isPlace_18 (fun r18 M18 L18 h18 => ?_)
    obtain ⟨hm18, hl18, hr18⟩ := h18
    subst M18 L18
    refine v_if_eq K 28 ⟨by omega, by omega⟩ dX9_isPlace_21 (by decide) (fun h21 => ?_) (fun h21 => ?_)
    · refine v_iconst K dX9_isPlace_28 ?_
      exact v_rz K E (Or.inl rfl) dX9_isPlace_29 ⟨rfl, rfl, by omega⟩
    · refine v_iconst K dX9_isPlace_24 ?_
      refine v_goto K 29 dX9_isPlace_25 (by decide) ?_
      exact v_rz K E (Or.inr rfl) dX9_isPlace_29 ⟨rfl, rfl, by omega⟩
/-- the row of deck d without its place p, the shift done below place k -/
def dropK (M : ZM) (d p k : Nat) : ZM := fun a b => if a = 94 ∧ b = d then M 94 d - 1 else if a = 95 ∧ 10 * d + p ≤ b ∧ b < 10 * d + k then M 95 (b + 1) else M a b
theorem dropK_0 (M : ZM) (d p : Nat) : z_up M 94 d (M 94 d - 1) = dropK M d p p := by
  funext a b
  simp only [z_up, dropK]
  by_cases h : a = 94 ∧ b = d
  · rw [if_pos h, if_pos h]
  · rw [if_neg h, if_neg h, if_neg (by omega)]
theorem dropK_s {M : ZM} {d p k : Nat} (hp : p ≤ k) : z_up (dropK M d p k) 95 (10 * d + k) (M 95 (10 * d + k + 1)) = dropK M d p (k + 1) := by
  funext a b
  simp only [z_up, dropK]
  by_cases h1 : a = 95 ∧ b = 10 * d + k
  · obtain ⟨rfl, rfl⟩ := h1
    rw [if_pos ⟨rfl, rfl⟩, if_neg (by omega), if_pos (by omega)]
  · rw [if_neg h1]
    by_cases h : a = 94 ∧ b = d
    · rw [if_pos h, if_pos h]
    · rw [if_neg h, if_neg h]
      by_cases h2 : a = 95 ∧ 10 * d + p ≤ b ∧ b < 10 * d + k
      · rw [if_pos h2, if_pos (by omega)]
      · rw [if_neg h2, if_neg (by omega)]
set_option maxRecDepth 100000 in
set_option maxHeartbeats 4000000 in
theorem l_X9_dropAt {X : VX} {Q : Nat → Nat} {MI ML : ZM} (K : VK X cX9_dropAt RX9 4 none 0 0 0 0) (d p : Nat) (hd : d < 5) (h0 : (p : Int) < MI 94 d) (h1 : MI 94 d ≤ 10) (E : VE X 0 0 110 Q (zq Q (zV fun M L => L = ML ∧ M = dropK MI d p ((MI 94 d).toNat - 1)))) : ∀ (n k : Nat), p ≤ k → k ≤ (MI 94 d).toNat - 1 → (MI 94 d).toNat - 1 < k + n → V X (0, 0) 110 Q z_rf (dropK MI d p k) ML 12 [(3, .int (iI (k : Int))), (0, .ref (Q 90)), (1, .int (iI (d : Int))), (2, .int (iI (p : Int)))] [] := by
  intro n
  induction n with
  | zero => intro k hp hk hn; exact absurd hn (by omega)
  | succ n ih =>
    intro k hp hk hn
    refine v_iload_n K 0 dX9_dropAt_12 rfl rfl ?_
    refine v_aload_n K 1 dX9_dropAt_13 rfl rfl ?_
    refine v_getr K ff_X9_19 (by decide) rfl rfl rfl dX9_dropAt_14 ?_
    refine v_iload_n K 2 dX9_dropAt_17 rfl rfl ?_
    refine v_iald K (d) (by decide) rfl rfl (by show _ < 5; omega) dX9_dropAt_18 ?_
    refine v_eqi (MI 94 d - 1) (by simp [dropK]) ?_
    refine v_icmp_ge K 52 ⟨by omega, by omega⟩ ⟨by omega, by omega⟩ dX9_dropAt_19 (by decide) (fun h19 => ?_) (fun h19 => ?_)
    · obtain rfl : k = (MI 94 d).toNat - 1 := by omega
      exact v_rv K E dX9_dropAt_52 ⟨rfl, rfl⟩
    · refine v_aload_n K 1 dX9_dropAt_22 rfl rfl ?_
      refine v_getr K ff_X9_22 (by decide) rfl rfl rfl dX9_dropAt_23 ?_
      refine v_bipush K dX9_dropAt_26 (by decide) ?_
      refine v_iload_n K 2 dX9_dropAt_28 rfl rfl ?_
      refine v_imul K dX9_dropAt_29 ?_
      refine v_iload_n K 0 dX9_dropAt_30 rfl rfl ?_
      refine v_iadd K dX9_dropAt_31 ?_
      refine v_aload_n K 1 dX9_dropAt_32 rfl rfl ?_
      refine v_getr K ff_X9_22 (by decide) rfl rfl rfl dX9_dropAt_33 ?_
      refine v_bipush K dX9_dropAt_36 (by decide) ?_
      refine v_iload_n K 2 dX9_dropAt_38 rfl rfl ?_
      refine v_imul K dX9_dropAt_39 ?_
      refine v_iload_n K 0 dX9_dropAt_40 rfl rfl ?_
      refine v_iadd K dX9_dropAt_41 ?_
      refine v_iconst K dX9_dropAt_42 ?_
      refine v_iadd K dX9_dropAt_43 ?_
      refine v_iald K (10 * d + k + 1) (by decide) rfl (by omega) (by show _ < 50; omega) dX9_dropAt_44 ?_
      refine v_eqi (MI 95 (10 * d + k + 1)) (by simp [dropK]; omega) ?_
      refine v_iast K (10 * d + k) (by decide) rfl (by omega) (by show _ < 50; omega) dX9_dropAt_45 ?_
      refine v_iinc K 0 (fun q9 => [(3, .int (iI q9)), (0, .ref (Q 90)), (1, .int (iI (d : Int))), (2, .int (iI (p : Int)))]) dX9_dropAt_46 rfl (by decide) (fun _ => rfl) (fun y hy => ?_)
      refine v_goto K 12 dX9_dropAt_49 (by decide) ?_
      obtain rfl : y = ((k + 1 : Nat) : Int) := by omega
      refine v_eqM (dropK_s hp) ?_
      exact ih (k + 1) (by omega) (by omega) (by omega)
set_option maxRecDepth 100000 in
set_option maxHeartbeats 4000000 in
theorem c_X9_dropAt {l : Launch} {D : va_G} {Z : ZC} {Q : Nat → Nat} {MI ML : ZM} (d p : Nat) (hd : d < 5) (h0 : (p : Int) < MI 94 d) (h1 : MI 94 d ≤ 10) (d9 p9 : Int) (hd9 : d9 = d) (hp9 : p9 = p) : C_X9_dropAt l D Z Q [.ref (Q 90), .int (iI d9), .int (iI p9)] MI ML (zV fun M L => L = ML ∧ M = dropK MI d p ((MI 94 d).toNat - 1)) := by
  subst hd9
  subst hp9
  refine CM.of (by decide +kernel) (Nat.le_of_ble_eq_true rfl) ?_
  intro X K E _ _ _ _
  show V X (0, 0) 110 Q z_rf MI ML 0 [(0, .ref (Q 90)), (1, .int (iI (d : Int))), (2, .int (iI (p : Int)))] []
  refine v_aload_n K 0 dX9_dropAt_0 rfl rfl ?_
  refine v_getr K ff_X9_19 (by decide) rfl rfl rfl dX9_dropAt_1 ?_
  refine v_iload_n K 1 dX9_dropAt_4 rfl rfl ?_
  refine v_dup2_11 K dX9_dropAt_5 rfl rfl ?_
  refine v_iald K (d) (by decide) rfl rfl (by show _ < 5; omega) dX9_dropAt_6 ?_
  refine v_iconst K dX9_dropAt_7 ?_
  refine v_isub K dX9_dropAt_8 ?_
  refine v_iast K (d) (by decide) rfl rfl (by show _ < 5; omega) dX9_dropAt_9 ?_
  refine v_eqM (dropK_0 MI d p) ?_
  refine v_iload_n K 2 dX9_dropAt_10 rfl rfl ?_
  refine v_istore_n K (fun q9 => [(3, .int (iI q9)), (0, .ref (Q 90)), (1, .int (iI (d : Int))), (2, .int (iI (p : Int)))]) dX9_dropAt_11 rfl (by decide) (fun _ => rfl) (fun y hy => ?_)
  subst hy
  exact l_X9_dropAt K d p hd h0 h1 E 11 p (Nat.le_refl _) (by omega) (by omega)
set_option maxRecDepth 100000 in
set_option maxHeartbeats 4000000 in
theorem c_X9_drop {l : Launch} {D : va_G} {Z : ZC} {Q : Nat → Nat} {MI ML : ZM} (hM : mOk MI) (d k : Int) (hd : rg d) (hk : rg k) : C_X9_drop l D Z Q [.ref (Q 90), .int (iI d), .int (iI k)] MI ML (zI fun r M L => L = ML ∧ ((r = -2 ∧ M = MI ∧ ¬ (0 ≤ d ∧ d < MI 90 4 ∧ 0 ≤ k ∧ k < MI 94 d.toNat)) ∨ ((0 ≤ d ∧ d < MI 90 4 ∧ 0 ≤ k ∧ k < MI 94 d.toNat) ∧ r = MI 95 (10 * d.toNat + k.toNat) ∧ M = dropK MI d.toNat k.toNat ((MI 94 d.toNat).toNat - 1)))) := by
  refine CM.of (by decide +kernel) (Nat.le_of_ble_eq_true rfl) ?_
  intro X K E _ _ _ _
  show V X (0, 0) 110 Q z_rf MI ML 0 [(0, .ref (Q 90)), (1, .int (iI d)), (2, .int (iI k))] []
  have u0 := hM.1
  have u4 := hM.2.1
  have u7 := hM.2.2.1
  have ua := hM.2.2.2.1
  have us := hM.2.2.2.2.1
  have uk := hM.2.2.2.2.2
  refine v_aload_n K 0 dX9_drop_0 rfl rfl ?_
  refine v_iload_n K 1 dX9_drop_1 rfl rfl ?_
  refine v_iload_n K 2 dX9_drop_2 rfl rfl ?_
  refine v_cVi K (c_X9_isPlace hM _ _ hd hk) rfl fc_X9_89 wm_X9_isPlace ws_X9_isPlace (by decide) 9 rfl (by decide) rfl rfl (by decide) (Nat.le_of_ble_eq_true rfl) dX9_drop_3 (fun r3 M3 L3 h3 => ?_)
  obtain ⟨hm3, hl3, hr3⟩ := h3
  subst M3 L3
  refine v_if_ne K 12 ⟨by omega, by omega⟩ dX9_drop_6 (by decide) (fun h6 => ?_) (fun h6 => ?_)
  · have w := us d.toNat (by omega)
    refine v_aload_n K 0 dX9_drop_12 rfl rfl ?_
    refine v_getr K ff_X9_22 (by decide) rfl rfl rfl dX9_drop_13 ?_
    refine v_bipush K dX9_drop_16 (by decide) ?_
    refine v_iload_n K 1 dX9_drop_18 rfl rfl ?_
    refine v_imul K dX9_drop_19 ?_
    refine v_iload_n K 2 dX9_drop_20 rfl rfl ?_
    refine v_iadd K dX9_drop_21 ?_
    refine v_iald K (10 * d.toNat + k.toNat) (by decide) rfl (by omega) (by show _ < 50; omega) dX9_drop_22 ?_
    refine v_istore_n K (fun q9 => [(3, .int (iI q9)), (0, .ref (Q 90)), (1, .int (iI d)), (2, .int (iI k))]) dX9_drop_23 rfl (by decide) (fun _ => rfl) (fun x23 hx23 => ?_)
    refine v_aload_n K 1 dX9_drop_24 rfl rfl ?_
    refine v_iload_n K 2 dX9_drop_25 rfl rfl ?_
    refine v_iload_n K 3 dX9_drop_26 rfl rfl ?_
    refine v_cVv K (c_X9_dropAt d.toNat k.toNat (by omega) (by omega) (by omega) _ _ (by omega) (by omega)) rfl fc_X9_93 wm_X9_dropAt ws_X9_dropAt (by decide) 9 rfl (by decide) rfl rfl (by decide) (Nat.le_of_ble_eq_true rfl) dX9_drop_27 (fun M27 L27 h27 => ?_)
    obtain ⟨hl27, hm27⟩ := h27
    subst M27 L27
    refine v_iload_n K 0 dX9_drop_30 rfl rfl ?_
    exact v_ri K E dX9_drop_31 ⟨rfl, Or.inr ⟨by omega, hx23, rfl⟩⟩
  · refine v_bipush K dX9_drop_9 (by decide) ?_
    exact v_ri K E dX9_drop_11 ⟨rfl, Or.inl ⟨rfl, rfl, by omega⟩⟩
set_option maxRecDepth 100000 in
set_option maxHeartbeats 4000000 in
theorem c_X9_swap {l : Launch} {D : va_G} {Z : ZC} {Q : Nat → Nat} {MI ML : ZM} (hM : mOk MI) (d a b : Int) (hd : rg d) (ha : rg a) (hb : rg b) : C_X9_swap l D Z Q [.ref (Q 90), .int (iI d), .int (iI a), .int (iI b)] MI ML (zI fun r M L => L = ML ∧ ((r = -2 ∧ M = MI ∧ ¬ (0 ≤ d ∧ d < MI 90 4 ∧ 0 ≤ a ∧ a < MI 94 d.toNat ∧ 0 ≤ b ∧ b < MI 94 d.toNat)) ∨ ((0 ≤ d ∧ d < MI 90 4 ∧ 0 ≤ a ∧ a < MI 94 d.toNat ∧ 0 ≤ b ∧ b < MI 94 d.toNat) ∧ r = 1 ∧ M = z_up (z_up MI 95 (10 * d.toNat + a.toNat) (MI 95 (10 * d.toNat + b.toNat))) 95 (10 * d.toNat + b.toNat) (MI 95 (10 * d.toNat + a.toNat))))) := by
  refine CM.of (by decide +kernel) (Nat.le_of_ble_eq_true rfl) ?_
  intro X K E _ _ _ _
  show V X (0, 0) 110 Q z_rf MI ML 0 [(0, .ref (Q 90)), (1, .int (iI d)), (2, .int (iI a)), (3, .int (iI b))] []
  have u0 := hM.1
  have u4 := hM.2.1
  have u7 := hM.2.2.1
  have ua := hM.2.2.2.1
  have us := hM.2.2.2.2.1
  have uk := hM.2.2.2.2.2
  refine v_aload_n K 0 dX9_swap_0 rfl rfl ?_
  refine v_iload_n K 1 dX9_swap_1 rfl rfl ?_
  refine v_iload_n K 2 dX9_swap_2 rfl rfl ?_
  refine v_cVi K (c_X9_isPlace hM _ _ hd ha) rfl fc_X9_89 wm_X9_isPlace ws_X9_isPlace (by decide) 9 rfl (by decide) rfl rfl (by decide) (Nat.le_of_ble_eq_true rfl) dX9_swap_3 (fun r3 M3 L3 h3 => ?_)
  obtain ⟨hm3, hl3, hr3⟩ := h3
  subst M3 L3
  refine v_if_eq K 18 ⟨by omega, by omega⟩ dX9_swap_6 (by decide) (fun h6 => ?_) (fun h6 => ?_)
  · refine v_bipush K dX9_swap_18 (by decide) ?_
    exact v_ri K E dX9_swap_20 ⟨rfl, Or.inl ⟨rfl, rfl, by omega⟩⟩
  · refine v_aload_n K 0 dX9_swap_9 rfl rfl ?_
    refine v_iload_n K 1 dX9_swap_10 rfl rfl ?_
    refine v_iload_n K 3 dX9_swap_11 rfl rfl ?_
    refine v_cVi K (c_X9_isPlace hM _ _ hd hb) rfl fc_X9_89 wm_X9_isPlace ws_X9_isPlace (by decide) 9 rfl (by decide) rfl rfl (by decide) (Nat.le_of_ble_eq_true rfl) dX9_swap_12 (fun r12 M12 L12 h12 => ?_)
    obtain ⟨hm12, hl12, hr12⟩ := h12
    subst M12 L12
    refine v_if_ne K 21 ⟨by omega, by omega⟩ dX9_swap_15 (by decide) (fun h15 => ?_) (fun h15 => ?_)
    · have w := us d.toNat (by omega)
      refine v_aload_n K 0 dX9_swap_21 rfl rfl ?_
      refine v_getr K ff_X9_22 (by decide) rfl rfl rfl dX9_swap_22 ?_
      refine v_bipush K dX9_swap_25 (by decide) ?_
      refine v_iload_n K 1 dX9_swap_27 rfl rfl ?_
      refine v_imul K dX9_swap_28 ?_
      refine v_iload_n K 2 dX9_swap_29 rfl rfl ?_
      refine v_iadd K dX9_swap_30 ?_
      refine v_iald K (10 * d.toNat + a.toNat) (by decide) rfl (by omega) (by show _ < 50; omega) dX9_swap_31 ?_
      refine v_istore K (fun q9 => [(4, .int (iI q9)), (0, .ref (Q 90)), (1, .int (iI d)), (2, .int (iI a)), (3, .int (iI b))]) dX9_swap_32 (by decide) (fun _ => rfl) (fun x32 hx32 => ?_)
      refine v_aload_n K 1 dX9_swap_34 rfl rfl ?_
      refine v_getr K ff_X9_22 (by decide) rfl rfl rfl dX9_swap_35 ?_
      refine v_bipush K dX9_swap_38 (by decide) ?_
      refine v_iload_n K 2 dX9_swap_40 rfl rfl ?_
      refine v_imul K dX9_swap_41 ?_
      refine v_iload_n K 3 dX9_swap_42 rfl rfl ?_
      refine v_iadd K dX9_swap_43 ?_
      refine v_aload_n K 1 dX9_swap_44 rfl rfl ?_
      refine v_getr K ff_X9_22 (by decide) rfl rfl rfl dX9_swap_45 ?_
      refine v_bipush K dX9_swap_48 (by decide) ?_
      refine v_iload_n K 2 dX9_swap_50 rfl rfl ?_
      refine v_imul K dX9_swap_51 ?_
      refine v_iload_n K 4 dX9_swap_52 rfl rfl ?_
      refine v_iadd K dX9_swap_53 ?_
      refine v_iald K (10 * d.toNat + b.toNat) (by decide) rfl (by omega) (by show _ < 50; omega) dX9_swap_54 ?_
      refine v_iast K (10 * d.toNat + a.toNat) (by decide) rfl (by omega) (by show _ < 50; omega) dX9_swap_55 ?_
      refine v_aload_n K 1 dX9_swap_56 rfl rfl ?_
      refine v_getr K ff_X9_22 (by decide) rfl rfl rfl dX9_swap_57 ?_
      refine v_bipush K dX9_swap_60 (by decide) ?_
      refine v_iload_n K 2 dX9_swap_62 rfl rfl ?_
      refine v_imul K dX9_swap_63 ?_
      refine v_iload_n K 4 dX9_swap_64 rfl rfl ?_
      refine v_iadd K dX9_swap_65 ?_
      refine v_iload K 0 dX9_swap_66 rfl ?_
      refine v_iast K (10 * d.toNat + b.toNat) (by decide) rfl (by omega) (by show _ < 50; omega) dX9_swap_68 ?_
      refine v_iconst K dX9_swap_69 ?_
      exact v_ri K E dX9_swap_70 ⟨rfl, Or.inr ⟨by omega, rfl, by rw [hx32]⟩⟩
    · refine v_bipush K dX9_swap_18 (by decide) ?_
      exact v_ri K E dX9_swap_20 ⟨rfl, Or.inl ⟨rfl, rfl, by omega⟩⟩
set_option maxRecDepth 100000 in
set_option maxHeartbeats 4000000 in
theorem c_X9_at {l : Launch} {D : va_G} {Z : ZC} {Q : Nat → Nat} {MI ML : ZM} (hM : mOk MI) (d k : Int) (hd : rg d) (hk : rg k) : C_X9_at l D Z Q [.ref (Q 90), .int (iI d), .int (iI k)] MI ML (zI fun r M L => L = ML ∧ M = MI ∧ ((r = -2 ∧ ¬ (0 ≤ d ∧ d < MI 90 4 ∧ 0 ≤ k)) ∨ ((0 ≤ d ∧ d < MI 90 4 ∧ 0 ≤ k) ∧ ((k < MI 94 d.toNat ∧ r = MI 95 (10 * d.toNat + k.toNat)) ∨ (MI 94 d.toNat ≤ k ∧ r = -1))))) := by
  refine CM.of (by decide +kernel) (Nat.le_of_ble_eq_true rfl) ?_
  intro X K E _ _ _ _
  show V X (0, 0) 110 Q z_rf MI ML 0 [(0, .ref (Q 90)), (1, .int (iI d)), (2, .int (iI k))] []
  have u0 := hM.1
  have u4 := hM.2.1
  have u7 := hM.2.2.1
  have ua := hM.2.2.2.1
  have us := hM.2.2.2.2.1
  have uk := hM.2.2.2.2.2
  refine v_aload_n K 0 dX9_at_0 rfl rfl ?_
  refine v_iload_n K 1 dX9_at_1 rfl rfl ?_
  refine v_cVi K (c_X9_isDeck hM _ hd) rfl fc_X9_86 wm_X9_isDeck ws_X9_isDeck (by decide) 9 rfl (by decide) rfl rfl (by decide) (Nat.le_of_ble_eq_true rfl) dX9_at_2 (fun r2 M2 L2 h2 => ?_)
  obtain ⟨hm2, hl2, hr2⟩ := h2
  subst M2 L2
  refine v_if_eq K 12 ⟨by omega, by omega⟩ dX9_at_5 (by decide) (fun h5 => ?_) (fun h5 => ?_)
  · refine v_bipush K dX9_at_12 (by decide) ?_
    exact v_ri K E dX9_at_14 ⟨rfl, rfl, Or.inl ⟨rfl, by omega⟩⟩
  · refine v_iload_n K 2 dX9_at_8 rfl rfl ?_
    refine v_if_ge K 15 hk dX9_at_9 (by decide) (fun h9 => ?_) (fun h9 => ?_)
    · refine v_iload_n K 2 dX9_at_15 rfl rfl ?_
      refine v_aload_n K 0 dX9_at_16 rfl rfl ?_
      refine v_getr K ff_X9_19 (by decide) rfl rfl rfl dX9_at_17 ?_
      refine v_iload_n K 1 dX9_at_20 rfl rfl ?_
      refine v_iald K (d.toNat) (by decide) rfl (by omega) (by show _ < 5; omega) dX9_at_21 ?_
      have w := us d.toNat (by omega)
      refine v_icmp_ge K 39 hk ⟨by omega, by omega⟩ dX9_at_22 (by decide) (fun h22 => ?_) (fun h22 => ?_)
      · refine v_iconst K dX9_at_39 ?_
        exact v_ri K E dX9_at_40 ⟨rfl, rfl, Or.inr ⟨by omega, by first | exact Or.inl ⟨by omega, rfl⟩ | exact Or.inr ⟨by omega, rfl⟩⟩⟩
      · refine v_aload_n K 0 dX9_at_25 rfl rfl ?_
        refine v_getr K ff_X9_22 (by decide) rfl rfl rfl dX9_at_26 ?_
        refine v_bipush K dX9_at_29 (by decide) ?_
        refine v_iload_n K 1 dX9_at_31 rfl rfl ?_
        refine v_imul K dX9_at_32 ?_
        refine v_iload_n K 2 dX9_at_33 rfl rfl ?_
        refine v_iadd K dX9_at_34 ?_
        refine v_iald K (10 * d.toNat + k.toNat) (by decide) rfl (by omega) (by show _ < 50; omega) dX9_at_35 ?_
        refine v_goto K 40 dX9_at_36 (by decide) ?_
        exact v_ri K E dX9_at_40 ⟨rfl, rfl, Or.inr ⟨by omega, by first | exact Or.inl ⟨by omega, rfl⟩ | exact Or.inr ⟨by omega, rfl⟩⟩⟩
    · refine v_bipush K dX9_at_12 (by decide) ?_
      exact v_ri K E dX9_at_14 ⟨rfl, rfl, Or.inl ⟨rfl, by omega⟩⟩
set_option maxRecDepth 100000 in
set_option maxHeartbeats 4000000 in
theorem c_X9_life {l : Launch} {D : va_G} {Z : ZC} {Q : Nat → Nat} {MI ML : ZM} (v : Int) (hv : rg v) : C_X9_life l D Z Q [.ref (Q 90), .int (iI v)] MI ML (zI fun r M L => L = ML ∧ ((r = -2 ∧ M = MI ∧ ¬ (5 ≤ v ∧ v ≤ 40)) ∨ ((5 ≤ v ∧ v ≤ 40) ∧ r = MI 90 7 ∧ M = z_up MI 90 7 v))) := by
  refine CM.of (by decide +kernel) (Nat.le_of_ble_eq_true rfl) ?_
  intro X K E _ _ _ _
  show V X (0, 0) 110 Q z_rf MI ML 0 [(0, .ref (Q 90)), (1, .int (iI v))] []
  refine v_iload_n K 1 dX9_life_0 rfl rfl ?_
  refine v_iconst K dX9_life_1 ?_
  refine v_bipush K dX9_life_2 (by decide) ?_
  refine v_cSi K (c_X9_in _ _ _ hv ⟨by omega, by omega⟩ ⟨by omega, by omega⟩) rfl fc_X9_75 wt_X9_in rfl (by decide) (Nat.le_of_ble_eq_true rfl) dX9_life_4 (fun r4 M4 L4 h4 => ?_)
  obtain ⟨hm4, hl4, hr4⟩ := h4
  subst M4 L4
  refine v_if_ne K 13 ⟨by omega, by omega⟩ dX9_life_7 (by decide) (fun h7 => ?_) (fun h7 => ?_)
  · refine v_aload_n K 0 dX9_life_13 rfl rfl ?_
    refine v_geti K ff_X9_25 (by decide) rfl rfl dX9_life_14 ?_
    refine v_istore_n K (fun q9 => [(2, .int (iI q9)), (0, .ref (Q 90)), (1, .int (iI v))]) dX9_life_17 rfl (by decide) (fun _ => rfl) (fun x17 hx17 => ?_)
    refine v_aload_n K 1 dX9_life_18 rfl rfl ?_
    refine v_iload_n K 2 dX9_life_19 rfl rfl ?_
    refine v_puti K fp_X9_25 (by decide) rfl rfl dX9_life_20 ?_
    refine v_iload_n K 0 dX9_life_23 rfl rfl ?_
    exact v_ri K E dX9_life_24 ⟨rfl, Or.inr ⟨by omega, hx17, rfl⟩⟩
  · refine v_bipush K dX9_life_10 (by decide) ?_
    exact v_ri K E dX9_life_12 ⟨rfl, Or.inl ⟨rfl, rfl, by omega⟩⟩
/-- how many cards stand in the first k decks -/
def sumK (f : Nat → Int) : Nat → Int
  | 0 => 0
  | k + 1 => sumK f k + f k
theorem sumK_b {f : Nat → Int} {B : Int} (n : Nat) (h : ∀ i, i < n → 0 ≤ f i ∧ f i ≤ B) : ∀ k, k ≤ n → 0 ≤ sumK f k ∧ sumK f k ≤ k * B := by
  intro k
  induction k with
  | zero => intro _; simp [sumK]
  | succ k ih =>
    intro hk
    have h1 := ih (by omega)
    have h2 := h k (by omega)
    have e : ((k + 1 : Nat) : Int) * B = k * B + B := by rw [Int.natCast_add, Int.add_mul]; simp
    rw [e]
    simp only [sumK]
    omega
set_option maxRecDepth 100000 in
set_option maxHeartbeats 4000000 in
theorem l_X9_count {X : VX} {Q : Nat → Nat} {MI ML : ZM} (K : VK X cX9_count RX9 4 (some .int) 0 0 0 0) (hM : mOk MI) (what : Int) (hw : what = 2) (E : VE X 0 0 110 Q (zq Q (zI fun r M L => L = ML ∧ M = MI ∧ ((what = 0 ∧ r = MI 90 0) ∨ (what = 1 ∧ r = MI 90 4) ∨ (what = 2 ∧ r = sumK (MI 94) (MI 90 4).toNat) ∨ (what = 3 ∧ r = MI 90 7) ∨ ((what < 0 ∨ 3 < what) ∧ r = -2))))) : ∀ (n k : Nat), (k : Int) ≤ MI 90 4 → MI 90 4 < k + n → V X (0, 0) 110 Q z_rf MI ML 44 [(3, .int (iI (k : Int))), (2, .int (iI (sumK (MI 94) k))), (0, .ref (Q 90)), (1, .int (iI what))] [] := by
  have u4 := hM.2.1
  intro n
  induction n with
  | zero => intro k hk hn; exact absurd hn (by omega)
  | succ n ih =>
    intro k hk hn
    refine v_iload_n K 0 dX9_count_44 rfl rfl ?_
    refine v_aload_n K 2 dX9_count_45 rfl rfl ?_
    refine v_geti K ff_X9_79 (by decide) rfl rfl dX9_count_46 ?_
    refine v_icmp_ge K 67 ⟨by omega, by omega⟩ ⟨by omega, by omega⟩ dX9_count_49 (by decide) (fun h49 => ?_) (fun h49 => ?_)
    · obtain rfl : k = (MI 90 4).toNat := by omega
      refine v_iload_n K 1 dX9_count_67 rfl rfl ?_
      exact v_ri K E dX9_count_68 ⟨rfl, rfl, Or.inr (Or.inr (Or.inl ⟨hw, rfl⟩))⟩
    · refine v_iload_n K 1 dX9_count_52 rfl rfl ?_
      refine v_aload_n K 2 dX9_count_53 rfl rfl ?_
      refine v_getr K ff_X9_19 (by decide) rfl rfl rfl dX9_count_54 ?_
      refine v_iload_n K 0 dX9_count_57 rfl rfl ?_
      refine v_iald K (k) (by decide) rfl rfl (by show _ < 5; omega) dX9_count_58 ?_
      refine v_iadd K dX9_count_59 ?_
      refine v_istore_n K (fun q9 => [(2, .int (iI q9)), (3, .int (iI (k : Int))), (0, .ref (Q 90)), (1, .int (iI what))]) dX9_count_60 rfl (by decide) (fun _ => rfl) (fun y hy => ?_)
      refine v_iinc K 1 (fun q9 => [(3, .int (iI q9)), (2, .int (iI y)), (0, .ref (Q 90)), (1, .int (iI what))]) dX9_count_61 rfl (by decide) (fun _ => rfl) (fun w hw => ?_)
      refine v_goto K 44 dX9_count_64 (by decide) ?_
      obtain rfl : w = ((k + 1 : Nat) : Int) := by omega
      obtain rfl : y = sumK (MI 94) (k + 1) := hy
      exact ih (k + 1) (by omega) (by omega)
set_option maxRecDepth 100000 in
set_option maxHeartbeats 4000000 in
theorem c_X9_count {l : Launch} {D : va_G} {Z : ZC} {Q : Nat → Nat} {MI ML : ZM} (hM : mOk MI) (what : Int) (hw : rg what) : C_X9_count l D Z Q [.ref (Q 90), .int (iI what)] MI ML (zI fun r M L => L = ML ∧ M = MI ∧ ((what = 0 ∧ r = MI 90 0) ∨ (what = 1 ∧ r = MI 90 4) ∨ (what = 2 ∧ r = sumK (MI 94) (MI 90 4).toNat) ∨ (what = 3 ∧ r = MI 90 7) ∨ ((what < 0 ∨ 3 < what) ∧ r = -2))) := by
  refine CM.of (by decide +kernel) (Nat.le_of_ble_eq_true rfl) ?_
  intro X K E _ _ _ _
  show V X (0, 0) 110 Q z_rf MI ML 0 [(0, .ref (Q 90)), (1, .int (iI what))] []
  refine v_iconst K dX9_count_0 ?_
  refine v_istore_n K (fun x => [(2, .int (iI x)), (0, .ref (Q 90)), (1, .int (iI what))]) dX9_count_1 rfl (by decide) (fun _ => rfl) (fun x1 hx1 => ?_)
  refine v_iload_n K 2 dX9_count_2 rfl rfl ?_
  by_cases c0 : what < 0 ∨ 3 < what
  · refine v_tableOut K 74 hw dX9_count_3 c0 (by decide) ?_
    refine v_bipush K dX9_count_74 (by decide) ?_
    exact v_ri K E dX9_count_76 ⟨rfl, rfl, Or.inr (Or.inr (Or.inr (Or.inr ⟨c0, rfl⟩)))⟩
  rcases (show what = 0 ∨ what = 1 ∨ what = 2 ∨ what = 3 by omega) with rfl | rfl | rfl | rfl
  · refine v_tableIn K 32 hw dX9_count_3 (by omega) rfl (by decide) ?_
    refine v_aload_n K 1 dX9_count_32 rfl rfl ?_
    refine v_geti K ff_X9_72 (by decide) rfl rfl dX9_count_33 ?_
    exact v_ri K E dX9_count_36 ⟨rfl, rfl, Or.inl ⟨rfl, rfl⟩⟩
  · refine v_tableIn K 37 hw dX9_count_3 (by omega) rfl (by decide) ?_
    refine v_aload_n K 1 dX9_count_37 rfl rfl ?_
    refine v_geti K ff_X9_79 (by decide) rfl rfl dX9_count_38 ?_
    exact v_ri K E dX9_count_41 ⟨rfl, rfl, Or.inr (Or.inl ⟨rfl, rfl⟩)⟩
  · refine v_tableIn K 42 hw dX9_count_3 (by omega) rfl (by decide) ?_
    refine v_iconst K dX9_count_42 ?_
    refine v_istore_n K (fun q9 => [(3, .int (iI q9)), (2, .int (iI x1)), (0, .ref (Q 90)), (1, .int (iI 2))]) dX9_count_43 rfl (by decide) (fun _ => rfl) (fun y hy => ?_)
    subst hy
    subst hx1
    exact l_X9_count K hM 2 rfl E _ 0 hM.2.1.1 (by have := hM.2.1.2; show _ < ((0 : Nat) : Int) + ((6 : Nat) : Int); omega)
  · refine v_tableIn K 69 hw dX9_count_3 (by omega) rfl (by decide) ?_
    refine v_aload_n K 1 dX9_count_69 rfl rfl ?_
    refine v_geti K ff_X9_25 (by decide) rfl rfl dX9_count_70 ?_
    exact v_ri K E dX9_count_73 ⟨rfl, rfl, Or.inr (Or.inr (Or.inr (Or.inl ⟨rfl, rfl⟩)))⟩
end
section
theorem mOk_of {MI M : ZM} (h : ∀ a b, 90 ≤ a → a ≤ 95 → ¬ (a = 90 ∧ b = 15) → M a b = MI a b) (hM : mOk MI) : mOk M := by
  obtain ⟨h1, h2, h3, h4, h5, h6⟩ := hM
  refine ⟨?_, ?_, ?_, ?_, ?_, ?_⟩
  · rw [h 90 0 (by decide) (by decide) (by decide)]; exact h1
  · rw [h 90 4 (by decide) (by decide) (by decide)]; exact h2
  · rw [h 90 7 (by decide) (by decide) (by decide)]; exact h3
  · intro i hi
    rw [h 91 i (by decide) (by decide) (by omega), h 92 i (by decide) (by decide) (by omega), h 93 i (by decide) (by decide) (by omega)]
    exact h4 i hi
  · intro d hd
    rw [h 94 d (by decide) (by decide) (by omega)]
    exact h5 d hd
  · intro d k hd hk
    rw [h 94 d (by decide) (by decide) (by omega)] at hk
    rw [h 95 _ (by decide) (by decide) (by omega), h 90 0 (by decide) (by decide) (by decide)]
    exact h6 d k hd hk
set_option maxRecDepth 100000 in
set_option maxHeartbeats 4000000 in
theorem c_X9_isOver {l : Launch} {D : va_G} {Z : ZC} {Q : Nat → Nat} {MI ML : ZM} (h0 : rg (MI 97 0)) (h1 : rg (MI 97 1)) : C_X9_isOver l D Z Q [.ref (Q 90)] MI ML (zI fun r M L => M = MI ∧ L = ML ∧ ((r = 1 ∧ (MI 97 0 ≤ 0 ∨ MI 97 1 ≤ 0)) ∨ (r = 0 ∧ 0 < MI 97 0 ∧ 0 < MI 97 1))) := by
  refine CM.of (by decide +kernel) (Nat.le_of_ble_eq_true rfl) ?_
  intro X K E _ _ _ _
  show V X (0, 0) 110 Q z_rf MI ML 0 [(0, .ref (Q 90))] []
  refine v_aload_n K 0 dX9_isOver_0 rfl rfl ?_
  refine v_getr K ff_X9_32 (by decide) rfl rfl rfl dX9_isOver_1 ?_
  refine v_iconst K dX9_isOver_4 ?_
  refine v_iald K (0) (by decide) rfl rfl (by show _ < 2; omega) dX9_isOver_5 ?_
  refine v_if_le K 18 h0 dX9_isOver_6 (by decide) (fun h6 => ?_) (fun h6 => ?_)
  · refine v_iconst K dX9_isOver_18 ?_
    refine v_goto K 23 dX9_isOver_19 (by decide) ?_
    exact v_rz K E (Or.inr rfl) dX9_isOver_23 ⟨rfl, rfl, by omega⟩
  · refine v_aload_n K 0 dX9_isOver_9 rfl rfl ?_
    refine v_getr K ff_X9_32 (by decide) rfl rfl rfl dX9_isOver_10 ?_
    refine v_iconst K dX9_isOver_13 ?_
    refine v_iald K (1) (by decide) rfl rfl (by show _ < 2; omega) dX9_isOver_14 ?_
    refine v_if_gt K 22 h1 dX9_isOver_15 (by decide) (fun h15 => ?_) (fun h15 => ?_)
    · refine v_iconst K dX9_isOver_22 ?_
      exact v_rz K E (Or.inl rfl) dX9_isOver_23 ⟨rfl, rfl, by omega⟩
    · refine v_iconst K dX9_isOver_18 ?_
      refine v_goto K 23 dX9_isOver_19 (by decide) ?_
      exact v_rz K E (Or.inr rfl) dX9_isOver_23 ⟨rfl, rfl, by omega⟩
set_option maxRecDepth 100000 in
set_option maxHeartbeats 4000000 in
theorem l_X9_nextCard {X : VX} {Q : Nat → Nat} {MI ML : ZM} (K : VK X cX9_nextCard RX9 6 (some .int) 0 0 0 0) (hM : mOk MI) (s : Nat) (hs : s < 2) (e : Int) (he : rg e) (hh : ∀ c, c < 12 → rg (MI 102 (12 * s + c))) (E : VE X 0 0 110 Q (zq Q (zI fun r M L => M = MI ∧ L = ML ∧ r = bst (MI 92) (MI 93) (fun c => MI 102 (12 * s + c)) e (MI 90 0).toNat))) : ∀ (n k : Nat) (b : Int), b = bst (MI 92) (MI 93) (fun c => MI 102 (12 * s + c)) e k → (k : Int) ≤ MI 90 0 → MI 90 0 < k + n → V X (0, 0) 110 Q z_rf MI ML 5 [(4, .int (iI (k : Int))), (3, .int (iI b)), (0, .ref (Q 90)), (1, .int (iI (s : Int))), (2, .int (iI e))] [] := by
  have u0 := hM.1
  have ua := hM.2.2.2.1
  intro n
  induction n with
  | zero => intro k b hb hk hn; exact absurd hn (by omega)
  | succ n ih =>
    intro k b hb hk hn
    refine v_iload K 0 dX9_nextCard_5 rfl ?_
    refine v_aload_n K 2 dX9_nextCard_7 rfl rfl ?_
    refine v_geti K ff_X9_72 (by decide) rfl rfl dX9_nextCard_8 ?_
    refine v_icmp_ge K 118 ⟨by omega, by omega⟩ ⟨by omega, by omega⟩ dX9_nextCard_11 (by decide) (fun h11 => ?_) (fun h11 => ?_)
    · obtain rfl : k = (MI 90 0).toNat := by omega
      refine v_iload_n K 1 dX9_nextCard_118 rfl rfl ?_
      exact v_ri K E dX9_nextCard_119 ⟨rfl, rfl, hb⟩
    · have q1 := hh k (by omega)
      have q2 := ua k (by omega)
      have q3 := bst_b (MI 92) (MI 93) (fun c => MI 102 (12 * s + c)) e k
      rw [← hb] at q3
      refine v_aload_n K 2 dX9_nextCard_14 rfl rfl ?_
      refine v_getr K ff_X9_47 (by decide) rfl rfl rfl dX9_nextCard_15 ?_
      refine v_bipush K dX9_nextCard_18 (by decide) ?_
      refine v_iload_n K 3 dX9_nextCard_20 rfl rfl ?_
      refine v_imul K dX9_nextCard_21 ?_
      refine v_iload K 0 dX9_nextCard_22 rfl ?_
      refine v_iadd K dX9_nextCard_24 ?_
      refine v_iald K (12 * s + k) (by decide) rfl (by omega) (by show _ < 24; omega) dX9_nextCard_25 ?_
      refine v_if_le K 112 q1 dX9_nextCard_26 (by decide) (fun h26 => ?_) (fun h26 => ?_)
      · refine v_iinc K 0 (fun q9 => [(4, .int (iI q9)), (3, .int (iI b)), (0, .ref (Q 90)), (1, .int (iI (s : Int))), (2, .int (iI e))]) dX9_nextCard_112 rfl (by decide) (fun _ => rfl) (fun w hw => ?_)
        refine v_goto K 5 dX9_nextCard_115 (by decide) ?_
        obtain rfl : w = ((k + 1 : Nat) : Int) := by omega
        have e1 : b = bst (MI 92) (MI 93) (fun c => MI 102 (12 * s + c)) e (k + 1) := by
          simp only [bst]
          rw [← hb]
          split
          · split <;> omega
          · omega
        exact ih (k + 1) b e1 (by omega) (by omega)
      · refine v_aload_n K 2 dX9_nextCard_29 rfl rfl ?_
        refine v_getr K ff_X9_13 (by decide) rfl rfl rfl dX9_nextCard_30 ?_
        refine v_iload K 0 dX9_nextCard_33 rfl ?_
        refine v_iald K (k) (by decide) rfl rfl (by show _ < 12; omega) dX9_nextCard_35 ?_
        refine v_iload_n K 4 dX9_nextCard_36 rfl rfl ?_
        refine v_icmp_gt K 112 ⟨by omega, by omega⟩ he dX9_nextCard_37 (by decide) (fun h37 => ?_) (fun h37 => ?_)
        · refine v_iinc K 0 (fun q9 => [(4, .int (iI q9)), (3, .int (iI b)), (0, .ref (Q 90)), (1, .int (iI (s : Int))), (2, .int (iI e))]) dX9_nextCard_112 rfl (by decide) (fun _ => rfl) (fun w hw => ?_)
          refine v_goto K 5 dX9_nextCard_115 (by decide) ?_
          obtain rfl : w = ((k + 1 : Nat) : Int) := by omega
          have e1 : b = bst (MI 92) (MI 93) (fun c => MI 102 (12 * s + c)) e (k + 1) := by
            simp only [bst]
            rw [← hb]
            split
            · split <;> omega
            · omega
          exact ih (k + 1) b e1 (by omega) (by omega)
        · refine v_iload_n K 1 dX9_nextCard_40 rfl rfl ?_
          refine v_iconst K dX9_nextCard_41 ?_
          refine v_icmp_eq K 93 ⟨by omega, by omega⟩ ⟨by omega, by omega⟩ dX9_nextCard_42 (by decide) (fun h42 => ?_) (fun h42 => ?_)
          · refine v_iconst K dX9_nextCard_93 ?_
            refine v_goto K 98 dX9_nextCard_94 (by decide) ?_
            refine v_istore K (fun q9 => [(5, .int (iI q9)), (4, .int (iI (k : Int))), (3, .int (iI b)), (0, .ref (Q 90)), (1, .int (iI (s : Int))), (2, .int (iI e))]) dX9_nextCard_98 (by decide) (fun _ => rfl) (fun x98 hx98 => ?_)
            refine v_iload K 0 dX9_nextCard_100 rfl ?_
            refine v_if_eq K 110 ⟨by omega, by omega⟩ dX9_nextCard_102 (by decide) (fun h102 => ?_) (fun h102 => ?_)
            · exact absurd h102 (by omega)
            · refine v_iload K 1 dX9_nextCard_105 rfl ?_
              refine v_goto K 111 dX9_nextCard_107 (by decide) ?_
              refine v_istore_n K (fun q9 => [(3, .int (iI q9)), (5, .int (iI x98)), (4, .int (iI (k : Int))), (0, .ref (Q 90)), (1, .int (iI (s : Int))), (2, .int (iI e))]) dX9_nextCard_111 rfl (by decide) (fun _ => rfl) (fun x111 hx111 => ?_)
              refine v_iinc K 2 (fun q9 => [(4, .int (iI q9)), (3, .int (iI x111)), (5, .int (iI x98)), (0, .ref (Q 90)), (1, .int (iI (s : Int))), (2, .int (iI e))]) dX9_nextCard_112 rfl (by decide) (fun _ => rfl) (fun w hw => ?_)
              refine v_goto K 5 dX9_nextCard_115 (by decide) ?_
              obtain rfl : w = ((k + 1 : Nat) : Int) := by omega
              have e1 : x111 = bst (MI 92) (MI 93) (fun c => MI 102 (12 * s + c)) e (k + 1) := by
                simp only [bst]
                rw [← hb]
                split
                · split <;> omega
                · omega
              refine v_sub K [0, 1, 3, 4, 5] rfl ?_
              exact ih (k + 1) x111 e1 (by omega) (by omega)
          · have q4 := ua b.toNat (by omega)
            refine v_aload_n K 2 dX9_nextCard_45 rfl rfl ?_
            refine v_getr K ff_X9_13 (by decide) rfl rfl rfl dX9_nextCard_46 ?_
            refine v_iload K 0 dX9_nextCard_49 rfl ?_
            refine v_iald K (k) (by decide) rfl rfl (by show _ < 12; omega) dX9_nextCard_51 ?_
            refine v_aload_n K 2 dX9_nextCard_52 rfl rfl ?_
            refine v_getr K ff_X9_13 (by decide) rfl rfl rfl dX9_nextCard_53 ?_
            refine v_iload_n K 1 dX9_nextCard_56 rfl rfl ?_
            refine v_iald K (b.toNat) (by decide) rfl (by omega) (by show _ < 12; omega) dX9_nextCard_57 ?_
            refine v_icmp_gt K 93 ⟨by omega, by omega⟩ ⟨by omega, by omega⟩ dX9_nextCard_58 (by decide) (fun h58 => ?_) (fun h58 => ?_)
            · refine v_iconst K dX9_nextCard_93 ?_
              refine v_goto K 98 dX9_nextCard_94 (by decide) ?_
              refine v_istore K (fun q9 => [(5, .int (iI q9)), (4, .int (iI (k : Int))), (3, .int (iI b)), (0, .ref (Q 90)), (1, .int (iI (s : Int))), (2, .int (iI e))]) dX9_nextCard_98 (by decide) (fun _ => rfl) (fun x98 hx98 => ?_)
              refine v_iload K 0 dX9_nextCard_100 rfl ?_
              refine v_if_eq K 110 ⟨by omega, by omega⟩ dX9_nextCard_102 (by decide) (fun h102 => ?_) (fun h102 => ?_)
              · exact absurd h102 (by omega)
              · refine v_iload K 1 dX9_nextCard_105 rfl ?_
                refine v_goto K 111 dX9_nextCard_107 (by decide) ?_
                refine v_istore_n K (fun q9 => [(3, .int (iI q9)), (5, .int (iI x98)), (4, .int (iI (k : Int))), (0, .ref (Q 90)), (1, .int (iI (s : Int))), (2, .int (iI e))]) dX9_nextCard_111 rfl (by decide) (fun _ => rfl) (fun x111 hx111 => ?_)
                refine v_iinc K 2 (fun q9 => [(4, .int (iI q9)), (3, .int (iI x111)), (5, .int (iI x98)), (0, .ref (Q 90)), (1, .int (iI (s : Int))), (2, .int (iI e))]) dX9_nextCard_112 rfl (by decide) (fun _ => rfl) (fun w hw => ?_)
                refine v_goto K 5 dX9_nextCard_115 (by decide) ?_
                obtain rfl : w = ((k + 1 : Nat) : Int) := by omega
                have e1 : x111 = bst (MI 92) (MI 93) (fun c => MI 102 (12 * s + c)) e (k + 1) := by
                  simp only [bst]
                  rw [← hb]
                  split
                  · split <;> omega
                  · omega
                refine v_sub K [0, 1, 3, 4, 5] rfl ?_
                exact ih (k + 1) x111 e1 (by omega) (by omega)
            · refine v_aload_n K 2 dX9_nextCard_61 rfl rfl ?_
              refine v_getr K ff_X9_13 (by decide) rfl rfl rfl dX9_nextCard_62 ?_
              refine v_iload K 0 dX9_nextCard_65 rfl ?_
              refine v_iald K (k) (by decide) rfl rfl (by show _ < 12; omega) dX9_nextCard_67 ?_
              refine v_aload_n K 2 dX9_nextCard_68 rfl rfl ?_
              refine v_getr K ff_X9_13 (by decide) rfl rfl rfl dX9_nextCard_69 ?_
              refine v_iload_n K 1 dX9_nextCard_72 rfl rfl ?_
              refine v_iald K (b.toNat) (by decide) rfl (by omega) (by show _ < 12; omega) dX9_nextCard_73 ?_
              refine v_icmp_ne K 97 ⟨by omega, by omega⟩ ⟨by omega, by omega⟩ dX9_nextCard_74 (by decide) (fun h74 => ?_) (fun h74 => ?_)
              · refine v_iconst K dX9_nextCard_97 ?_
                refine v_istore K (fun q9 => [(5, .int (iI q9)), (4, .int (iI (k : Int))), (3, .int (iI b)), (0, .ref (Q 90)), (1, .int (iI (s : Int))), (2, .int (iI e))]) dX9_nextCard_98 (by decide) (fun _ => rfl) (fun x98 hx98 => ?_)
                refine v_iload K 0 dX9_nextCard_100 rfl ?_
                refine v_if_eq K 110 ⟨by omega, by omega⟩ dX9_nextCard_102 (by decide) (fun h102 => ?_) (fun h102 => ?_)
                · refine v_iload_n K 2 dX9_nextCard_110 rfl rfl ?_
                  refine v_istore_n K (fun q9 => [(3, .int (iI q9)), (5, .int (iI x98)), (4, .int (iI (k : Int))), (0, .ref (Q 90)), (1, .int (iI (s : Int))), (2, .int (iI e))]) dX9_nextCard_111 rfl (by decide) (fun _ => rfl) (fun x111 hx111 => ?_)
                  refine v_iinc K 2 (fun q9 => [(4, .int (iI q9)), (3, .int (iI x111)), (5, .int (iI x98)), (0, .ref (Q 90)), (1, .int (iI (s : Int))), (2, .int (iI e))]) dX9_nextCard_112 rfl (by decide) (fun _ => rfl) (fun w hw => ?_)
                  refine v_goto K 5 dX9_nextCard_115 (by decide) ?_
                  obtain rfl : w = ((k + 1 : Nat) : Int) := by omega
                  have e1 : x111 = bst (MI 92) (MI 93) (fun c => MI 102 (12 * s + c)) e (k + 1) := by
                    simp only [bst]
                    rw [← hb]
                    split
                    · split <;> omega
                    · omega
                  refine v_sub K [0, 1, 3, 4, 5] rfl ?_
                  exact ih (k + 1) x111 e1 (by omega) (by omega)
                · exact absurd h102 (by omega)
              · refine v_aload_n K 2 dX9_nextCard_77 rfl rfl ?_
                refine v_getr K ff_X9_16 (by decide) rfl rfl rfl dX9_nextCard_78 ?_
                refine v_iload K 0 dX9_nextCard_81 rfl ?_
                refine v_iald K (k) (by decide) rfl rfl (by show _ < 12; omega) dX9_nextCard_83 ?_
                refine v_aload_n K 2 dX9_nextCard_84 rfl rfl ?_
                refine v_getr K ff_X9_16 (by decide) rfl rfl rfl dX9_nextCard_85 ?_
                refine v_iload_n K 1 dX9_nextCard_88 rfl rfl ?_
                refine v_iald K (b.toNat) (by decide) rfl (by omega) (by show _ < 12; omega) dX9_nextCard_89 ?_
                refine v_icmp_le K 97 ⟨by omega, by omega⟩ ⟨by omega, by omega⟩ dX9_nextCard_90 (by decide) (fun h90 => ?_) (fun h90 => ?_)
                · refine v_iconst K dX9_nextCard_97 ?_
                  refine v_istore K (fun q9 => [(5, .int (iI q9)), (4, .int (iI (k : Int))), (3, .int (iI b)), (0, .ref (Q 90)), (1, .int (iI (s : Int))), (2, .int (iI e))]) dX9_nextCard_98 (by decide) (fun _ => rfl) (fun x98 hx98 => ?_)
                  refine v_iload K 0 dX9_nextCard_100 rfl ?_
                  refine v_if_eq K 110 ⟨by omega, by omega⟩ dX9_nextCard_102 (by decide) (fun h102 => ?_) (fun h102 => ?_)
                  · refine v_iload_n K 2 dX9_nextCard_110 rfl rfl ?_
                    refine v_istore_n K (fun q9 => [(3, .int (iI q9)), (5, .int (iI x98)), (4, .int (iI (k : Int))), (0, .ref (Q 90)), (1, .int (iI (s : Int))), (2, .int (iI e))]) dX9_nextCard_111 rfl (by decide) (fun _ => rfl) (fun x111 hx111 => ?_)
                    refine v_iinc K 2 (fun q9 => [(4, .int (iI q9)), (3, .int (iI x111)), (5, .int (iI x98)), (0, .ref (Q 90)), (1, .int (iI (s : Int))), (2, .int (iI e))]) dX9_nextCard_112 rfl (by decide) (fun _ => rfl) (fun w hw => ?_)
                    refine v_goto K 5 dX9_nextCard_115 (by decide) ?_
                    obtain rfl : w = ((k + 1 : Nat) : Int) := by omega
                    have e1 : x111 = bst (MI 92) (MI 93) (fun c => MI 102 (12 * s + c)) e (k + 1) := by
                      simp only [bst]
                      rw [← hb]
                      split
                      · split <;> omega
                      · omega
                    refine v_sub K [0, 1, 3, 4, 5] rfl ?_
                    exact ih (k + 1) x111 e1 (by omega) (by omega)
                  · exact absurd h102 (by omega)
                · refine v_iconst K dX9_nextCard_93 ?_
                  refine v_goto K 98 dX9_nextCard_94 (by decide) ?_
                  refine v_istore K (fun q9 => [(5, .int (iI q9)), (4, .int (iI (k : Int))), (3, .int (iI b)), (0, .ref (Q 90)), (1, .int (iI (s : Int))), (2, .int (iI e))]) dX9_nextCard_98 (by decide) (fun _ => rfl) (fun x98 hx98 => ?_)
                  refine v_iload K 0 dX9_nextCard_100 rfl ?_
                  refine v_if_eq K 110 ⟨by omega, by omega⟩ dX9_nextCard_102 (by decide) (fun h102 => ?_) (fun h102 => ?_)
                  · exact absurd h102 (by omega)
                  · refine v_iload K 1 dX9_nextCard_105 rfl ?_
                    refine v_goto K 111 dX9_nextCard_107 (by decide) ?_
                    refine v_istore_n K (fun q9 => [(3, .int (iI q9)), (5, .int (iI x98)), (4, .int (iI (k : Int))), (0, .ref (Q 90)), (1, .int (iI (s : Int))), (2, .int (iI e))]) dX9_nextCard_111 rfl (by decide) (fun _ => rfl) (fun x111 hx111 => ?_)
                    refine v_iinc K 2 (fun q9 => [(4, .int (iI q9)), (3, .int (iI x111)), (5, .int (iI x98)), (0, .ref (Q 90)), (1, .int (iI (s : Int))), (2, .int (iI e))]) dX9_nextCard_112 rfl (by decide) (fun _ => rfl) (fun w hw => ?_)
                    refine v_goto K 5 dX9_nextCard_115 (by decide) ?_
                    obtain rfl : w = ((k + 1 : Nat) : Int) := by omega
                    have e1 : x111 = bst (MI 92) (MI 93) (fun c => MI 102 (12 * s + c)) e (k + 1) := by
                      simp only [bst]
                      rw [← hb]
                      split
                      · split <;> omega
                      · omega
                    refine v_sub K [0, 1, 3, 4, 5] rfl ?_
                    exact ih (k + 1) x111 e1 (by omega) (by omega)
set_option maxRecDepth 100000 in
set_option maxHeartbeats 4000000 in
theorem c_X9_nextCard {l : Launch} {D : va_G} {Z : ZC} {Q : Nat → Nat} {MI ML : ZM} (hM : mOk MI) (s : Nat) (hs : s < 2) (s9 : Int) (hs9 : s9 = s) (e : Int) (he : rg e) (hh : ∀ c, c < 12 → rg (MI 102 (12 * s + c))) : C_X9_nextCard l D Z Q [.ref (Q 90), .int (iI s9), .int (iI e)] MI ML (zI fun r M L => M = MI ∧ L = ML ∧ r = bst (MI 92) (MI 93) (fun c => MI 102 (12 * s + c)) e (MI 90 0).toNat) := by
  subst hs9
  refine CM.of (by decide +kernel) (Nat.le_of_ble_eq_true rfl) ?_
  intro X K E _ _ _ _
  show V X (0, 0) 110 Q z_rf MI ML 0 [(0, .ref (Q 90)), (1, .int (iI (s : Int))), (2, .int (iI e))] []
  refine v_iconst K dX9_nextCard_0 ?_
  refine v_istore_n K (fun q9 => [(3, .int (iI q9)), (0, .ref (Q 90)), (1, .int (iI (s : Int))), (2, .int (iI e))]) dX9_nextCard_1 rfl (by decide) (fun _ => rfl) (fun y hy => ?_)
  refine v_iconst K dX9_nextCard_2 ?_
  refine v_istore K (fun q9 => [(4, .int (iI q9)), (3, .int (iI y)), (0, .ref (Q 90)), (1, .int (iI (s : Int))), (2, .int (iI e))]) dX9_nextCard_3 (by decide) (fun _ => rfl) (fun w hw => ?_)
  subst hw
  have u0 := hM.1
  exact l_X9_nextCard K hM s hs e he hh E 13 0 y (by rw [hy]; rfl) (by show (0 : Int) ≤ _; omega) (by omega)
/-- the memory behind playCard -/
def pcM (M : ZM) (s c : Nat) : ZM :=
  if M 91 c = 0 then z_up (z_up (z_up M 102 (12 * s + c) (M 102 (12 * s + c) - 1)) 101 s (M 101 s + 1)) 99 s (M 99 s + M 93 c)
  else if M 91 c = 1 then z_up (z_up (z_up M 102 (12 * s + c) (M 102 (12 * s + c) - 1)) 101 s (M 101 s + 1)) 97 (1 - s) (M 97 (1 - s) - M 93 c)
  else z_up (z_up (z_up M 102 (12 * s + c) (M 102 (12 * s + c) - 1)) 101 s (M 101 s + 1)) 100 s (M 100 s + M 93 c)
set_option maxRecDepth 100000 in
set_option maxHeartbeats 4000000 in
theorem c_X9_playCard {l : Launch} {D : va_G} {Z : ZC} {Q : Nat → Nat} {MI ML : ZM} (hM : mOk MI) (s : Nat) (hs : s < 2) (s9 : Int) (hs9 : s9 = s) (c : Nat) (hc : c < 12) (c9 : Int) (hc9 : c9 = c) : C_X9_playCard l D Z Q [.ref (Q 90), .int (iI s9), .int (iI c9)] MI ML (zV fun M L => L = ML ∧ M = pcM MI s c) := by
  subst hs9
  subst hc9
  refine CM.of (by decide +kernel) (Nat.le_of_ble_eq_true rfl) ?_
  intro X K E _ _ _ _
  show V X (0, 0) 110 Q z_rf MI ML 0 [(0, .ref (Q 90)), (1, .int (iI (s : Int))), (2, .int (iI (c : Int)))] []
  have ua := hM.2.2.2.1 c hc
  refine v_aload_n K 0 dX9_playCard_0 rfl rfl ?_
  refine v_getr K ff_X9_47 (by decide) rfl rfl rfl dX9_playCard_1 ?_
  refine v_bipush K dX9_playCard_4 (by decide) ?_
  refine v_iload_n K 1 dX9_playCard_6 rfl rfl ?_
  refine v_imul K dX9_playCard_7 ?_
  refine v_iload_n K 2 dX9_playCard_8 rfl rfl ?_
  refine v_iadd K dX9_playCard_9 ?_
  refine v_dup2_11 K dX9_playCard_10 rfl rfl ?_
  refine v_iald K (12 * s + c) (by decide) rfl (by omega) (by show _ < 24; omega) dX9_playCard_11 ?_
  refine v_iconst K dX9_playCard_12 ?_
  refine v_isub K dX9_playCard_13 ?_
  refine v_iast K (12 * s + c) (by decide) rfl (by omega) (by show _ < 24; omega) dX9_playCard_14 ?_
  refine v_aload_n K 0 dX9_playCard_15 rfl rfl ?_
  refine v_getr K ff_X9_44 (by decide) rfl rfl rfl dX9_playCard_16 ?_
  refine v_iload_n K 1 dX9_playCard_19 rfl rfl ?_
  refine v_dup2_11 K dX9_playCard_20 rfl rfl ?_
  refine v_iald K (s) (by decide) rfl rfl (by show _ < 2; omega) dX9_playCard_21 ?_
  refine v_eqi (MI 101 s) (by simp [z_up]) ?_
  refine v_iconst K dX9_playCard_22 ?_
  refine v_iadd K dX9_playCard_23 ?_
  refine v_iast K (s) (by decide) rfl rfl (by show _ < 2; omega) dX9_playCard_24 ?_
  refine v_aload_n K 0 dX9_playCard_25 rfl rfl ?_
  refine v_getr K ff_X9_7 (by decide) rfl rfl rfl dX9_playCard_26 ?_
  refine v_iload_n K 2 dX9_playCard_29 rfl rfl ?_
  refine v_iald K (c) (by decide) rfl rfl (by show _ < 12; omega) dX9_playCard_30 ?_
  refine v_eqi (MI 91 c) (by simp [z_up]) ?_
  refine v_if_ne K 52 ⟨by omega, by omega⟩ dX9_playCard_31 (by decide) (fun h31 => ?_) (fun h31 => ?_)
  · refine v_aload_n K 0 dX9_playCard_52 rfl rfl ?_
    refine v_getr K ff_X9_7 (by decide) rfl rfl rfl dX9_playCard_53 ?_
    refine v_iload_n K 2 dX9_playCard_56 rfl rfl ?_
    refine v_iald K (c) (by decide) rfl rfl (by show _ < 12; omega) dX9_playCard_57 ?_
    refine v_eqi (MI 91 c) (by simp [z_up]) ?_
    refine v_iconst K dX9_playCard_58 ?_
    refine v_icmp_ne K 82 ⟨by omega, by omega⟩ ⟨by omega, by omega⟩ dX9_playCard_59 (by decide) (fun h59 => ?_) (fun h59 => ?_)
    · refine v_aload_n K 0 dX9_playCard_82 rfl rfl ?_
      refine v_getr K ff_X9_41 (by decide) rfl rfl rfl dX9_playCard_83 ?_
      refine v_iload_n K 1 dX9_playCard_86 rfl rfl ?_
      refine v_dup2_11 K dX9_playCard_87 rfl rfl ?_
      refine v_iald K (s) (by decide) rfl rfl (by show _ < 2; omega) dX9_playCard_88 ?_
      refine v_eqi (MI 100 s) (by simp [z_up]) ?_
      refine v_aload_n K 0 dX9_playCard_89 rfl rfl ?_
      refine v_getr K ff_X9_16 (by decide) rfl rfl rfl dX9_playCard_90 ?_
      refine v_iload_n K 2 dX9_playCard_93 rfl rfl ?_
      refine v_iald K (c) (by decide) rfl rfl (by show _ < 12; omega) dX9_playCard_94 ?_
      refine v_eqi (MI 93 c) (by simp [z_up]) ?_
      refine v_iadd K dX9_playCard_95 ?_
      refine v_iast K (s) (by decide) rfl rfl (by show _ < 2; omega) dX9_playCard_96 ?_
      exact v_rv K E dX9_playCard_97 ⟨rfl, by unfold pcM; first | rw [if_pos (by omega)] | rw [if_neg (by omega), if_pos (by omega)] | rw [if_neg (by omega), if_neg (by omega)]⟩
    · refine v_aload_n K 0 dX9_playCard_62 rfl rfl ?_
      refine v_getr K ff_X9_32 (by decide) rfl rfl rfl dX9_playCard_63 ?_
      refine v_iconst K dX9_playCard_66 ?_
      refine v_iload_n K 1 dX9_playCard_67 rfl rfl ?_
      refine v_isub K dX9_playCard_68 ?_
      refine v_dup2_11 K dX9_playCard_69 rfl rfl ?_
      refine v_iald K (1 - s) (by decide) rfl (by omega) (by show _ < 2; omega) dX9_playCard_70 ?_
      refine v_eqi (MI 97 (1 - s)) (by simp [z_up]) ?_
      refine v_aload_n K 0 dX9_playCard_71 rfl rfl ?_
      refine v_getr K ff_X9_16 (by decide) rfl rfl rfl dX9_playCard_72 ?_
      refine v_iload_n K 2 dX9_playCard_75 rfl rfl ?_
      refine v_iald K (c) (by decide) rfl rfl (by show _ < 12; omega) dX9_playCard_76 ?_
      refine v_eqi (MI 93 c) (by simp [z_up]) ?_
      refine v_isub K dX9_playCard_77 ?_
      refine v_iast K (1 - s) (by decide) rfl (by omega) (by show _ < 2; omega) dX9_playCard_78 ?_
      refine v_goto K 97 dX9_playCard_79 (by decide) ?_
      exact v_rv K E dX9_playCard_97 ⟨rfl, by unfold pcM; first | rw [if_pos (by omega)] | rw [if_neg (by omega), if_pos (by omega)] | rw [if_neg (by omega), if_neg (by omega)]⟩
  · refine v_aload_n K 0 dX9_playCard_34 rfl rfl ?_
    refine v_getr K ff_X9_38 (by decide) rfl rfl rfl dX9_playCard_35 ?_
    refine v_iload_n K 1 dX9_playCard_38 rfl rfl ?_
    refine v_dup2_11 K dX9_playCard_39 rfl rfl ?_
    refine v_iald K (s) (by decide) rfl rfl (by show _ < 2; omega) dX9_playCard_40 ?_
    refine v_eqi (MI 99 s) (by simp [z_up]) ?_
    refine v_aload_n K 0 dX9_playCard_41 rfl rfl ?_
    refine v_getr K ff_X9_16 (by decide) rfl rfl rfl dX9_playCard_42 ?_
    refine v_iload_n K 2 dX9_playCard_45 rfl rfl ?_
    refine v_iald K (c) (by decide) rfl rfl (by show _ < 12; omega) dX9_playCard_46 ?_
    refine v_eqi (MI 93 c) (by simp [z_up]) ?_
    refine v_iadd K dX9_playCard_47 ?_
    refine v_iast K (s) (by decide) rfl rfl (by show _ < 2; omega) dX9_playCard_48 ?_
    refine v_goto K 97 dX9_playCard_49 (by decide) ?_
    exact v_rv K E dX9_playCard_97 ⟨rfl, by unfold pcM; first | rw [if_pos (by omega)] | rw [if_neg (by omega), if_pos (by omega)] | rw [if_neg (by omega), if_neg (by omega)]⟩
end
section
/-- what a MOVE of side s may change -/
def mvF (MI M : ZM) (s : Nat) : Prop := ∀ a b, ¬ ((a = 97 ∧ b = 1 - s) ∨ ((98 ≤ a ∧ a ≤ 101) ∧ b = s) ∨ (a = 102 ∧ 12 * s ≤ b ∧ b < 12 * s + 12)) → M a b = MI a b
/-- the memory within a MOVE -/
def mvS (MI M : ZM) (s : Nat) (h : Nat → Int) (dr : Nat) (lo f w p : Int) : Prop := mvF MI M s ∧ (∀ c, c < 12 → M 102 (12 * s + c) = h c) ∧ M 98 s = dr ∧ M 97 (1 - s) = lo ∧ M 99 s = f ∧ M 100 s = w ∧ M 101 s = p
theorem mvF.ok {MI M : ZM} {s : Nat} (h : mvF MI M s) (hM : mOk MI) : mOk M := mOk_of (fun a b h1 h2 _ => h a b (by omega)) hM
theorem mvF.row {MI M : ZM} {s : Nat} (h : mvF MI M s) {a : Nat} (ha : a < 97) : M a = MI a := funext fun b => h a b (by omega)
theorem mvS_inc {MI M : ZM} {s dr c : Nat} {h : Nat → Int} {lo f w p : Int} (S : mvS MI M s h dr lo f w p) (hs : s < 2) (hc : c < 12) (v1 v2 : Int) (e1 : v1 = M 102 (12 * s + c) + 1) (e2 : v2 = dr + 1) : mvS MI (z_up (z_up M 102 (12 * s + c) v1) 98 s v2) s (hinc h c) (dr + 1) lo f w p := by
  obtain ⟨s1, s2, s3, s4, s5, s6, s7⟩ := S
  refine ⟨fun a b hab => ?_, fun i hi => ?_, ?_, ?_, ?_, ?_, ?_⟩
  · rw [← s1 a b hab]
    simp only [z_up]
    rw [if_neg (by omega), if_neg (by omega)]
  · simp only [z_up, hinc]
    rw [if_neg (by omega)]
    by_cases e : i = c
    · subst e; rw [if_pos (by simp), if_pos rfl, e1, s2 i hi]
    · rw [if_neg (by omega), if_neg e, s2 i hi]
  · simp [z_up, e2]
  · simp [z_up, s4]
  · simp [z_up, s5]
  · simp [z_up, s6]
  · simp [z_up, s7]
theorem mvS_put {MI M : ZM} {s dr c : Nat} {h : Nat → Int} {lo f w p : Int} (S : mvS MI M s h dr lo f w p) (hs : s < 2) (hc : c < 12) : mvS MI (pcM M s c) s (hdec h c) dr (put1 (MI 91) (MI 93) c (lo, f, w, p)).1 (put1 (MI 91) (MI 93) c (lo, f, w, p)).2.1 (put1 (MI 91) (MI 93) c (lo, f, w, p)).2.2.1 (put1 (MI 91) (MI 93) c (lo, f, w, p)).2.2.2 := by
  obtain ⟨s1, s2, s3, s4, s5, s6, s7⟩ := S
  have e1 : M 91 = MI 91 := mvF.row s1 (by decide)
  have e3 : M 93 = MI 93 := mvF.row s1 (by decide)
  unfold pcM put1
  rw [e1, e3]
  split
  · refine ⟨fun a b hab => ?_, fun i hi => ?_, ?_, ?_, ?_, ?_, ?_⟩
    · rw [← s1 a b hab]; simp only [z_up]; rw [if_neg (by omega), if_neg (by omega), if_neg (by omega)]
    · simp only [z_up, hdec]; rw [if_neg (by omega), if_neg (by omega)]
      by_cases e : i = c
      · subst e; rw [if_pos (by simp), if_pos rfl, s2 i hi]
      · rw [if_neg (by omega), if_neg e, s2 i hi]
    · simp [z_up, s3]
    · simp [z_up, s4]
    · simp [z_up, s5]
    · simp [z_up, s6]
    · simp [z_up, s7]
  · split
    · refine ⟨fun a b hab => ?_, fun i hi => ?_, ?_, ?_, ?_, ?_, ?_⟩
      · rw [← s1 a b hab]; simp only [z_up]; rw [if_neg (by omega), if_neg (by omega), if_neg (by omega)]
      · simp only [z_up, hdec]; rw [if_neg (by omega), if_neg (by omega)]
        by_cases e : i = c
        · subst e; rw [if_pos (by simp), if_pos rfl, s2 i hi]
        · rw [if_neg (by omega), if_neg e, s2 i hi]
      · simp [z_up, s3]
      · simp [z_up, s4]
      · simp [z_up, s5]
      · simp [z_up, s6]
      · simp [z_up, s7]
    · refine ⟨fun a b hab => ?_, fun i hi => ?_, ?_, ?_, ?_, ?_, ?_⟩
      · rw [← s1 a b hab]; simp only [z_up]; rw [if_neg (by omega), if_neg (by omega), if_neg (by omega)]
      · simp only [z_up, hdec]; rw [if_neg (by omega), if_neg (by omega)]
        by_cases e : i = c
        · subst e; rw [if_pos (by simp), if_pos rfl, s2 i hi]
        · rw [if_neg (by omega), if_neg e, s2 i hi]
      · simp [z_up, s3]
      · simp [z_up, s4]
      · simp [z_up, s5]
      · simp [z_up, s6]
      · simp [z_up, s7]
theorem mvS_hit {MI M : ZM} {s dr : Nat} {h : Nat → Int} {lo f w p : Int} (S : mvS MI M s h dr lo f w p) (hs : s < 2) (v : Int) : mvS MI (z_up M 97 (1 - s) v) s h dr v f w p := by
  obtain ⟨s1, s2, s3, s4, s5, s6, s7⟩ := S
  refine ⟨fun a b hab => ?_, fun i hi => ?_, ?_, ?_, ?_, ?_, ?_⟩
  · rw [← s1 a b hab]; simp only [z_up]; rw [if_neg (by omega)]
  · simp only [z_up]; rw [if_neg (by omega), s2 i hi]
  · simp [z_up, s3]
  · simp [z_up]
  · simp [z_up, s5]
  · simp [z_up, s6]
  · simp [z_up, s7]
theorem bst_congr {co po h h' : Nat → Int} {e : Int} : ∀ k, (∀ i, i < k → h i = h' i) → bst co po h e k = bst co po h' e k := by
  intro k
  induction k with
  | zero => intro _; rfl
  | succ k ih =>
    intro q
    simp only [bst]
    rw [ih (fun i hi => q i (by omega)), q k (by omega)]
/-- a hand of n cards or fewer -/
def hOk (h : Nat → Int) (n : Nat) : Prop := (∀ i, 0 ≤ h i) ∧ htot h 12 ≤ n
theorem hOk.b {h : Nat → Int} {n : Nat} (q : hOk h n) {i : Nat} (hi : i < 12) : 0 ≤ h i ∧ h i ≤ n := ⟨q.1 i, Int.le_trans (htot_le q.1 12 i hi) q.2⟩
theorem hOk.dec {h : Nat → Int} {n c : Nat} (q : hOk h (n + 1)) (hc : c < 12) (h0 : 0 < h c) : hOk (hdec h c) n := by
  refine ⟨fun i => ?_, ?_⟩
  · have := q.1 i
    simp only [hdec]
    split
    · rename_i e; subst e; omega
    · exact this
  · rw [htot_dec, if_pos hc]; have := q.2; omega
theorem hOk.zero {h : Nat → Int} (q : hOk h 0) {i : Nat} (hi : i < 12) : h i = 0 := by have := q.b hi; omega
theorem hOk.inc {h : Nat → Int} {n c : Nat} (q : hOk h n) (hc : c < 12) : hOk (hinc h c) (n + 1) := by
  refine ⟨fun i => ?_, ?_⟩
  · have := q.1 i
    simp only [hinc]
    split <;> omega
  · rw [htot_inc, if_pos hc]; have := q.2; omega
theorem bst_zero {co po h : Nat → Int} {e : Int} (q : hOk h 0) : ∀ k, k ≤ 12 → bst co po h e k = -1 := by
  intro k
  induction k with
  | zero => intro _; rfl
  | succ k ih =>
    intro hk
    simp only [bst]
    rw [if_neg (by have := q.zero (i := k) (by omega); omega), ih (by omega)]
set_option maxRecDepth 100000 in
set_option maxHeartbeats 4000000 in
theorem l_X9_move_draw {X : VX} {Q : Nat → Nat} {MI ML : ZM} (K : VK X cX9_move RX9 6 none 1 25 0 0) (hM : mOk MI) (s : Nat) (hs : s < 2) (d : Nat) (hd : d < 5) (lo f w p : Int) (s0 : (Nat → Int) × Nat) (kk : ∀ (M : ZM) (y : Int), mvS MI M s s0.1 s0.2 lo f w p → V X (0, 0) 110 Q z_rf M ML 86 [(3, .int (iI y)), (2, .int (iI (d : Int))), (0, .ref (Q 90)), (1, .int (iI (s : Int)))] []) : ∀ (k : Nat) (M : ZM) (h : Nat → Int) (dr : Nat) (y : Int), y = k → mvS MI M s h dr lo f w p → dr ≤ 10 → k ≤ 2 → drw (MI 94 d).toNat (fun k => (MI 95 (10 * d + k)).toNat) k (h, dr) = s0 → V X (0, 0) 110 Q z_rf M ML 21 [(3, .int (iI y)), (2, .int (iI (d : Int))), (0, .ref (Q 90)), (1, .int (iI (s : Int)))] [] := by
  have u0 := hM.1
  have us := hM.2.2.2.2.1 d hd
  have uk := hM.2.2.2.2.2
  intro k
  induction k with
  | zero =>
    intro M h dr y hy S hdr hk he
    refine v_iload_n K 0 dX9_move_21 rfl rfl ?_
    refine v_if_le K 86 ⟨by omega, by omega⟩ dX9_move_22 (by decide) (fun h22 => ?_) (fun h22 => ?_)
    · simp only [drw] at he
      subst he
      exact kk M y S
    · exact absurd h22 (by omega)
  | succ k ih =>
    intro M h dr y hy S hdr hk he
    refine v_iload_n K 0 dX9_move_21 rfl rfl ?_
    refine v_if_le K 86 ⟨by omega, by omega⟩ dX9_move_22 (by decide) (fun h22 => ?_) (fun h22 => ?_)
    · exact absurd h22 (by omega)
    · refine v_aload_n K 2 dX9_move_25 rfl rfl ?_
      refine v_getr K ff_X9_35 (by decide) rfl rfl rfl dX9_move_26 ?_
      refine v_iload_n K 3 dX9_move_29 rfl rfl ?_
      refine v_iald K (s) (by decide) rfl rfl (by show _ < 2; omega) dX9_move_30 ?_
      refine v_eqi ((dr : Int)) (S.2.2.1) ?_
      refine v_aload_n K 2 dX9_move_31 rfl rfl ?_
      refine v_getr K ff_X9_19 (by decide) rfl rfl rfl dX9_move_32 ?_
      refine v_iload_n K 1 dX9_move_35 rfl rfl ?_
      refine v_iald K (d) (by decide) rfl rfl (by show _ < 5; omega) dX9_move_36 ?_
      refine v_eqi (MI 94 d) (by rw [S.1.row (by decide)]) ?_
      refine v_icmp_ge K 86 ⟨by omega, by omega⟩ ⟨by omega, by omega⟩ dX9_move_37 (by decide) (fun h37 => ?_) (fun h37 => ?_)
      · simp only [drw] at he
        rw [if_neg (by show ¬ dr < (MI 94 d).toNat; omega)] at he
        subst he
        exact kk M y S
      · have w1 := uk d dr hd (by omega)
        simp only [drw] at he
        rw [if_pos (by show dr < (MI 94 d).toNat; omega)] at he
        refine v_aload_n K 2 dX9_move_40 rfl rfl ?_
        refine v_getr K ff_X9_47 (by decide) rfl rfl rfl dX9_move_41 ?_
        refine v_bipush K dX9_move_44 (by decide) ?_
        refine v_iload_n K 3 dX9_move_46 rfl rfl ?_
        refine v_imul K dX9_move_47 ?_
        refine v_aload_n K 2 dX9_move_48 rfl rfl ?_
        refine v_getr K ff_X9_22 (by decide) rfl rfl rfl dX9_move_49 ?_
        refine v_bipush K dX9_move_52 (by decide) ?_
        refine v_iload_n K 1 dX9_move_54 rfl rfl ?_
        refine v_imul K dX9_move_55 ?_
        refine v_aload_n K 2 dX9_move_56 rfl rfl ?_
        refine v_getr K ff_X9_35 (by decide) rfl rfl rfl dX9_move_57 ?_
        refine v_iload_n K 3 dX9_move_60 rfl rfl ?_
        refine v_iald K (s) (by decide) rfl rfl (by show _ < 2; omega) dX9_move_61 ?_
        refine v_eqi ((dr : Int)) (S.2.2.1) ?_
        refine v_iadd K dX9_move_62 ?_
        refine v_iald K (10 * d + dr) (by decide) rfl (by omega) (by show _ < 50; omega) dX9_move_63 ?_
        refine v_eqi (MI 95 (10 * d + dr)) (by rw [S.1.row (by decide)]) ?_
        refine v_iadd K dX9_move_64 ?_
        refine v_dup2_11 K dX9_move_65 rfl rfl ?_
        refine v_iald K (12 * s + (MI 95 (10 * d + dr)).toNat) (by decide) rfl (by omega) (by show _ < 24; omega) dX9_move_66 ?_
        refine v_iconst K dX9_move_67 ?_
        refine v_iadd K dX9_move_68 ?_
        refine v_iast K (12 * s + (MI 95 (10 * d + dr)).toNat) (by decide) rfl (by omega) (by show _ < 24; omega) dX9_move_69 ?_
        refine v_aload_n K 2 dX9_move_70 rfl rfl ?_
        refine v_getr K ff_X9_35 (by decide) rfl rfl rfl dX9_move_71 ?_
        refine v_iload_n K 3 dX9_move_74 rfl rfl ?_
        refine v_dup2_11 K dX9_move_75 rfl rfl ?_
        refine v_iald K (s) (by decide) rfl rfl (by show _ < 2; omega) dX9_move_76 ?_
        refine v_eqi ((dr : Int)) (by rw [z_up_k (by decide)]; exact S.2.2.1) ?_
        refine v_iconst K dX9_move_77 ?_
        refine v_iadd K dX9_move_78 ?_
        refine v_iast K (s) (by decide) rfl rfl (by show _ < 2; omega) dX9_move_79 ?_
        refine v_iinc K 0 (fun q9 => [(3, .int (iI q9)), (2, .int (iI (d : Int))), (0, .ref (Q 90)), (1, .int (iI (s : Int)))]) dX9_move_80 rfl (by decide) (fun _ => rfl) (fun v hv => ?_)
        refine v_goto K 21 dX9_move_83 (by decide) ?_
        exact ih _ _ (dr + 1) v (by omega) (mvS_inc S hs (c := (MI 95 (10 * d + dr)).toNat) (by omega) _ _ rfl rfl) (by omega) (by omega) he
set_option maxRecDepth 100000 in
set_option maxHeartbeats 4000000 in
theorem l_X9_move_play {X : VX} {Q : Nat → Nat} {MI ML : ZM} (K : VK X cX9_move RX9 6 none 1 25 0 0) (hM : mOk MI) (s : Nat) (hs : s < 2) (d dr : Nat) (hown : 0 < MI 97 s) (hown2 : MI 97 s ≤ 100000) (x : Int × Int × Int × Int) (hx : Nat → Int) (E : VE X 0 0 110 Q (zq Q (zV fun M L => L = ML ∧ (∃ h1, mvS MI M s h1 dr x.1 x.2.1 x.2.2.1 x.2.2.2 ∧ (0 < x.1 → ∀ i, i < 12 → h1 i = hx i))))) : ∀ (n : Nat) (M : ZM) (h : Nat → Int) (e c y lo f w p : Int), c = bst (MI 92) (MI 93) h e (MI 90 0).toNat → n ≤ 100 → hOk h n → 0 ≤ e → e ≤ 6 → -100000 ≤ lo → lo ≤ 100000 → mvS MI M s h dr lo f w p → putL (MI 91) (MI 93) (selL (MI 90 0).toNat (MI 92) (MI 93) n h e) (lo, f, w, p) = x → (∀ i, i < 12 → selH (MI 90 0).toNat (MI 92) (MI 93) n h e i = hx i) → V X (0, 0) 110 Q z_rf M ML 151 [(5, .int (iI c)), (4, .int (iI e)), (3, .int (iI y)), (2, .int (iI (d : Int))), (0, .ref (Q 90)), (1, .int (iI (s : Int)))] [] := by
  have u0 := hM.1
  have ua := hM.2.2.2.1
  intro n
  induction n with
  | zero =>
    intro M h e c y lo f w p hc hn hok he0 he6 hl0 hl1 S hp hq
    have S4 := S.2.2.2.1
    have S5 : M 97 s = MI 97 s := S.1 97 s (by omega)
    have q0 : rg (M 97 0) := by rcases (show s = 0 ∨ s = 1 by omega) with rfl | rfl <;> simp at S4 S5 <;> exact ⟨by omega, by omega⟩
    have q1 : rg (M 97 1) := by rcases (show s = 0 ∨ s = 1 by omega) with rfl | rfl <;> simp at S4 S5 <;> exact ⟨by omega, by omega⟩
    have b1 := bst_b (MI 92) (MI 93) h e (MI 90 0).toNat
    rw [← hc] at b1
    refine v_aload_n K 4 dX9_move_151 rfl rfl ?_
    refine v_cVi K (c_X9_isOver q0 q1) rfl fc_X9_104 wm_X9_isOver ws_X9_isOver (by decide) 9 rfl (by decide) rfl rfl (by decide) (Nat.le_of_ble_eq_true rfl) dX9_move_152 (fun r152 M152 L152 h152 => ?_)
    obtain ⟨hm152, hl152, hr152⟩ := h152
    subst M152 L152
    refine v_if_ne K 195 ⟨by omega, by omega⟩ dX9_move_155 (by decide) (fun h155 => ?_) (fun h155 => ?_)
    · exact v_rv K E dX9_move_195 ⟨rfl, h, by subst hp; exact S, fun _ i hi => hq i hi⟩
    · refine v_iload K 0 dX9_move_158 rfl ?_
      refine v_iconst K dX9_move_160 ?_
      refine v_icmp_eq K 195 ⟨by omega, by omega⟩ ⟨by omega, by omega⟩ dX9_move_161 (by decide) (fun h161 => ?_) (fun h161 => ?_)
      · exact v_rv K E dX9_move_195 ⟨rfl, h, by subst hp; exact S, fun _ i hi => hq i hi⟩
      · exact absurd (hc.trans (bst_zero hok _ (by omega))) h161
  | succ n ih =>
    intro M h e c y lo f w p hc hn hok he0 he6 hl0 hl1 S hp hq
    have S4 := S.2.2.2.1
    have S5 : M 97 s = MI 97 s := S.1 97 s (by omega)
    have q0 : rg (M 97 0) := by rcases (show s = 0 ∨ s = 1 by omega) with rfl | rfl <;> simp at S4 S5 <;> exact ⟨by omega, by omega⟩
    have q1 : rg (M 97 1) := by rcases (show s = 0 ∨ s = 1 by omega) with rfl | rfl <;> simp at S4 S5 <;> exact ⟨by omega, by omega⟩
    have b1 := bst_b (MI 92) (MI 93) h e (MI 90 0).toNat
    rw [← hc] at b1
    refine v_aload_n K 4 dX9_move_151 rfl rfl ?_
    refine v_cVi K (c_X9_isOver q0 q1) rfl fc_X9_104 wm_X9_isOver ws_X9_isOver (by decide) 9 rfl (by decide) rfl rfl (by decide) (Nat.le_of_ble_eq_true rfl) dX9_move_152 (fun r152 M152 L152 h152 => ?_)
    obtain ⟨hm152, hl152, hr152⟩ := h152
    subst M152 L152
    refine v_if_ne K 195 ⟨by omega, by omega⟩ dX9_move_155 (by decide) (fun h155 => ?_) (fun h155 => ?_)
    · have hlo : lo ≤ 0 := by rcases (show s = 0 ∨ s = 1 by omega) with rfl | rfl <;> simp at S4 S5 <;> omega
      have e9 : (lo, f, w, p) = x := by
        rw [← hp]
        simp only [selL]
        split
        · rfl
        · simp only [putL]
          rw [if_pos hlo]
      subst e9
      exact v_rv K E dX9_move_195 ⟨rfl, h, S, fun q => absurd q (by show ¬ 0 < lo; omega)⟩
    · have hlo : 0 < lo := by rcases (show s = 0 ∨ s = 1 by omega) with rfl | rfl <;> simp at S4 S5 <;> omega
      refine v_iload K 0 dX9_move_158 rfl ?_
      refine v_iconst K dX9_move_160 ?_
      refine v_icmp_eq K 195 ⟨by omega, by omega⟩ ⟨by omega, by omega⟩ dX9_move_161 (by decide) (fun h161 => ?_) (fun h161 => ?_)
      · have e8 : bst (MI 92) (MI 93) h e (MI 90 0).toNat = -1 := by omega
        have e9 : (lo, f, w, p) = x := by
          rw [← hp]
          simp only [selL]
          rw [if_pos e8]
          rfl
        subst e9
        exact v_rv K E dX9_move_195 ⟨rfl, h, S, fun _ i hi => by have := hq i hi; simp only [selH] at this; rw [if_pos e8] at this; exact this⟩
      · have w1 := bst_h (MI 92) (MI 93) h e (MI 90 0).toNat (by omega)
        rw [← hc] at w1
        have w2 := ua c.toNat (by omega)
        have hp2 : ∀ e2, e2 = e - MI 92 c.toNat → putL (MI 91) (MI 93) (selL (MI 90 0).toNat (MI 92) (MI 93) n (hdec h c.toNat) e2) ((put1 (MI 91) (MI 93) c.toNat (lo, f, w, p)).1, (put1 (MI 91) (MI 93) c.toNat (lo, f, w, p)).2.1, (put1 (MI 91) (MI 93) c.toNat (lo, f, w, p)).2.2.1, (put1 (MI 91) (MI 93) c.toNat (lo, f, w, p)).2.2.2) = x := by
          intro e2 he2
          subst he2
          rw [← hp]
          simp only [selL]
          rw [← hc, if_neg (by omega)]
          simp only [putL]
          rw [if_neg (show ¬ lo ≤ 0 by omega)]
        have hq2 : ∀ e2, e2 = e - MI 92 c.toNat → ∀ i, i < 12 → selH (MI 90 0).toNat (MI 92) (MI 93) n (hdec h c.toNat) e2 i = hx i := by
          intro e2 he2 i hi
          subst he2
          rw [← hq i hi]
          simp only [selH]
          rw [← hc, if_neg (by omega)]
        have hpb : -100000 ≤ (put1 (MI 91) (MI 93) c.toNat (lo, f, w, p)).1 ∧ (put1 (MI 91) (MI 93) c.toNat (lo, f, w, p)).1 ≤ 100000 := by
          simp only [put1]
          split
          · show -100000 ≤ lo ∧ lo ≤ 100000
            omega
          · split
            · show -100000 ≤ lo - MI 93 c.toNat ∧ lo - MI 93 c.toNat ≤ 100000
              omega
            · show -100000 ≤ lo ∧ lo ≤ 100000
              omega
        refine v_aload_n K 4 dX9_move_164 rfl rfl ?_
        refine v_iload_n K 5 dX9_move_165 rfl rfl ?_
        refine v_iload K 0 dX9_move_166 rfl ?_
        refine v_cVv K (c_X9_playCard (S.1.ok hM) s hs _ rfl c.toNat (by omega) _ (by omega)) rfl fc_X9_108 wm_X9_playCard ws_X9_playCard (by decide) 9 rfl (by decide) rfl rfl (by decide) (Nat.le_of_ble_eq_true rfl) dX9_move_168 (fun M168 L168 h168 => ?_)
        obtain ⟨hl168, hm168⟩ := h168
        subst M168 L168
        have S2 := mvS_put S hs (c := c.toNat) (by omega)
        refine v_iload K 1 dX9_move_171 rfl ?_
        refine v_aload_n K 4 dX9_move_173 rfl rfl ?_
        refine v_getr K ff_X9_13 (by decide) rfl rfl rfl dX9_move_174 ?_
        refine v_iload K 0 dX9_move_177 rfl ?_
        refine v_iald K (c.toNat) (by decide) rfl (by omega) (by show _ < 12; omega) dX9_move_179 ?_
        refine v_eqi (MI 92 c.toNat) (by rw [S2.1.row (by decide)]) ?_
        refine v_isub K dX9_move_180 ?_
        refine v_istore K (fun q9 => [(4, .int (iI q9)), (5, .int (iI c)), (3, .int (iI y)), (2, .int (iI (d : Int))), (0, .ref (Q 90)), (1, .int (iI (s : Int)))]) dX9_move_181 (by decide) (fun _ => rfl) (fun e2 he2 => ?_)
        refine v_aload_n K 4 dX9_move_183 rfl rfl ?_
        refine v_iload_n K 5 dX9_move_184 rfl rfl ?_
        refine v_iload K 0 dX9_move_185 rfl ?_
        have hok2 : hOk (hdec h c.toNat) n := hok.dec (by omega) w1.1
        refine v_cVi K (c_X9_nextCard (S2.1.ok hM) s hs _ rfl e2 ⟨by omega, by omega⟩ (fun i hi => by rw [S2.2.1 i hi]; have := (hok2.b hi); exact ⟨by omega, by omega⟩)) rfl fc_X9_100 wm_X9_nextCard ws_X9_nextCard (by decide) 9 rfl (by decide) rfl rfl (by decide) (Nat.le_of_ble_eq_true rfl) dX9_move_187 (fun r187 M187 L187 h187 => ?_)
        obtain ⟨hm187, hl187, hr187⟩ := h187
        subst M187 L187
        refine v_istore K (fun q9 => [(5, .int (iI q9)), (4, .int (iI e2)), (3, .int (iI y)), (2, .int (iI (d : Int))), (0, .ref (Q 90)), (1, .int (iI (s : Int)))]) dX9_move_190 (by decide) (fun _ => rfl) (fun c2 hc2 => ?_)
        refine v_goto K 151 dX9_move_192 (by decide) ?_
        have eb : c2 = bst (MI 92) (MI 93) (hdec h c.toNat) e2 (MI 90 0).toNat := by
          rw [hc2, hr187, S2.1.row (show 92 < 97 by decide), S2.1.row (show 93 < 97 by decide), S2.1.row (show 90 < 97 by decide)]
          exact bst_congr _ (fun i hi => S2.2.1 i (by omega))
        exact ih _ _ e2 c2 y _ _ _ _ eb (by omega) hok2 (by omega) (by omega) hpb.1 hpb.2 S2 (hp2 e2 he2) (hq2 e2 he2)
end
section
theorem hOk.mono {h : Nat → Int} {n m : Nat} (q : hOk h n) (hm : n ≤ m) : hOk h m := ⟨q.1, by have := q.2; omega⟩
theorem drw_ok {n : Nat} {cd : Nat → Nat} (hc : ∀ k, k < n → cd k < 12) : ∀ (k : Nat) (h : Nat → Int) (dr : Nat), hOk h dr → hOk (drw n cd k (h, dr)).1 (drw n cd k (h, dr)).2 ∧ dr ≤ (drw n cd k (h, dr)).2 ∧ ((drw n cd k (h, dr)).2 ≤ n ∨ (drw n cd k (h, dr)).2 = dr) := by
  intro k
  induction k with
  | zero => intro h dr q; exact ⟨q, Nat.le_refl _, Or.inr rfl⟩
  | succ k ih =>
    intro h dr q
    simp only [drw]
    split
    · rename_i hl
      have := ih (hinc h (cd dr)) (dr + 1) (q.inc (hc dr hl))
      refine ⟨this.1, by omega, ?_⟩
      rcases this.2.2 with h1 | h1
      · exact Or.inl h1
      · left; omega
    · exact ⟨q, Nat.le_refl _, Or.inr rfl⟩
set_option maxRecDepth 100000 in
set_option maxHeartbeats 4000000 in
theorem l_X9_move_tail {X : VX} {Q : Nat → Nat} {MI ML : ZM} (K : VK X cX9_move RX9 6 none 1 25 0 0) (hM : mOk MI) (s : Nat) (hs : s < 2) (d dr t : Nat) (ht : MI 90 15 = (t : Int) + 1) (ht2 : t < 12) (hdr : dr ≤ 10) (hown : 0 < MI 97 s) (hown2 : MI 97 s ≤ 100000) (x : Int × Int × Int × Int) (hx : Nat → Int) (E : VE X 0 0 110 Q (zq Q (zV fun M L => L = ML ∧ (∃ h1, mvS MI M s h1 dr x.1 x.2.1 x.2.2.1 x.2.2.2 ∧ (0 < x.1 → ∀ i, i < 12 → h1 i = hx i))))) (M : ZM) (h : Nat → Int) (y lo f w p : Int) (hok : hOk h dr) (S : mvS MI M s h dr lo f w p) (hl0 : 0 < lo) (hl1 : lo ≤ 40) (hf0 : 0 ≤ f) (hf1 : f ≤ 10000) (hw0 : 0 ≤ MI 100 (1 - s)) (hw1 : MI 100 (1 - s) ≤ 10000) (hp : putL (MI 91) (MI 93) (selL (MI 90 0).toNat (MI 92) (MI 93) 10 h (eng (t + 1))) (hit lo f (MI 100 (1 - s)), f, w, p) = x) (hq : ∀ i, i < 12 → selH (MI 90 0).toNat (MI 92) (MI 93) 10 h (eng (t + 1)) i = hx i) : V X (0, 0) 110 Q z_rf M ML 86 [(3, .int (iI y)), (2, .int (iI (d : Int))), (0, .ref (Q 90)), (1, .int (iI (s : Int)))] [] := by
  refine v_aload_n K 2 dX9_move_86 rfl rfl ?_
  refine v_getr K ff_X9_38 (by decide) rfl rfl rfl dX9_move_87 ?_
  refine v_iload_n K 3 dX9_move_90 rfl rfl ?_
  refine v_iald K (s) (by decide) rfl rfl (by show _ < 2; omega) dX9_move_91 ?_
  refine v_eqi (f) (S.2.2.2.2.1) ?_
  refine v_aload_n K 2 dX9_move_92 rfl rfl ?_
  refine v_getr K ff_X9_41 (by decide) rfl rfl rfl dX9_move_93 ?_
  refine v_iconst K dX9_move_96 ?_
  refine v_iload_n K 3 dX9_move_97 rfl rfl ?_
  refine v_isub K dX9_move_98 ?_
  refine v_iald K (1 - s) (by decide) rfl (by omega) (by show _ < 2; omega) dX9_move_99 ?_
  refine v_eqi (MI 100 (1 - s)) (S.1 _ _ (by omega)) ?_
  refine v_isub K dX9_move_100 ?_
  refine v_istore_n K (fun q9 => [(3, .int (iI q9)), (2, .int (iI (d : Int))), (0, .ref (Q 90)), (1, .int (iI (s : Int)))]) dX9_move_101 rfl (by decide) (fun _ => rfl) (fun v hv => ?_)
  refine v_aload_n K 2 dX9_move_102 rfl rfl ?_
  refine v_getr K ff_X9_32 (by decide) rfl rfl rfl dX9_move_103 ?_
  refine v_iconst K dX9_move_106 ?_
  refine v_iload_n K 3 dX9_move_107 rfl rfl ?_
  refine v_isub K dX9_move_108 ?_
  refine v_dup2_11 K dX9_move_109 rfl rfl ?_
  refine v_iald K (1 - s) (by decide) rfl (by omega) (by show _ < 2; omega) dX9_move_110 ?_
  refine v_eqi (lo) (S.2.2.2.1) ?_
  refine v_iload_n K 0 dX9_move_111 rfl rfl ?_
  refine v_if_le K 119 ⟨by omega, by omega⟩ dX9_move_112 (by decide) (fun h112 => ?_) (fun h112 => ?_)
  · refine v_iconst K dX9_move_119 ?_
    refine v_isub K dX9_move_120 ?_
    refine v_iast K (1 - s) (by decide) rfl (by omega) (by show _ < 2; omega) dX9_move_121 ?_
    obtain ⟨v9, hv⟩ : ∃ v9, v9 = hit lo f (MI 100 (1 - s)) := ⟨_, rfl⟩
    have hv9 := hv
    refine v_eqM (M := z_up M 97 (1 - s) v9) (by congr 1; rw [hv]; unfold hit; split <;> omega) ?_
    have S2 := mvS_hit S hs v9
    have hb : -100000 ≤ v9 ∧ v9 ≤ 100000 := by rw [hv]; unfold hit; split <;> omega
    refine v_aload_n K 2 dX9_move_122 rfl rfl ?_
    refine v_geti K ff_X9_97 (by decide) rfl rfl dX9_move_123 ?_
    refine v_eqi ((t : Int) + 1) (by rw [z_up_k (by decide), S.1 90 15 (by omega)]; exact ht) ?_
    refine v_bipush K dX9_move_126 (by decide) ?_
    refine v_icmp_ge K 138 ⟨by omega, by omega⟩ ⟨by omega, by omega⟩ dX9_move_128 (by decide) (fun h128 => ?_) (fun h128 => ?_)
    · refine v_bipush K dX9_move_138 (by decide) ?_
      refine v_istore K (fun q9 => [(4, .int (iI q9)), (3, .int (iI v)), (2, .int (iI (d : Int))), (0, .ref (Q 90)), (1, .int (iI (s : Int)))]) dX9_move_140 (by decide) (fun _ => rfl) (fun e he => ?_)
      refine v_aload_n K 3 dX9_move_142 rfl rfl ?_
      refine v_iload_n K 4 dX9_move_143 rfl rfl ?_
      refine v_iload K 0 dX9_move_144 rfl ?_
      refine v_cVi K (c_X9_nextCard (S2.1.ok hM) s hs _ rfl e ⟨by omega, by omega⟩ (fun i hi => by rw [S2.2.1 i hi]; have := (hok.b hi); exact ⟨by omega, by omega⟩)) rfl fc_X9_100 wm_X9_nextCard ws_X9_nextCard (by decide) 9 rfl (by decide) rfl rfl (by decide) (Nat.le_of_ble_eq_true rfl) dX9_move_146 (fun r146 M146 L146 h146 => ?_)
      obtain ⟨hm146, hl146, hr146⟩ := h146
      subst M146 L146
      refine v_istore K (fun q9 => [(5, .int (iI q9)), (4, .int (iI e)), (3, .int (iI v)), (2, .int (iI (d : Int))), (0, .ref (Q 90)), (1, .int (iI (s : Int)))]) dX9_move_149 (by decide) (fun _ => rfl) (fun c hc => ?_)
      have ee : e = eng (t + 1) := by unfold eng; split <;> omega
      have eb : c = bst (MI 92) (MI 93) h e (MI 90 0).toNat := by
        rw [hc, hr146, S2.1.row (show 92 < 97 by decide), S2.1.row (show 93 < 97 by decide), S2.1.row (show 90 < 97 by decide)]
        exact bst_congr _ (fun i hi => S2.2.1 i (by have := hM.1; omega))
      exact l_X9_move_play K hM s hs d dr hown hown2 x hx E 10 _ h e c v _ f w p eb (by omega) (hok.mono hdr) (by omega) (by omega) hb.1 hb.2 S2 (by rw [ee, hv9]; exact hp) (by rw [ee]; exact hq)
    · refine v_aload_n K 2 dX9_move_131 rfl rfl ?_
      refine v_geti K ff_X9_97 (by decide) rfl rfl dX9_move_132 ?_
      refine v_eqi ((t : Int) + 1) (by rw [z_up_k (by decide), S.1 90 15 (by omega)]; exact ht) ?_
      refine v_goto K 140 dX9_move_135 (by decide) ?_
      refine v_istore K (fun q9 => [(4, .int (iI q9)), (3, .int (iI v)), (2, .int (iI (d : Int))), (0, .ref (Q 90)), (1, .int (iI (s : Int)))]) dX9_move_140 (by decide) (fun _ => rfl) (fun e he => ?_)
      refine v_aload_n K 3 dX9_move_142 rfl rfl ?_
      refine v_iload_n K 4 dX9_move_143 rfl rfl ?_
      refine v_iload K 0 dX9_move_144 rfl ?_
      refine v_cVi K (c_X9_nextCard (S2.1.ok hM) s hs _ rfl e ⟨by omega, by omega⟩ (fun i hi => by rw [S2.2.1 i hi]; have := (hok.b hi); exact ⟨by omega, by omega⟩)) rfl fc_X9_100 wm_X9_nextCard ws_X9_nextCard (by decide) 9 rfl (by decide) rfl rfl (by decide) (Nat.le_of_ble_eq_true rfl) dX9_move_146 (fun r146 M146 L146 h146 => ?_)
      obtain ⟨hm146, hl146, hr146⟩ := h146
      subst M146 L146
      refine v_istore K (fun q9 => [(5, .int (iI q9)), (4, .int (iI e)), (3, .int (iI v)), (2, .int (iI (d : Int))), (0, .ref (Q 90)), (1, .int (iI (s : Int)))]) dX9_move_149 (by decide) (fun _ => rfl) (fun c hc => ?_)
      have ee : e = eng (t + 1) := by unfold eng; split <;> omega
      have eb : c = bst (MI 92) (MI 93) h e (MI 90 0).toNat := by
        rw [hc, hr146, S2.1.row (show 92 < 97 by decide), S2.1.row (show 93 < 97 by decide), S2.1.row (show 90 < 97 by decide)]
        exact bst_congr _ (fun i hi => S2.2.1 i (by have := hM.1; omega))
      exact l_X9_move_play K hM s hs d dr hown hown2 x hx E 10 _ h e c v _ f w p eb (by omega) (hok.mono hdr) (by omega) (by omega) hb.1 hb.2 S2 (by rw [ee, hv9]; exact hp) (by rw [ee]; exact hq)
  · refine v_iload_n K 0 dX9_move_115 rfl rfl ?_
    refine v_goto K 120 dX9_move_116 (by decide) ?_
    refine v_isub K dX9_move_120 ?_
    refine v_iast K (1 - s) (by decide) rfl (by omega) (by show _ < 2; omega) dX9_move_121 ?_
    obtain ⟨v9, hv⟩ : ∃ v9, v9 = hit lo f (MI 100 (1 - s)) := ⟨_, rfl⟩
    have hv9 := hv
    refine v_eqM (M := z_up M 97 (1 - s) v9) (by congr 1; rw [hv]; unfold hit; split <;> omega) ?_
    have S2 := mvS_hit S hs v9
    have hb : -100000 ≤ v9 ∧ v9 ≤ 100000 := by rw [hv]; unfold hit; split <;> omega
    refine v_aload_n K 2 dX9_move_122 rfl rfl ?_
    refine v_geti K ff_X9_97 (by decide) rfl rfl dX9_move_123 ?_
    refine v_eqi ((t : Int) + 1) (by rw [z_up_k (by decide), S.1 90 15 (by omega)]; exact ht) ?_
    refine v_bipush K dX9_move_126 (by decide) ?_
    refine v_icmp_ge K 138 ⟨by omega, by omega⟩ ⟨by omega, by omega⟩ dX9_move_128 (by decide) (fun h128 => ?_) (fun h128 => ?_)
    · refine v_bipush K dX9_move_138 (by decide) ?_
      refine v_istore K (fun q9 => [(4, .int (iI q9)), (3, .int (iI v)), (2, .int (iI (d : Int))), (0, .ref (Q 90)), (1, .int (iI (s : Int)))]) dX9_move_140 (by decide) (fun _ => rfl) (fun e he => ?_)
      refine v_aload_n K 3 dX9_move_142 rfl rfl ?_
      refine v_iload_n K 4 dX9_move_143 rfl rfl ?_
      refine v_iload K 0 dX9_move_144 rfl ?_
      refine v_cVi K (c_X9_nextCard (S2.1.ok hM) s hs _ rfl e ⟨by omega, by omega⟩ (fun i hi => by rw [S2.2.1 i hi]; have := (hok.b hi); exact ⟨by omega, by omega⟩)) rfl fc_X9_100 wm_X9_nextCard ws_X9_nextCard (by decide) 9 rfl (by decide) rfl rfl (by decide) (Nat.le_of_ble_eq_true rfl) dX9_move_146 (fun r146 M146 L146 h146 => ?_)
      obtain ⟨hm146, hl146, hr146⟩ := h146
      subst M146 L146
      refine v_istore K (fun q9 => [(5, .int (iI q9)), (4, .int (iI e)), (3, .int (iI v)), (2, .int (iI (d : Int))), (0, .ref (Q 90)), (1, .int (iI (s : Int)))]) dX9_move_149 (by decide) (fun _ => rfl) (fun c hc => ?_)
      have ee : e = eng (t + 1) := by unfold eng; split <;> omega
      have eb : c = bst (MI 92) (MI 93) h e (MI 90 0).toNat := by
        rw [hc, hr146, S2.1.row (show 92 < 97 by decide), S2.1.row (show 93 < 97 by decide), S2.1.row (show 90 < 97 by decide)]
        exact bst_congr _ (fun i hi => S2.2.1 i (by have := hM.1; omega))
      exact l_X9_move_play K hM s hs d dr hown hown2 x hx E 10 _ h e c v _ f w p eb (by omega) (hok.mono hdr) (by omega) (by omega) hb.1 hb.2 S2 (by rw [ee, hv9]; exact hp) (by rw [ee]; exact hq)
    · refine v_aload_n K 2 dX9_move_131 rfl rfl ?_
      refine v_geti K ff_X9_97 (by decide) rfl rfl dX9_move_132 ?_
      refine v_eqi ((t : Int) + 1) (by rw [z_up_k (by decide), S.1 90 15 (by omega)]; exact ht) ?_
      refine v_goto K 140 dX9_move_135 (by decide) ?_
      refine v_istore K (fun q9 => [(4, .int (iI q9)), (3, .int (iI v)), (2, .int (iI (d : Int))), (0, .ref (Q 90)), (1, .int (iI (s : Int)))]) dX9_move_140 (by decide) (fun _ => rfl) (fun e he => ?_)
      refine v_aload_n K 3 dX9_move_142 rfl rfl ?_
      refine v_iload_n K 4 dX9_move_143 rfl rfl ?_
      refine v_iload K 0 dX9_move_144 rfl ?_
      refine v_cVi K (c_X9_nextCard (S2.1.ok hM) s hs _ rfl e ⟨by omega, by omega⟩ (fun i hi => by rw [S2.2.1 i hi]; have := (hok.b hi); exact ⟨by omega, by omega⟩)) rfl fc_X9_100 wm_X9_nextCard ws_X9_nextCard (by decide) 9 rfl (by decide) rfl rfl (by decide) (Nat.le_of_ble_eq_true rfl) dX9_move_146 (fun r146 M146 L146 h146 => ?_)
      obtain ⟨hm146, hl146, hr146⟩ := h146
      subst M146 L146
      refine v_istore K (fun q9 => [(5, .int (iI q9)), (4, .int (iI e)), (3, .int (iI v)), (2, .int (iI (d : Int))), (0, .ref (Q 90)), (1, .int (iI (s : Int)))]) dX9_move_149 (by decide) (fun _ => rfl) (fun c hc => ?_)
      have ee : e = eng (t + 1) := by unfold eng; split <;> omega
      have eb : c = bst (MI 92) (MI 93) h e (MI 90 0).toNat := by
        rw [hc, hr146, S2.1.row (show 92 < 97 by decide), S2.1.row (show 93 < 97 by decide), S2.1.row (show 90 < 97 by decide)]
        exact bst_congr _ (fun i hi => S2.2.1 i (by have := hM.1; omega))
      exact l_X9_move_play K hM s hs d dr hown hown2 x hx E 10 _ h e c v _ f w p eb (by omega) (hok.mono hdr) (by omega) (by omega) hb.1 hb.2 S2 (by rw [ee, hv9]; exact hp) (by rw [ee]; exact hq)
set_option maxRecDepth 100000 in
set_option maxHeartbeats 4000000 in
theorem c_X9_move {l : Launch} {D : va_G} {Z : ZC} {Q : Nat → Nat} {MI ML : ZM} (hM : mOk MI) (s : Nat) (hs : s < 2) (s9 : Int) (hs9 : s9 = s) (d : Nat) (hd : d < 5) (hp : MI 96 s = d) (t : Nat) (ht : MI 90 15 = (t : Int) + 1) (ht2 : t < 12) (h : Nat → Int) (dr : Nat) (hh : ∀ c, c < 12 → MI 102 (12 * s + c) = h c) (hdr : MI 98 s = dr) (hd10 : dr ≤ 10) (hok : hOk h dr) (hown : 0 < MI 97 s) (hown2 : MI 97 s ≤ 40) (hl0 : 0 < MI 97 (1 - s)) (hl1 : MI 97 (1 - s) ≤ 40) (hf0 : 0 ≤ MI 99 s) (hf1 : MI 99 s ≤ 10000) (hw0 : 0 ≤ MI 100 (1 - s)) (hw1 : MI 100 (1 - s) ≤ 10000) : C_X9_move l D Z Q [.ref (Q 90), .int (iI s9)] MI ML (zV fun M L => L = ML ∧ (∃ h1, mvS MI M s h1 (drw (MI 94 d).toNat (fun k => (MI 95 (10 * d + k)).toNat) (ndr t) (h, dr)).2 (mv (MI 91) (MI 93) (selL (MI 90 0).toNat (MI 92) (MI 93) 10 (drw (MI 94 d).toNat (fun k => (MI 95 (10 * d + k)).toNat) (ndr t) (h, dr)).1 (eng (t + 1))) (MI 97 (1 - s)) (MI 99 s) (MI 100 s) (MI 101 s) (MI 100 (1 - s))).1 (mv (MI 91) (MI 93) (selL (MI 90 0).toNat (MI 92) (MI 93) 10 (drw (MI 94 d).toNat (fun k => (MI 95 (10 * d + k)).toNat) (ndr t) (h, dr)).1 (eng (t + 1))) (MI 97 (1 - s)) (MI 99 s) (MI 100 s) (MI 101 s) (MI 100 (1 - s))).2.1 (mv (MI 91) (MI 93) (selL (MI 90 0).toNat (MI 92) (MI 93) 10 (drw (MI 94 d).toNat (fun k => (MI 95 (10 * d + k)).toNat) (ndr t) (h, dr)).1 (eng (t + 1))) (MI 97 (1 - s)) (MI 99 s) (MI 100 s) (MI 101 s) (MI 100 (1 - s))).2.2.1 (mv (MI 91) (MI 93) (selL (MI 90 0).toNat (MI 92) (MI 93) 10 (drw (MI 94 d).toNat (fun k => (MI 95 (10 * d + k)).toNat) (ndr t) (h, dr)).1 (eng (t + 1))) (MI 97 (1 - s)) (MI 99 s) (MI 100 s) (MI 101 s) (MI 100 (1 - s))).2.2.2 ∧ (0 < (mv (MI 91) (MI 93) (selL (MI 90 0).toNat (MI 92) (MI 93) 10 (drw (MI 94 d).toNat (fun k => (MI 95 (10 * d + k)).toNat) (ndr t) (h, dr)).1 (eng (t + 1))) (MI 97 (1 - s)) (MI 99 s) (MI 100 s) (MI 101 s) (MI 100 (1 - s))).1 → ∀ i, i < 12 → h1 i = (selH (MI 90 0).toNat (MI 92) (MI 93) 10 (drw (MI 94 d).toNat (fun k => (MI 95 (10 * d + k)).toNat) (ndr t) (h, dr)).1 (eng (t + 1))) i))) := by
  subst hs9
  refine CM.of (by decide +kernel) (Nat.le_of_ble_eq_true rfl) ?_
  intro X K E _ _ _ _
  show V X (0, 0) 110 Q z_rf MI ML 0 [(0, .ref (Q 90)), (1, .int (iI (s : Int)))] []
  refine v_aload_n K 0 dX9_move_0 rfl rfl ?_
  refine v_getr K ff_X9_29 (by decide) rfl rfl rfl dX9_move_1 ?_
  refine v_iload_n K 1 dX9_move_4 rfl rfl ?_
  refine v_iald K (s) (by decide) rfl rfl (by show _ < 2; omega) dX9_move_5 ?_
  refine v_eqi ((d : Int)) (hp) ?_
  refine v_istore_n K (fun q9 => [(2, .int (iI q9)), (0, .ref (Q 90)), (1, .int (iI (s : Int)))]) dX9_move_6 rfl (by decide) (fun _ => rfl) (fun y2 hy2 => ?_)
  refine v_aload_n K 1 dX9_move_7 rfl rfl ?_
  refine v_geti K ff_X9_97 (by decide) rfl rfl dX9_move_8 ?_
  refine v_eqi ((t : Int) + 1) (ht) ?_
  refine v_iconst K dX9_move_11 ?_
  refine v_icmp_ne K 19 ⟨by omega, by omega⟩ ⟨by omega, by omega⟩ dX9_move_12 (by decide) (fun h12 => ?_) (fun h12 => ?_)
  · refine v_iconst K dX9_move_19 ?_
    refine v_istore_n K (fun q9 => [(3, .int (iI q9)), (2, .int (iI y2)), (0, .ref (Q 90)), (1, .int (iI (s : Int)))]) dX9_move_20 rfl (by decide) (fun _ => rfl) (fun y hy => ?_)
    subst hy2
    have us := hM.2.2.2.2.1 d hd
    have uk := hM.2.2.2.2.2
    have u0 := hM.1
    have S0 : mvS MI MI s h dr (MI 97 (1 - s)) (MI 99 s) (MI 100 s) (MI 101 s) := ⟨fun _ _ _ => rfl, hh, hdr, rfl, rfl, rfl, rfl⟩
    have q := drw_ok (n := (MI 94 d).toNat) (cd := fun k => (MI 95 (10 * d + k)).toNat) (fun k hk => by have := uk d k hd (by omega); omega) (ndr t) h dr hok
    have hn : ndr t ≤ 2 ∧ y = (ndr t : Int) := by unfold ndr; split <;> omega
    exact l_X9_move_draw K hM s hs d hd _ _ _ _ _ (fun M y S => l_X9_move_tail K hM s hs d _ t ht ht2 (by omega) hown (by omega) _ _ E M _ y _ _ _ _ q.1 S hl0 hl1 hf0 hf1 hw0 hw1 rfl (fun _ _ => rfl)) (ndr t) MI h dr y hn.2 S0 hd10 hn.1 rfl
  · refine v_iconst K dX9_move_15 ?_
    refine v_goto K 20 dX9_move_16 (by decide) ?_
    refine v_istore_n K (fun q9 => [(3, .int (iI q9)), (2, .int (iI y2)), (0, .ref (Q 90)), (1, .int (iI (s : Int)))]) dX9_move_20 rfl (by decide) (fun _ => rfl) (fun y hy => ?_)
    subst hy2
    have us := hM.2.2.2.2.1 d hd
    have uk := hM.2.2.2.2.2
    have u0 := hM.1
    have S0 : mvS MI MI s h dr (MI 97 (1 - s)) (MI 99 s) (MI 100 s) (MI 101 s) := ⟨fun _ _ _ => rfl, hh, hdr, rfl, rfl, rfl, rfl⟩
    have q := drw_ok (n := (MI 94 d).toNat) (cd := fun k => (MI 95 (10 * d + k)).toNat) (fun k hk => by have := uk d k hd (by omega); omega) (ndr t) h dr hok
    have hn : ndr t ≤ 2 ∧ y = (ndr t : Int) := by unfold ndr; split <;> omega
    exact l_X9_move_draw K hM s hs d hd _ _ _ _ _ (fun M y S => l_X9_move_tail K hM s hs d _ t ht ht2 (by omega) hown (by omega) _ _ E M _ y _ _ _ _ q.1 S hl0 hl1 hf0 hf1 hw0 hw1 rfl (fun _ _ => rfl)) (ndr t) MI h dr y hn.2 S0 hd10 hn.1 rfl
end
section
theorem selH_ok (nc : Nat) (hn : nc ≤ 12) (co po : Nat → Int) (m : Nat) : ∀ k h e, hOk h m → hOk (selH nc co po k h e) m := by
  intro k
  induction k with
  | zero => intro h e q; exact q
  | succ k ih =>
    intro h e q
    simp only [selH]
    split
    · exact q
    · rename_i hb
      have b1 := bst_b co po h e nc
      have b2 := bst_h co po h e nc (by omega)
      refine ih _ _ ⟨fun i => ?_, ?_⟩
      · have := q.1 i
        simp only [hdec]
        split
        · rename_i e1; subst e1; omega
        · exact this
      · rw [htot_dec]; have := q.2; split <;> omega
theorem pst_ok {nc n : Nat} (hn : nc ≤ 12) (co po : Nat → Int) {cd : Nat → Nat} (hc : ∀ k, k < n → cd k < 12) (h10 : n ≤ 10) : ∀ t, hOk (pst nc co po n cd t).1 (pst nc co po n cd t).2 ∧ (pst nc co po n cd t).2 ≤ 10 := by
  intro t
  induction t with
  | zero => exact ⟨⟨fun _ => Int.le_refl 0, by show htot (fun _ => 0) 12 ≤ ((0 : Nat) : Int); decide⟩, by show (0 : Nat) ≤ 10; decide⟩
  | succ t ih =>
    simp only [pst]
    have q := drw_ok hc (ndr t) (pst nc co po n cd t).1 (pst nc co po n cd t).2 ih.1
    exact ⟨selH_ok nc hn co po _ _ _ _ q.1, by have := ih.2; show (drw n cd (ndr t) ((pst nc co po n cd t).1, (pst nc co po n cd t).2)).2 ≤ 10; omega⟩
theorem put1_b {so po : Nat → Int} {c : Nat} (x : Int × Int × Int × Int) (h0 : 0 ≤ po c) (h9 : po c ≤ 9) : (put1 so po c x).1 ≤ x.1 ∧ x.1 - 9 ≤ (put1 so po c x).1 ∧ x.2.1 ≤ (put1 so po c x).2.1 ∧ (put1 so po c x).2.1 ≤ x.2.1 + 9 ∧ x.2.2.1 ≤ (put1 so po c x).2.2.1 ∧ (put1 so po c x).2.2.1 ≤ x.2.2.1 + 9 ∧ (put1 so po c x).2.2.2 = x.2.2.2 + 1 := by
  simp only [put1]
  split
  · simp; omega
  · split
    · simp; omega
    · simp; omega
theorem putL_b {so po : Nat → Int} : ∀ (l : List Nat) (x : Int × Int × Int × Int), (∀ c ∈ l, 0 ≤ po c ∧ po c ≤ 9) → (putL so po l x).1 ≤ x.1 ∧ (x.1 ≤ (putL so po l x).1 ∨ -9 ≤ (putL so po l x).1) ∧ x.2.1 ≤ (putL so po l x).2.1 ∧ (putL so po l x).2.1 ≤ x.2.1 + 9 * l.length ∧ x.2.2.1 ≤ (putL so po l x).2.2.1 ∧ (putL so po l x).2.2.1 ≤ x.2.2.1 + 9 * l.length ∧ x.2.2.2 ≤ (putL so po l x).2.2.2 ∧ (putL so po l x).2.2.2 ≤ x.2.2.2 + l.length := by
  intro l
  induction l with
  | nil => intro x _; simp [putL]
  | cons c l ih =>
    intro x hl
    simp only [putL, List.length_cons]
    split
    · omega
    · have h1 := hl c (List.mem_cons_self)
      have b := put1_b (so := so) x h1.1 h1.2
      have := ih (put1 so po c x) (fun d hd => hl d (List.mem_cons_of_mem _ hd))
      omega
/-- the bounds of a GAME's state behind t TURNS -/
def gBd (t : Nat) (g : GS) : Prop := (-20000 ≤ g.1 ∧ g.1 ≤ 40) ∧ (-20000 ≤ g.2.1 ∧ g.2.1 ≤ 40) ∧ gIn t g.2.2.1.1 g.2.2.1.2.1 g.2.2.1.2.2 ∧ gIn t g.2.2.2.1 g.2.2.2.2.1 g.2.2.2.2.2
theorem mv_b {so po : Nat → Int} {l : List Nat} {lo f w p wo : Int} {t : Nat} (ht : t ≤ 12) (hl : ∀ c ∈ l, 0 ≤ po c ∧ po c ≤ 9) (hn : l.length ≤ 10) (h1 : 0 < lo) (h2 : lo ≤ 40) (hg : gIn t f w p) (hw : 0 ≤ wo) : (-20000 ≤ (mv so po l lo f w p wo).1 ∧ (mv so po l lo f w p wo).1 ≤ 40) ∧ gIn (t + 1) (mv so po l lo f w p wo).2.1 (mv so po l lo f w p wo).2.2.1 (mv so po l lo f w p wo).2.2.2 := by
  unfold mv
  have b := putL_b (so := so) l (hit lo f wo, f, w, p) hl
  have hh : -2000 ≤ hit lo f wo ∧ hit lo f wo ≤ 40 := by
    unfold hit; unfold gIn at hg; split <;> omega
  unfold gIn at hg ⊢
  simp only at b
  omega
theorem gIn.up {t : Nat} {f w p : Int} (h : gIn t f w p) : gIn (t + 1) f w p := by unfold gIn at *; omega
abbrev mPs (MI : ZM) (a t : Nat) : (Nat → Int) × Nat := pst (MI 90 0).toNat (MI 92) (MI 93) (MI 94 a).toNat (fun k => (MI 95 (10 * a + k)).toNat) t
abbrev mPl (MI : ZM) (a t : Nat) : List Nat := plL (MI 90 0).toNat (MI 92) (MI 93) (MI 94 a).toNat (fun k => (MI 95 (10 * a + k)).toNat) t
abbrev mGame (MI : ZM) (a b : Nat) : Nat × GS := gGame (MI 91) (MI 93) (mPl MI a) (mPl MI b) (MI 90 7)
theorem mPl_b {MI : ZM} (hM : mOk MI) (a t : Nat) : (∀ c ∈ mPl MI a t, 0 ≤ MI 93 c ∧ MI 93 c ≤ 9) ∧ (mPl MI a t).length ≤ 10 := by
  refine ⟨fun c hc => ?_, selL_len _ _ _ _ _ _⟩
  have h1 := selL_mem _ _ _ _ _ _ c hc
  have u0 := hM.1
  exact (hM.2.2.2.1 c (by omega)).2.2
theorem mPs_ok {MI : ZM} (hM : mOk MI) {a : Nat} (ha : a < 5) (t : Nat) : hOk (mPs MI a t).1 (mPs MI a t).2 ∧ (mPs MI a t).2 ≤ 10 := by
  have u0 := hM.1
  have us := hM.2.2.2.2.1 a ha
  exact pst_ok (by omega) _ _ (fun k hk => by have := hM.2.2.2.2.2 a k ha (by omega); omega) (by omega) t
/-- what a GAME of the reference may change -/
def scM (MI M : ZM) : Prop := ∀ a b, (a < 96 ∨ 102 < a) → ¬ (a = 90 ∧ b = 15) → M a b = MI a b
theorem scM.ok {MI M : ZM} (h : scM MI M) (hM : mOk MI) : mOk M := mOk_of (fun a b h1 h2 h3 => h a b (by omega) h3) hM
theorem scM.row {MI M : ZM} (h : scM MI M) {a : Nat} (ha : a < 96 ∨ 102 < a) (h9 : a ≠ 90) : M a = MI a := funext fun b => h a b ha (by omega)
theorem scM.up {MI M : ZM} (h : scM MI M) {k j : Nat} {v : Int} (hk : (96 ≤ k ∧ k ≤ 102) ∨ (k = 90 ∧ j = 15)) : scM MI (z_up M k j v) := fun a b h1 h2 => by
  simp only [z_up]
  rw [if_neg (by omega)]
  exact h a b h1 h2
theorem scM.mv {MI M M' : ZM} {s : Nat} (hs : s < 2) (h : scM MI M) (h2 : mvF M M' s) : scM MI M' := fun a b q1 q2 => (h2 a b (by omega)).trans (h a b q1 q2)
def gmI (MI M : ZM) (a b k j : Nat) : Prop := scM MI M ∧ M 96 0 = a ∧ M 96 1 = b ∧ (∀ c, c < k → M 102 c = 0) ∧ ∀ s, s < j → M 97 s = MI 90 7 ∧ M 98 s = 0 ∧ M 99 s = 0 ∧ M 100 s = 0 ∧ M 101 s = 0
def gmS (MI M : ZM) (a b t : Nat) (g : GS) : Prop := scM MI M ∧ M 96 0 = a ∧ M 96 1 = b ∧ M 90 15 = t ∧ M 97 0 = g.1 ∧ M 97 1 = g.2.1 ∧ M 99 0 = g.2.2.1.1 ∧ M 100 0 = g.2.2.1.2.1 ∧ M 101 0 = g.2.2.1.2.2 ∧ M 99 1 = g.2.2.2.1 ∧ M 100 1 = g.2.2.2.2.1 ∧ M 101 1 = g.2.2.2.2.2
def gmH (MI M : ZM) (s a t : Nat) : Prop := (∀ c, c < 12 → M 102 (12 * s + c) = (mPs MI a t).1 c) ∧ M 98 s = (mPs MI a t).2
theorem gmH.keep {MI M M' : ZM} {s s2 a t : Nat} (h : gmH MI M s a t) (hs : s < 2) (hs2 : s2 < 2) (hne : s ≠ s2) (h2 : mvF M M' s2) : gmH MI M' s a t := ⟨fun c hc => by rw [h2 _ _ (by omega)]; exact h.1 c hc, by rw [h2 _ _ (by omega)]; exact h.2⟩
theorem gm_mv0 {MI M M' : ZM} {a b t : Nat} {g : GS} {h1 : Nat → Int} (G : gmS MI M a b (t + 1) g)
    (S : mvS M M' 0 h1 (drw (M 94 a).toNat (fun k => (M 95 (10 * a + k)).toNat) (ndr t) ((mPs MI a t).1, (mPs MI a t).2)).2 (mv (M 91) (M 93) (selL (M 90 0).toNat (M 92) (M 93) 10 (drw (M 94 a).toNat (fun k => (M 95 (10 * a + k)).toNat) (ndr t) ((mPs MI a t).1, (mPs MI a t).2)).1 (eng (t + 1))) (M 97 1) (M 99 0) (M 100 0) (M 101 0) (M 100 1)).1 (mv (M 91) (M 93) (selL (M 90 0).toNat (M 92) (M 93) 10 (drw (M 94 a).toNat (fun k => (M 95 (10 * a + k)).toNat) (ndr t) ((mPs MI a t).1, (mPs MI a t).2)).1 (eng (t + 1))) (M 97 1) (M 99 0) (M 100 0) (M 101 0) (M 100 1)).2.1 (mv (M 91) (M 93) (selL (M 90 0).toNat (M 92) (M 93) 10 (drw (M 94 a).toNat (fun k => (M 95 (10 * a + k)).toNat) (ndr t) ((mPs MI a t).1, (mPs MI a t).2)).1 (eng (t + 1))) (M 97 1) (M 99 0) (M 100 0) (M 101 0) (M 100 1)).2.2.1 (mv (M 91) (M 93) (selL (M 90 0).toNat (M 92) (M 93) 10 (drw (M 94 a).toNat (fun k => (M 95 (10 * a + k)).toNat) (ndr t) ((mPs MI a t).1, (mPs MI a t).2)).1 (eng (t + 1))) (M 97 1) (M 99 0) (M 100 0) (M 101 0) (M 100 1)).2.2.2)
    (Hh : 0 < (mv (M 91) (M 93) (selL (M 90 0).toNat (M 92) (M 93) 10 (drw (M 94 a).toNat (fun k => (M 95 (10 * a + k)).toNat) (ndr t) ((mPs MI a t).1, (mPs MI a t).2)).1 (eng (t + 1))) (M 97 1) (M 99 0) (M 100 0) (M 101 0) (M 100 1)).1 → ∀ i, i < 12 → h1 i = selH (M 90 0).toNat (M 92) (M 93) 10 (drw (M 94 a).toNat (fun k => (M 95 (10 * a + k)).toNat) (ndr t) ((mPs MI a t).1, (mPs MI a t).2)).1 (eng (t + 1)) i) :
    gmS MI M' a b (t + 1) (gA (MI 91) (MI 93) (mPl MI a t) g) ∧ (0 < (gA (MI 91) (MI 93) (mPl MI a t) g).2.1 → gmH MI M' 0 a (t + 1)) := by
  obtain ⟨c0, c1, c2, c3, c4, c5, c6, c7, c8, c9, c10, c11⟩ := G
  have r91 := c0.row (a := 91) (by omega) (by decide)
  have r92 := c0.row (a := 92) (by omega) (by decide)
  have r93 := c0.row (a := 93) (by omega) (by decide)
  have r94 := c0.row (a := 94) (by omega) (by decide)
  have r95 := c0.row (a := 95) (by omega) (by decide)
  have r90 := c0 90 0 (by omega) (by decide)
  rw [r91, r92, r93, r94, r95, r90, c5, c6, c7, c8, c10] at S Hh
  obtain ⟨s1, s2, s3, s4, s5, s6, s7⟩ := S
  refine ⟨⟨c0.mv (by decide) s1, ?_, ?_, ?_, ?_, s4, s5, s6, s7, ?_, ?_, ?_⟩, fun hl => ⟨fun c hc => ?_, s3⟩⟩
  · rw [s1 _ _ (by omega)]; exact c1
  · rw [s1 _ _ (by omega)]; exact c2
  · rw [s1 _ _ (by omega)]; exact c3
  · rw [s1 _ _ (by omega)]; exact c4
  · rw [s1 _ _ (by omega)]; exact c9
  · rw [s1 _ _ (by omega)]; exact c10
  · rw [s1 _ _ (by omega)]; exact c11
  · rw [s2 c hc]; exact Hh hl c hc
theorem gm_mv1 {MI M M' : ZM} {a b t : Nat} {g : GS} {h1 : Nat → Int} (G : gmS MI M a b (t + 1) g)
    (S : mvS M M' 1 h1 (drw (M 94 b).toNat (fun k => (M 95 (10 * b + k)).toNat) (ndr t) ((mPs MI b t).1, (mPs MI b t).2)).2 (mv (M 91) (M 93) (selL (M 90 0).toNat (M 92) (M 93) 10 (drw (M 94 b).toNat (fun k => (M 95 (10 * b + k)).toNat) (ndr t) ((mPs MI b t).1, (mPs MI b t).2)).1 (eng (t + 1))) (M 97 0) (M 99 1) (M 100 1) (M 101 1) (M 100 0)).1 (mv (M 91) (M 93) (selL (M 90 0).toNat (M 92) (M 93) 10 (drw (M 94 b).toNat (fun k => (M 95 (10 * b + k)).toNat) (ndr t) ((mPs MI b t).1, (mPs MI b t).2)).1 (eng (t + 1))) (M 97 0) (M 99 1) (M 100 1) (M 101 1) (M 100 0)).2.1 (mv (M 91) (M 93) (selL (M 90 0).toNat (M 92) (M 93) 10 (drw (M 94 b).toNat (fun k => (M 95 (10 * b + k)).toNat) (ndr t) ((mPs MI b t).1, (mPs MI b t).2)).1 (eng (t + 1))) (M 97 0) (M 99 1) (M 100 1) (M 101 1) (M 100 0)).2.2.1 (mv (M 91) (M 93) (selL (M 90 0).toNat (M 92) (M 93) 10 (drw (M 94 b).toNat (fun k => (M 95 (10 * b + k)).toNat) (ndr t) ((mPs MI b t).1, (mPs MI b t).2)).1 (eng (t + 1))) (M 97 0) (M 99 1) (M 100 1) (M 101 1) (M 100 0)).2.2.2)
    (Hh : 0 < (mv (M 91) (M 93) (selL (M 90 0).toNat (M 92) (M 93) 10 (drw (M 94 b).toNat (fun k => (M 95 (10 * b + k)).toNat) (ndr t) ((mPs MI b t).1, (mPs MI b t).2)).1 (eng (t + 1))) (M 97 0) (M 99 1) (M 100 1) (M 101 1) (M 100 0)).1 → ∀ i, i < 12 → h1 i = selH (M 90 0).toNat (M 92) (M 93) 10 (drw (M 94 b).toNat (fun k => (M 95 (10 * b + k)).toNat) (ndr t) ((mPs MI b t).1, (mPs MI b t).2)).1 (eng (t + 1)) i) :
    gmS MI M' a b (t + 1) (gB (MI 91) (MI 93) (mPl MI b t) g) ∧ (0 < (gB (MI 91) (MI 93) (mPl MI b t) g).1 → gmH MI M' 1 b (t + 1)) := by
  obtain ⟨c0, c1, c2, c3, c4, c5, c6, c7, c8, c9, c10, c11⟩ := G
  have r91 := c0.row (a := 91) (by omega) (by decide)
  have r92 := c0.row (a := 92) (by omega) (by decide)
  have r93 := c0.row (a := 93) (by omega) (by decide)
  have r94 := c0.row (a := 94) (by omega) (by decide)
  have r95 := c0.row (a := 95) (by omega) (by decide)
  have r90 := c0 90 0 (by omega) (by decide)
  rw [r91, r92, r93, r94, r95, r90, c4, c9, c10, c11, c7] at S Hh
  obtain ⟨s1, s2, s3, s4, s5, s6, s7⟩ := S
  refine ⟨⟨c0.mv (by decide) s1, ?_, ?_, ?_, s4, ?_, ?_, ?_, ?_, s5, s6, s7⟩, fun hl => ⟨fun c hc => ?_, s3⟩⟩
  · rw [s1 _ _ (by omega)]; exact c1
  · rw [s1 _ _ (by omega)]; exact c2
  · rw [s1 _ _ (by omega)]; exact c3
  · rw [s1 _ _ (by omega)]; exact c5
  · rw [s1 _ _ (by omega)]; exact c6
  · rw [s1 _ _ (by omega)]; exact c7
  · rw [s1 _ _ (by omega)]; exact c8
  · rw [s2 c hc]; exact Hh hl c hc
theorem gm_turn {MI M : ZM} {a b t : Nat} {g : GS} (G : gmS MI M a b t g) : gmS MI (z_up M 90 15 ((t : Int) + 1)) a b (t + 1) g := by
  obtain ⟨c0, c1, c2, c3, c4, c5, c6, c7, c8, c9, c10, c11⟩ := G
  refine ⟨c0.up (Or.inr ⟨rfl, rfl⟩), ?_, ?_, ?_, ?_, ?_, ?_, ?_, ?_, ?_, ?_, ?_⟩
  · rw [z_up_k (by decide)]; exact c1
  · rw [z_up_k (by decide)]; exact c2
  · rw [z_up_s]; simp
  · rw [z_up_k (by decide)]; exact c4
  · rw [z_up_k (by decide)]; exact c5
  · rw [z_up_k (by decide)]; exact c6
  · rw [z_up_k (by decide)]; exact c7
  · rw [z_up_k (by decide)]; exact c8
  · rw [z_up_k (by decide)]; exact c9
  · rw [z_up_k (by decide)]; exact c10
  · rw [z_up_k (by decide)]; exact c11
set_option maxRecDepth 100000 in
set_option maxHeartbeats 4000000 in
theorem l_X9_game {X : VX} {Q : Nat → Nat} {MI ML : ZM} (K : VK X cX9_game RX9 4 none 2 50 0 0) (hM : mOk MI) (a b : Nat) (ha : a < 5) (hb : b < 5) (R : Nat × GS) (E : VE X 0 0 110 Q (zq Q (zV fun M L => L = ML ∧ gmS MI M a b R.1 R.2))) (y : Int) : ∀ (n t : Nat) (M : ZM) (g : GS), t + n = 12 → gmS MI M a b t g → gBd t g → (0 < g.1 → 0 < g.2.1 → gmH MI M 0 a t ∧ gmH MI M 1 b t) → gRun (MI 91) (MI 93) (mPl MI a) (mPl MI b) n t g = R → V X (0, 0) 110 Q z_rf M ML 91 [(3, .int (iI y)), (0, .ref (Q 90)), (1, .int (iI (a : Int))), (2, .int (iI (b : Int)))] [] := by
  intro n
  induction n with
  | zero =>
    intro t M g htn G hB hH hR
    simp only [gRun] at hR
    subst hR
    obtain ⟨g0, g1, g2, g3, g4, g5, g6, g7, g8, g9, g10, g11⟩ := id G
    obtain ⟨hB1, hB2, hB3, hB4⟩ := id hB
    refine v_aload_n K 1 dX9_game_91 rfl rfl ?_
    refine v_cVi K (c_X9_isOver (by rw [g4]; exact ⟨by omega, by omega⟩) (by rw [g5]; exact ⟨by omega, by omega⟩)) rfl fc_X9_104 wm_X9_isOver ws_X9_isOver (by decide) 9 rfl (by decide) rfl rfl (by decide) (Nat.le_of_ble_eq_true rfl) dX9_game_92 (fun r92 M92 L92 h92 => ?_)
    obtain ⟨hm92, hl92, hr92⟩ := h92
    subst M92 L92
    refine v_if_ne K 137 ⟨by omega, by omega⟩ dX9_game_95 (by decide) (fun h95 => ?_) (fun h95 => ?_)
    · exact v_rv K E dX9_game_137 ⟨rfl, G⟩
    · refine v_aload_n K 1 dX9_game_98 rfl rfl ?_
      refine v_geti K ff_X9_97 (by decide) rfl rfl dX9_game_99 ?_
      refine v_eqi ((t : Int)) (g3) ?_
      refine v_bipush K dX9_game_102 (by decide) ?_
      refine v_icmp_ge K 137 ⟨by omega, by omega⟩ ⟨by omega, by omega⟩ dX9_game_104 (by decide) (fun h104 => ?_) (fun h104 => ?_)
      · exact v_rv K E dX9_game_137 ⟨rfl, G⟩
      · exact absurd h104 (by omega)
  | succ n ih =>
    intro t M g htn G hB hH hR
    obtain ⟨g0, g1, g2, g3, g4, g5, g6, g7, g8, g9, g10, g11⟩ := id G
    obtain ⟨hB1, hB2, hB3, hB4⟩ := id hB
    refine v_aload_n K 1 dX9_game_91 rfl rfl ?_
    refine v_cVi K (c_X9_isOver (by rw [g4]; exact ⟨by omega, by omega⟩) (by rw [g5]; exact ⟨by omega, by omega⟩)) rfl fc_X9_104 wm_X9_isOver ws_X9_isOver (by decide) 9 rfl (by decide) rfl rfl (by decide) (Nat.le_of_ble_eq_true rfl) dX9_game_92 (fun r92 M92 L92 h92 => ?_)
    obtain ⟨hm92, hl92, hr92⟩ := h92
    subst M92 L92
    refine v_if_ne K 137 ⟨by omega, by omega⟩ dX9_game_95 (by decide) (fun h95 => ?_) (fun h95 => ?_)
    · simp only [gRun] at hR
      rw [if_pos (by omega)] at hR
      subst hR
      exact v_rv K E dX9_game_137 ⟨rfl, G⟩
    · have q1 : 0 < g.1 := by omega
      have q2 : 0 < g.2.1 := by omega
      obtain ⟨H0, H1⟩ := hH q1 q2
      refine v_aload_n K 1 dX9_game_98 rfl rfl ?_
      refine v_geti K ff_X9_97 (by decide) rfl rfl dX9_game_99 ?_
      refine v_eqi ((t : Int)) (g3) ?_
      refine v_bipush K dX9_game_102 (by decide) ?_
      refine v_icmp_ge K 137 ⟨by omega, by omega⟩ ⟨by omega, by omega⟩ dX9_game_104 (by decide) (fun h104 => ?_) (fun h104 => ?_)
      · exact absurd h104 (by omega)
      · simp only [gRun] at hR
        rw [if_neg (by omega)] at hR
        refine v_aload_n K 1 dX9_game_107 rfl rfl ?_
        refine v_dup K dX9_game_108 rfl ?_
        refine v_geti K ff_X9_97 (by decide) rfl rfl dX9_game_109 ?_
        refine v_eqi ((t : Int)) (g3) ?_
        refine v_iconst K dX9_game_112 ?_
        refine v_iadd K dX9_game_113 ?_
        refine v_puti K fp_X9_97 (by decide) rfl rfl dX9_game_114 ?_
        have G1 := gm_turn G
        have k0 := mPs_ok hM ha t
        have k1 := mPs_ok hM hb t
        unfold gIn at hB3 hB4
        have H01 : gmH MI (z_up M 90 15 (↑t + 1)) 0 a t := ⟨fun c hc => by rw [z_up_k (by decide)]; exact H0.1 c hc, by rw [z_up_k (by decide)]; exact H0.2⟩
        have H11 : gmH MI (z_up M 90 15 (↑t + 1)) 1 b t := ⟨fun c hc => by rw [z_up_k (by decide)]; exact H1.1 c hc, by rw [z_up_k (by decide)]; exact H1.2⟩
        obtain ⟨M1, hM1⟩ : ∃ M1, M1 = z_up M 90 15 (↑t + 1) := ⟨_, rfl⟩
        rw [← hM1] at G1 H01 H11 ⊢
        obtain ⟨e0, e1, e2, e3, e4, e5, e6, e7, e8, e9, e10, e11⟩ := id G1
        refine v_aload_n K 1 dX9_game_117 rfl rfl ?_
        refine v_iconst K dX9_game_118 ?_
        refine v_cVv K (c_X9_move (e0.ok hM) 0 (by decide) _ rfl a ha e1 t (by rw [e3]; simp) (by omega) (mPs MI a t).1 (mPs MI a t).2 H01.1 H01.2 k0.2 k0.1 (by rw [e4]; exact q1) (by rw [e4]; omega) (by show 0 < M1 97 1; rw [e5]; exact q2) (by show M1 97 1 ≤ 40; rw [e5]; omega) (by rw [e6]; omega) (by rw [e6]; omega) (by show 0 ≤ M1 100 1; rw [e10]; omega) (by show M1 100 1 ≤ 10000; rw [e10]; omega)) rfl fc_X9_111 wm_X9_move ws_X9_move (by decide) 9 rfl (by decide) rfl rfl (by decide) (Nat.le_of_ble_eq_true rfl) dX9_game_119 (fun M119 L119 h119 => ?_)
        obtain ⟨hl119, h1, S, Hh⟩ := h119
        subst L119
        have G2 := gm_mv0 G1 S Hh
        have H12 := H11.keep (by decide) (by decide) (by decide) S.1
        have w := mPl_b hM a t
        have B1 := mv_b (so := MI 91) (po := MI 93) (l := mPl MI a t) (t := t) (by omega) w.1 w.2 q2 (by omega) hB.2.2.1 hB4.2.2.1
        obtain ⟨a0, a1, a2, a3, a4, a5, a6, a7, a8, a9, a10, a11⟩ := id G2.1
        refine v_aload_n K 1 dX9_game_122 rfl rfl ?_
        refine v_cVi K (c_X9_isOver (by rw [a4]; show rg g.1; exact ⟨by omega, by omega⟩) (by rw [a5]; exact ⟨by have := B1.1.1; show _ ≤ (mv _ _ _ _ _ _ _ _).1; omega, by have := B1.1.2; show (mv _ _ _ _ _ _ _ _).1 < _; omega⟩)) rfl fc_X9_104 wm_X9_isOver ws_X9_isOver (by decide) 9 rfl (by decide) rfl rfl (by decide) (Nat.le_of_ble_eq_true rfl) dX9_game_123 (fun r123 M123 L123 h123 => ?_)
        obtain ⟨hm123, hl123, hr123⟩ := h123
        subst M123 L123
        refine v_if_ne K 91 ⟨by omega, by omega⟩ dX9_game_126 (by decide) (fun h126 => ?_) (fun h126 => ?_)
        · rw [a4, a5] at hr123
          have q3 : (gA (MI 91) (MI 93) (mPl MI a t) g).2.1 ≤ 0 := by rcases hr123 with ⟨_, q | q⟩ | ⟨q, _⟩; exact absurd (show g.1 ≤ 0 from q) (by omega); exact q; exact absurd q h126
          have eT : gTurn (MI 91) (MI 93) (mPl MI a t) (mPl MI b t) g = gA (MI 91) (MI 93) (mPl MI a t) g := by unfold gTurn; rw [if_pos q3]
          rw [eT] at hR
          exact ih (t + 1) _ _ (by omega) G2.1 ⟨⟨by show _ ≤ g.1; omega, by show g.1 ≤ _; omega⟩, B1.1, B1.2, hB.2.2.2.up⟩ (fun _ q => absurd q (by omega)) hR
        · rw [a4, a5] at hr123
          have q3 : 0 < (gA (MI 91) (MI 93) (mPl MI a t) g).2.1 := by omega
          have k2 := mPs_ok hM hb t
          have w2 := mPl_b hM b t
          have B0 : gIn t g.2.2.2.1 g.2.2.2.2.1 g.2.2.2.2.2 := hB.2.2.2
          have B2 := mv_b (so := MI 91) (po := MI 93) (l := mPl MI b t) (t := t) (wo := (gA (MI 91) (MI 93) (mPl MI a t) g).2.2.1.2.1) (by omega) w2.1 w2.2 q1 (by omega) hB.2.2.2 (B1.2.2.2.1)
          refine v_aload_n K 1 dX9_game_129 rfl rfl ?_
          refine v_iconst K dX9_game_130 ?_
          refine v_cVv K (c_X9_move (a0.ok hM) 1 (by decide) _ rfl b hb a2 t (by rw [a3]; simp) (by omega) (mPs MI b t).1 (mPs MI b t).2 H12.1 H12.2 k2.2 k2.1 (by rw [a5]; exact q3) (by rw [a5]; exact B1.1.2) (by show 0 < M119 97 0; rw [a4]; exact q1) (by show M119 97 0 ≤ 40; rw [a4]; show g.1 ≤ 40; omega) (by rw [a9]; exact B0.1) (by rw [a9]; have := B0.2.1; show g.2.2.2.1 ≤ 10000; omega) (by show 0 ≤ M119 100 0; rw [a7]; exact B1.2.2.2.1) (by show M119 100 0 ≤ 10000; rw [a7]; have := B1.2.2.2.2.1; show (mv _ _ _ _ _ _ _ _).2.2.1 ≤ 10000; omega)) rfl fc_X9_111 wm_X9_move ws_X9_move (by decide) 9 rfl (by decide) rfl rfl (by decide) (Nat.le_of_ble_eq_true rfl) dX9_game_131 (fun M131 L131 h131 => ?_)
          obtain ⟨hl131, h2, S2, Hh2⟩ := h131
          subst L131
          have G3 := gm_mv1 G2.1 S2 Hh2
          refine v_goto K 91 dX9_game_134 (by decide) ?_
          have eT : gTurn (MI 91) (MI 93) (mPl MI a t) (mPl MI b t) g = gB (MI 91) (MI 93) (mPl MI b t) (gA (MI 91) (MI 93) (mPl MI a t) g) := by unfold gTurn; rw [if_neg (by omega)]
          rw [eT] at hR
          exact ih (t + 1) _ _ (by omega) G3.1 ⟨B2.1, B1.1, B1.2, B2.2⟩ (fun q _ => ⟨(G2.2 q3).keep (by decide) (by decide) (by decide) S2.1, G3.2 q⟩) hR

theorem gmI_hand {MI M : ZM} {a b k : Nat} (h : gmI MI M a b k 0) : gmI MI (z_up M 102 k 0) a b (k + 1) 0 := by
  obtain ⟨h0, h1, h2, h3, -⟩ := h
  refine ⟨h0.up (Or.inl (by omega)), ?_, ?_, fun c hc => ?_, fun s hs => absurd hs (by omega)⟩
  · rw [z_up_k (by decide)]; exact h1
  · rw [z_up_k (by decide)]; exact h2
  · by_cases e : c = k
    · subst e; rw [z_up_s]
    · rw [z_up_j e]; exact h3 c (by omega)
theorem gmI_side {MI M : ZM} {a b k : Nat} {v : Int} (hv : v = MI 90 7) (h : gmI MI M a b 24 k) : gmI MI (z_up (z_up (z_up (z_up (z_up M 97 k v) 98 k 0) 99 k 0) 100 k 0) 101 k 0) a b 24 (k + 1) := by
  obtain ⟨h0, h1, h2, h3, h4⟩ := h
  refine ⟨((((h0.up (Or.inl (by omega))).up (Or.inl (by omega))).up (Or.inl (by omega))).up (Or.inl (by omega))).up (Or.inl (by omega)), ?_, ?_, fun c hc => ?_, fun s hs => ?_⟩
  · simp [z_up, h1]
  · simp [z_up, h2]
  · simp [z_up, h3 c hc]
  · by_cases e : s = k
    · subst e; simp [z_up, hv]
    · have := h4 s (by omega)
      simp [z_up, e, this]
theorem gmI_go {MI M : ZM} {a b : Nat} (h : gmI MI M a b 24 2) : gmS MI (z_up M 90 15 0) a b 0 (g0 (MI 90 7)) ∧ gmH MI (z_up M 90 15 0) 0 a 0 ∧ gmH MI (z_up M 90 15 0) 1 b 0 := by
  obtain ⟨h0, h1, h2, h3, h4⟩ := h
  have a0 := h4 0 (by decide)
  have a1 := h4 1 (by decide)
  refine ⟨⟨h0.up (Or.inr ⟨rfl, rfl⟩), ?_, ?_, ?_, ?_, ?_, ?_, ?_, ?_, ?_, ?_, ?_⟩, ⟨fun c hc => ?_, ?_⟩, ⟨fun c hc => ?_, ?_⟩⟩
  · rw [z_up_k (by decide)]; exact h1
  · rw [z_up_k (by decide)]; exact h2
  · rw [z_up_s]; rfl
  · rw [z_up_k (by decide)]; exact a0.1
  · rw [z_up_k (by decide)]; exact a1.1
  · rw [z_up_k (by decide)]; exact a0.2.2.1
  · rw [z_up_k (by decide)]; exact a0.2.2.2.1
  · rw [z_up_k (by decide)]; exact a0.2.2.2.2
  · rw [z_up_k (by decide)]; exact a1.2.2.1
  · rw [z_up_k (by decide)]; exact a1.2.2.2.1
  · rw [z_up_k (by decide)]; exact a1.2.2.2.2
  · rw [z_up_k (by decide)]; exact h3 _ (by omega)
  · rw [z_up_k (by decide)]; exact a0.2.1
  · rw [z_up_k (by decide)]; exact h3 _ (by omega)
  · rw [z_up_k (by decide)]; exact a1.2.1
set_option maxRecDepth 100000 in
set_option maxHeartbeats 4000000 in
theorem l_X9_game_hand {X : VX} {Q : Nat → Nat} {MI ML : ZM} (K : VK X cX9_game RX9 4 none 2 50 0 0) (a b : Nat) (kk : ∀ (M : ZM) (y : Int), gmI MI M a b 24 0 → V X (0, 0) 110 Q z_rf M ML 35 [(3, .int (iI y)), (0, .ref (Q 90)), (1, .int (iI (a : Int))), (2, .int (iI (b : Int)))] []) : ∀ (n k : Nat) (M : ZM) (y : Int), y = k → gmI MI M a b k 0 → k ≤ 24 → 24 < k + n → V X (0, 0) 110 Q z_rf M ML 16 [(3, .int (iI y)), (0, .ref (Q 90)), (1, .int (iI (a : Int))), (2, .int (iI (b : Int)))] [] := by
  intro n
  induction n with
  | zero => intro k M y hy G hk hn; exact absurd hn (by omega)
  | succ n ih =>
    intro k M y hy G hk hn
    refine v_iload_n K 0 dX9_game_16 rfl rfl ?_
    refine v_bipush K dX9_game_17 (by decide) ?_
    refine v_icmp_ge K 35 ⟨by omega, by omega⟩ ⟨by omega, by omega⟩ dX9_game_19 (by decide) (fun h19 => ?_) (fun h19 => ?_)
    · obtain rfl : k = 24 := by omega
      exact kk M y G
    · refine v_aload_n K 1 dX9_game_22 rfl rfl ?_
      refine v_getr K ff_X9_47 (by decide) rfl rfl rfl dX9_game_23 ?_
      refine v_iload_n K 0 dX9_game_26 rfl rfl ?_
      refine v_iconst K dX9_game_27 ?_
      refine v_iast K (k) (by decide) rfl (by omega) (by show _ < 24; omega) dX9_game_28 ?_
      refine v_iinc K 0 (fun q9 => [(3, .int (iI q9)), (0, .ref (Q 90)), (1, .int (iI (a : Int))), (2, .int (iI (b : Int)))]) dX9_game_29 rfl (by decide) (fun _ => rfl) (fun w hw => ?_)
      refine v_goto K 16 dX9_game_32 (by decide) ?_
      exact ih (k + 1) _ w (by omega) (gmI_hand G) (by omega) (by omega)
set_option maxRecDepth 100000 in
set_option maxHeartbeats 4000000 in
theorem l_X9_game_side {X : VX} {Q : Nat → Nat} {MI ML : ZM} (K : VK X cX9_game RX9 4 none 2 50 0 0) (a b : Nat) (kk : ∀ (M : ZM) (y : Int), gmI MI M a b 24 2 → V X (0, 0) 110 Q z_rf M ML 86 [(3, .int (iI y)), (0, .ref (Q 90)), (1, .int (iI (a : Int))), (2, .int (iI (b : Int)))] []) : ∀ (n k : Nat) (M : ZM) (y : Int), y = k → gmI MI M a b 24 k → k ≤ 2 → 2 < k + n → V X (0, 0) 110 Q z_rf M ML 37 [(3, .int (iI y)), (0, .ref (Q 90)), (1, .int (iI (a : Int))), (2, .int (iI (b : Int)))] [] := by
  intro n
  induction n with
  | zero => intro k M y hy G hk hn; exact absurd hn (by omega)
  | succ n ih =>
    intro k M y hy G hk hn
    refine v_iload_n K 0 dX9_game_37 rfl rfl ?_
    refine v_iconst K dX9_game_38 ?_
    refine v_icmp_ge K 86 ⟨by omega, by omega⟩ ⟨by omega, by omega⟩ dX9_game_39 (by decide) (fun h39 => ?_) (fun h39 => ?_)
    · obtain rfl : k = 2 := by omega
      exact kk M y G
    · refine v_aload_n K 1 dX9_game_42 rfl rfl ?_
      refine v_getr K ff_X9_32 (by decide) rfl rfl rfl dX9_game_43 ?_
      refine v_iload_n K 0 dX9_game_46 rfl rfl ?_
      refine v_aload_n K 1 dX9_game_47 rfl rfl ?_
      refine v_geti K ff_X9_25 (by decide) rfl rfl dX9_game_48 ?_
      refine v_iast K (k) (by decide) rfl (by omega) (by show _ < 2; omega) dX9_game_51 ?_
      refine v_aload_n K 1 dX9_game_52 rfl rfl ?_
      refine v_getr K ff_X9_35 (by decide) rfl rfl rfl dX9_game_53 ?_
      refine v_iload_n K 0 dX9_game_56 rfl rfl ?_
      refine v_iconst K dX9_game_57 ?_
      refine v_iast K (k) (by decide) rfl (by omega) (by show _ < 2; omega) dX9_game_58 ?_
      refine v_aload_n K 1 dX9_game_59 rfl rfl ?_
      refine v_getr K ff_X9_38 (by decide) rfl rfl rfl dX9_game_60 ?_
      refine v_iload_n K 0 dX9_game_63 rfl rfl ?_
      refine v_iconst K dX9_game_64 ?_
      refine v_iast K (k) (by decide) rfl (by omega) (by show _ < 2; omega) dX9_game_65 ?_
      refine v_aload_n K 1 dX9_game_66 rfl rfl ?_
      refine v_getr K ff_X9_41 (by decide) rfl rfl rfl dX9_game_67 ?_
      refine v_iload_n K 0 dX9_game_70 rfl rfl ?_
      refine v_iconst K dX9_game_71 ?_
      refine v_iast K (k) (by decide) rfl (by omega) (by show _ < 2; omega) dX9_game_72 ?_
      refine v_aload_n K 1 dX9_game_73 rfl rfl ?_
      refine v_getr K ff_X9_44 (by decide) rfl rfl rfl dX9_game_74 ?_
      refine v_iload_n K 0 dX9_game_77 rfl rfl ?_
      refine v_iconst K dX9_game_78 ?_
      refine v_iast K (k) (by decide) rfl (by omega) (by show _ < 2; omega) dX9_game_79 ?_
      refine v_iinc K 0 (fun q9 => [(3, .int (iI q9)), (0, .ref (Q 90)), (1, .int (iI (a : Int))), (2, .int (iI (b : Int)))]) dX9_game_80 rfl (by decide) (fun _ => rfl) (fun w hw => ?_)
      refine v_goto K 37 dX9_game_83 (by decide) ?_
      exact ih (k + 1) _ w (by omega) (gmI_side (G.1 90 7 (by omega) (by decide)) G) (by omega) (by omega)
set_option maxRecDepth 100000 in
set_option maxHeartbeats 4000000 in
theorem l_X9_game_go {X : VX} {Q : Nat → Nat} {MI ML : ZM} (K : VK X cX9_game RX9 4 none 2 50 0 0) (hM : mOk MI) (a b : Nat) (ha : a < 5) (hb : b < 5) (E : VE X 0 0 110 Q (zq Q (zV fun M L => L = ML ∧ gmS MI M a b (mGame MI a b).1 (mGame MI a b).2))) (M : ZM) (y : Int) (G : gmI MI M a b 24 2) : V X (0, 0) 110 Q z_rf M ML 86 [(3, .int (iI y)), (0, .ref (Q 90)), (1, .int (iI (a : Int))), (2, .int (iI (b : Int)))] [] := by
  refine v_aload_n K 1 dX9_game_86 rfl rfl ?_
  refine v_iconst K dX9_game_87 ?_
  refine v_puti K fp_X9_97 (by decide) rfl rfl dX9_game_88 ?_
  have q := gmI_go G
  have u7 := hM.2.2.1
  exact l_X9_game K hM a b ha hb (mGame MI a b) E y 12 0 _ (g0 (MI 90 7)) rfl q.1 ⟨⟨by show _ ≤ MI 90 7; omega, u7.2⟩, ⟨by show _ ≤ MI 90 7; omega, u7.2⟩, by unfold gIn g0; simp, by unfold gIn g0; simp⟩ (fun _ _ => q.2) rfl
set_option maxRecDepth 100000 in
set_option maxHeartbeats 4000000 in
theorem l_X9_game_mid {X : VX} {Q : Nat → Nat} {MI ML : ZM} (K : VK X cX9_game RX9 4 none 2 50 0 0) (hM : mOk MI) (a b : Nat) (ha : a < 5) (hb : b < 5) (E : VE X 0 0 110 Q (zq Q (zV fun M L => L = ML ∧ gmS MI M a b (mGame MI a b).1 (mGame MI a b).2))) (M : ZM) (y : Int) (G : gmI MI M a b 24 0) : V X (0, 0) 110 Q z_rf M ML 35 [(3, .int (iI y)), (0, .ref (Q 90)), (1, .int (iI (a : Int))), (2, .int (iI (b : Int)))] [] := by
  refine v_iconst K dX9_game_35 ?_
  refine v_istore_n K (fun q9 => [(3, .int (iI q9)), (0, .ref (Q 90)), (1, .int (iI (a : Int))), (2, .int (iI (b : Int)))]) dX9_game_36 rfl (by decide) (fun _ => rfl) (fun z hz => ?_)
  exact l_X9_game_side K a b (fun M y G => l_X9_game_go K hM a b ha hb E M y G) 3 0 M z hz G (by omega) (by omega)
set_option maxRecDepth 100000 in
set_option maxHeartbeats 4000000 in
theorem c_X9_game {l : Launch} {D : va_G} {Z : ZC} {Q : Nat → Nat} {MI ML : ZM} (hM : mOk MI) (a b : Nat) (ha : a < 5) (hb : b < 5) (a9 b9 : Int) (ha9 : a9 = a) (hb9 : b9 = b) : C_X9_game l D Z Q [.ref (Q 90), .int (iI a9), .int (iI b9)] MI ML (zV fun M L => L = ML ∧ gmS MI M a b (mGame MI a b).1 (mGame MI a b).2) := by
  subst ha9
  subst hb9
  refine CM.of (by decide +kernel) (Nat.le_of_ble_eq_true rfl) ?_
  intro X K E _ _ _ _
  show V X (0, 0) 110 Q z_rf MI ML 0 [(0, .ref (Q 90)), (1, .int (iI (a : Int))), (2, .int (iI (b : Int)))] []
  refine v_aload_n K 0 dX9_game_0 rfl rfl ?_
  refine v_getr K ff_X9_29 (by decide) rfl rfl rfl dX9_game_1 ?_
  refine v_iconst K dX9_game_4 ?_
  refine v_iload_n K 1 dX9_game_5 rfl rfl ?_
  refine v_iast K (0) (by decide) rfl (by omega) (by show _ < 2; omega) dX9_game_6 ?_
  refine v_aload_n K 0 dX9_game_7 rfl rfl ?_
  refine v_getr K ff_X9_29 (by decide) rfl rfl rfl dX9_game_8 ?_
  refine v_iconst K dX9_game_11 ?_
  refine v_iload_n K 2 dX9_game_12 rfl rfl ?_
  refine v_iast K (1) (by decide) rfl (by omega) (by show _ < 2; omega) dX9_game_13 ?_
  refine v_iconst K dX9_game_14 ?_
  refine v_istore_n K (fun q9 => [(3, .int (iI q9)), (0, .ref (Q 90)), (1, .int (iI (a : Int))), (2, .int (iI (b : Int)))]) dX9_game_15 rfl (by decide) (fun _ => rfl) (fun z hz => ?_)
  have G : gmI MI (z_up (z_up MI 96 0 a) 96 1 b) a b 0 0 := ⟨fun k j h1 h2 => by rw [z_up_k (by omega), z_up_k (by omega)], by simp [z_up], by simp [z_up], fun c hc => absurd hc (by omega), fun s hs => absurd hs (by omega)⟩
  exact l_X9_game_hand K a b (fun M y G => l_X9_game_mid K hM a b ha hb E M y G) 25 0 _ z hz G (by omega) (by omega)
theorem gRun_b {so po : Nat → Int} {pa pb : Nat → List Nat} (ha : ∀ t, (∀ c ∈ pa t, 0 ≤ po c ∧ po c ≤ 9) ∧ (pa t).length ≤ 10) (hb : ∀ t, (∀ c ∈ pb t, 0 ≤ po c ∧ po c ≤ 9) ∧ (pb t).length ≤ 10) : ∀ n t g, t + n = 12 → gBd t g → ∃ t2, t2 ≤ 12 ∧ t ≤ (gRun so po pa pb n t g).1 ∧ (gRun so po pa pb n t g).1 ≤ 12 ∧ gBd t2 (gRun so po pa pb n t g).2 := by
  intro n
  induction n with
  | zero => intro t g h1 h2; exact ⟨t, by omega, Nat.le_refl _, by show t ≤ 12; omega, h2⟩
  | succ n ih =>
    intro t g h1 h2
    simp only [gRun]
    split
    · exact ⟨t, by omega, Nat.le_refl _, by show t ≤ 12; omega, h2⟩
    · rename_i hq
      have B1 := mv_b (so := so) (po := po) (l := pa t) (t := t) (wo := g.2.2.2.2.1) (by omega) (ha t).1 (ha t).2 (show 0 < g.2.1 by omega) h2.2.1.2 h2.2.2.1 h2.2.2.2.2.2.1
      have := ih (t + 1) (gTurn so po (pa t) (pb t) g) (by omega) (by
        unfold gTurn
        split
        · exact ⟨h2.1, B1.1, B1.2, h2.2.2.2.up⟩
        · have B2 := mv_b (so := so) (po := po) (l := pb t) (t := t) (wo := (gA so po (pa t) g).2.2.1.2.1) (by omega) (hb t).1 (hb t).2 (show 0 < g.1 by omega) h2.1.2 h2.2.2.2 B1.2.2.2.1
          exact ⟨B2.1, B1.1, B1.2, B2.2⟩)
      obtain ⟨t2, q1, q2, q3, q4⟩ := this
      exact ⟨t2, q1, by omega, q3, q4⟩
theorem mGame_b {MI : ZM} (hM : mOk MI) (a b : Nat) : ∃ t2, t2 ≤ 12 ∧ (mGame MI a b).1 ≤ 12 ∧ gBd t2 (mGame MI a b).2 := by
  have u7 := hM.2.2.1
  obtain ⟨t2, q1, -, q3, q4⟩ := gRun_b (so := MI 91) (po := MI 93) (pa := mPl MI a) (pb := mPl MI b) (fun t => mPl_b hM a t) (fun t => mPl_b hM b t) 12 0 (g0 (MI 90 7)) rfl ⟨⟨by show _ ≤ MI 90 7; omega, u7.2⟩, ⟨by show _ ≤ MI 90 7; omega, u7.2⟩, by unfold gIn g0; simp, by unfold gIn g0; simp⟩
  exact ⟨t2, q1, q3, q4⟩
/-- RESULT and TABLE by the reference's memory -/
abbrev mRes (MI : ZM) (a b : Nat) : Int := gRes (mGame MI a b).2
abbrev mTab (MI : ZM) (a b : Nat) : Int := mRes MI a b - mRes MI b a
theorem gRes_b (g : GS) : -1 ≤ gRes g ∧ gRes g ≤ 1 := by unfold gRes; split <;> (try split) <;> omega
set_option maxRecDepth 100000 in
set_option maxHeartbeats 4000000 in
theorem c_X9_result {l : Launch} {D : va_G} {Z : ZC} {Q : Nat → Nat} {MI ML : ZM} (hM : mOk MI) (a b : Nat) (ha : a < 5) (hb : b < 5) (a9 b9 : Int) (ha9 : a9 = a) (hb9 : b9 = b) : C_X9_result l D Z Q [.ref (Q 90), .int (iI a9), .int (iI b9)] MI ML (zI fun r M L => L = ML ∧ scM MI M ∧ r = mRes MI a b) := by
  refine CM.of (by decide +kernel) (Nat.le_of_ble_eq_true rfl) ?_
  intro X K E _ _ _ _
  show V X (0, 0) 110 Q z_rf MI ML 0 [(0, .ref (Q 90)), (1, .int (iI a9)), (2, .int (iI b9))] []
  refine v_aload_n K 0 dX9_result_0 rfl rfl ?_
  refine v_iload_n K 1 dX9_result_1 rfl rfl ?_
  refine v_iload_n K 2 dX9_result_2 rfl rfl ?_
  refine v_cVv K (c_X9_game hM a b ha hb _ _ ha9 hb9) rfl fc_X9_115 wm_X9_game ws_X9_game (by decide) 9 rfl (by decide) rfl rfl (by decide) (Nat.le_of_ble_eq_true rfl) dX9_result_3 (fun M3 L3 h3 => ?_)
  obtain ⟨hl3, h3⟩ := h3
  subst L3
  obtain ⟨t2, -, -, bb, -⟩ := mGame_b hM a b
  obtain ⟨⟨b1, b2⟩, ⟨b3, b4⟩, -⟩ := (mGame_b hM a b).choose_spec.2.2
  refine v_aload_n K 0 dX9_result_6 rfl rfl ?_
  refine v_getr K ff_X9_32 (by decide) rfl rfl rfl dX9_result_7 ?_
  refine v_iconst K dX9_result_10 ?_
  refine v_iald K (0) (by decide) rfl rfl (by show _ < 2; omega) dX9_result_11 ?_
  refine v_eqi ((mGame MI a b).2.1) (h3.2.2.2.2.1) ?_
  refine v_aload_n K 0 dX9_result_12 rfl rfl ?_
  refine v_getr K ff_X9_32 (by decide) rfl rfl rfl dX9_result_13 ?_
  refine v_iconst K dX9_result_16 ?_
  refine v_iald K (1) (by decide) rfl rfl (by show _ < 2; omega) dX9_result_17 ?_
  refine v_eqi ((mGame MI a b).2.2.1) (h3.2.2.2.2.2.1) ?_
  refine v_icmp_le K 25 ⟨by omega, by omega⟩ ⟨by omega, by omega⟩ dX9_result_18 (by decide) (fun h18 => ?_) (fun h18 => ?_)
  · refine v_aload_n K 0 dX9_result_25 rfl rfl ?_
    refine v_getr K ff_X9_32 (by decide) rfl rfl rfl dX9_result_26 ?_
    refine v_iconst K dX9_result_29 ?_
    refine v_iald K (0) (by decide) rfl rfl (by show _ < 2; omega) dX9_result_30 ?_
    refine v_eqi ((mGame MI a b).2.1) (h3.2.2.2.2.1) ?_
    refine v_aload_n K 0 dX9_result_31 rfl rfl ?_
    refine v_getr K ff_X9_32 (by decide) rfl rfl rfl dX9_result_32 ?_
    refine v_iconst K dX9_result_35 ?_
    refine v_iald K (1) (by decide) rfl rfl (by show _ < 2; omega) dX9_result_36 ?_
    refine v_eqi ((mGame MI a b).2.2.1) (h3.2.2.2.2.2.1) ?_
    refine v_icmp_ge K 44 ⟨by omega, by omega⟩ ⟨by omega, by omega⟩ dX9_result_37 (by decide) (fun h37 => ?_) (fun h37 => ?_)
    · refine v_iconst K dX9_result_44 ?_
      exact v_ri K E dX9_result_45 ⟨rfl, h3.1, by unfold mRes gRes; first | rw [if_pos (by omega)] | rw [if_neg (by omega), if_pos (by omega)] | rw [if_neg (by omega), if_neg (by omega)]⟩
    · refine v_iconst K dX9_result_40 ?_
      refine v_goto K 45 dX9_result_41 (by decide) ?_
      exact v_ri K E dX9_result_45 ⟨rfl, h3.1, by unfold mRes gRes; first | rw [if_pos (by omega)] | rw [if_neg (by omega), if_pos (by omega)] | rw [if_neg (by omega), if_neg (by omega)]⟩
  · refine v_iconst K dX9_result_21 ?_
    refine v_goto K 45 dX9_result_22 (by decide) ?_
    exact v_ri K E dX9_result_45 ⟨rfl, h3.1, by unfold mRes gRes; first | rw [if_pos (by omega)] | rw [if_neg (by omega), if_pos (by omega)] | rw [if_neg (by omega), if_neg (by omega)]⟩
set_option maxRecDepth 100000 in
set_option maxHeartbeats 4000000 in
theorem c_X9_play {l : Launch} {D : va_G} {Z : ZC} {Q : Nat → Nat} {MI ML : ZM} (hM : mOk MI) (a b : Int) (ha : rg a) (hb : rg b) : C_X9_play l D Z Q [.ref (Q 90), .int (iI a), .int (iI b)] MI ML (zI fun r M L => L = ML ∧ scM MI M ∧ ((¬ (0 ≤ a ∧ a < MI 90 4 ∧ 0 ≤ b ∧ b < MI 90 4) ∧ r = -2) ∨ ((0 ≤ a ∧ a < MI 90 4 ∧ 0 ≤ b ∧ b < MI 90 4) ∧ r = mRes MI a.toNat b.toNat))) := by
  refine CM.of (by decide +kernel) (Nat.le_of_ble_eq_true rfl) ?_
  intro X K E _ _ _ _
  show V X (0, 0) 110 Q z_rf MI ML 0 [(0, .ref (Q 90)), (1, .int (iI a)), (2, .int (iI b))] []
  have u4 := hM.2.1
  refine v_aload_n K 0 dX9_play_0 rfl rfl ?_
  refine v_iload_n K 1 dX9_play_1 rfl rfl ?_
  refine v_cVi K (c_X9_isDeck hM _ ha) rfl fc_X9_86 wm_X9_isDeck ws_X9_isDeck (by decide) 9 rfl (by decide) rfl rfl (by decide) (Nat.le_of_ble_eq_true rfl) dX9_play_2 (fun r2 M2 L2 h2 => ?_)
  obtain ⟨hm2, hl2, hr2⟩ := h2
  subst M2 L2
  refine v_if_eq K 25 ⟨by omega, by omega⟩ dX9_play_5 (by decide) (fun h5 => ?_) (fun h5 => ?_)
  · refine v_bipush K dX9_play_25 (by decide) ?_
    exact v_ri K E dX9_play_27 (by first | exact ⟨rfl, h19s, Or.inr ⟨by omega, h19r⟩⟩ | exact ⟨rfl, fun _ _ _ _ => rfl, Or.inl ⟨by omega, rfl⟩⟩)
  · refine v_aload_n K 0 dX9_play_8 rfl rfl ?_
    refine v_iload_n K 2 dX9_play_9 rfl rfl ?_
    refine v_cVi K (c_X9_isDeck hM _ hb) rfl fc_X9_86 wm_X9_isDeck ws_X9_isDeck (by decide) 9 rfl (by decide) rfl rfl (by decide) (Nat.le_of_ble_eq_true rfl) dX9_play_10 (fun r10 M10 L10 h10 => ?_)
    obtain ⟨hm10, hl10, hr10⟩ := h10
    subst M10 L10
    refine v_if_eq K 25 ⟨by omega, by omega⟩ dX9_play_13 (by decide) (fun h13 => ?_) (fun h13 => ?_)
    · refine v_bipush K dX9_play_25 (by decide) ?_
      exact v_ri K E dX9_play_27 (by first | exact ⟨rfl, h19s, Or.inr ⟨by omega, h19r⟩⟩ | exact ⟨rfl, fun _ _ _ _ => rfl, Or.inl ⟨by omega, rfl⟩⟩)
    · refine v_aload_n K 0 dX9_play_16 rfl rfl ?_
      refine v_iload_n K 1 dX9_play_17 rfl rfl ?_
      refine v_iload_n K 2 dX9_play_18 rfl rfl ?_
      refine v_cVi K (c_X9_result hM a.toNat b.toNat (by omega) (by omega) _ _ (by omega) (by omega)) rfl fc_X9_118 wm_X9_result ws_X9_result (by decide) 9 rfl (by decide) rfl rfl (by decide) (Nat.le_of_ble_eq_true rfl) dX9_play_19 (fun r19 M19 L19 h19 => ?_)
      obtain ⟨hl19, h19s, h19r⟩ := h19
      subst L19
      refine v_goto K 27 dX9_play_22 (by decide) ?_
      exact v_ri K E dX9_play_27 (by first | exact ⟨rfl, h19s, Or.inr ⟨by omega, h19r⟩⟩ | exact ⟨rfl, fun _ _ _ _ => rfl, Or.inl ⟨by omega, rfl⟩⟩)
theorem scM.trans {A B C : ZM} (h : scM A B) (h2 : scM B C) : scM A C := fun a b q1 q2 => (h2 a b q1 q2).trans (h a b q1 q2)
theorem scM.game {MI M : ZM} (h : scM MI M) (a b : Nat) : mGame M a b = mGame MI a b := by
  have r91 := h.row (a := 91) (by omega) (by decide)
  have r92 := h.row (a := 92) (by omega) (by decide)
  have r93 := h.row (a := 93) (by omega) (by decide)
  have r94 := h.row (a := 94) (by omega) (by decide)
  have r95 := h.row (a := 95) (by omega) (by decide)
  have r90 := h 90 0 (by omega) (by decide)
  have r97 := h 90 7 (by omega) (by decide)
  unfold mGame mPl
  rw [r91, r92, r93, r94, r95, r90, r97]
theorem scM.res {MI M : ZM} (h : scM MI M) (a b : Nat) : mRes M a b = mRes MI a b := by unfold mRes; rw [h.game]
theorem scM.tab {MI M : ZM} (h : scM MI M) (a b : Nat) : mTab M a b = mTab MI a b := by unfold mTab; rw [h.res, h.res]
set_option maxRecDepth 100000 in
set_option maxHeartbeats 4000000 in
theorem c_X9_tableOf {l : Launch} {D : va_G} {Z : ZC} {Q : Nat → Nat} {MI ML : ZM} (hM : mOk MI) (a b : Nat) (ha : a < 5) (hb : b < 5) (a9 b9 : Int) (ha9 : a9 = a) (hb9 : b9 = b) : C_X9_tableOf l D Z Q [.ref (Q 90), .int (iI a9), .int (iI b9)] MI ML (zI fun r M L => L = ML ∧ scM MI M ∧ r = mTab MI a b) := by
  refine CM.of (by decide +kernel) (Nat.le_of_ble_eq_true rfl) ?_
  intro X K E _ _ _ _
  show V X (0, 0) 110 Q z_rf MI ML 0 [(0, .ref (Q 90)), (1, .int (iI a9)), (2, .int (iI b9))] []
  refine v_aload_n K 0 dX9_tableOf_0 rfl rfl ?_
  refine v_iload_n K 1 dX9_tableOf_1 rfl rfl ?_
  refine v_iload_n K 2 dX9_tableOf_2 rfl rfl ?_
  refine v_cVi K (c_X9_result hM a b ha hb _ _ ha9 hb9) rfl fc_X9_118 wm_X9_result ws_X9_result (by decide) 9 rfl (by decide) rfl rfl (by decide) (Nat.le_of_ble_eq_true rfl) dX9_tableOf_3 (fun r3 M3 L3 h3 => ?_)
  obtain ⟨hl3, h3s, h3r⟩ := h3
  subst L3
  refine v_aload_n K 0 dX9_tableOf_6 rfl rfl ?_
  refine v_iload_n K 2 dX9_tableOf_7 rfl rfl ?_
  refine v_iload_n K 1 dX9_tableOf_8 rfl rfl ?_
  refine v_cVi K (c_X9_result (h3s.ok hM) b a hb ha _ _ hb9 ha9) rfl fc_X9_118 wm_X9_result ws_X9_result (by decide) 9 rfl (by decide) rfl rfl (by decide) (Nat.le_of_ble_eq_true rfl) dX9_tableOf_9 (fun r9 M9 L9 h9 => ?_)
  obtain ⟨hl9, h9s, h9r⟩ := h9
  subst L9
  refine v_isub K dX9_tableOf_12 ?_
  exact v_ri K E dX9_tableOf_13 ⟨rfl, h3s.trans h9s, by rw [h3r, h9r, h3s.res]⟩
set_option maxRecDepth 100000 in
set_option maxHeartbeats 4000000 in
theorem c_X9_table {l : Launch} {D : va_G} {Z : ZC} {Q : Nat → Nat} {MI ML : ZM} (hM : mOk MI) (a b : Int) (ha : rg a) (hb : rg b) : C_X9_table l D Z Q [.ref (Q 90), .int (iI a), .int (iI b)] MI ML (zI fun r M L => L = ML ∧ scM MI M ∧ ((¬ (0 ≤ a ∧ a < MI 90 4 ∧ 0 ≤ b ∧ b < MI 90 4) ∧ r = -2147483648) ∨ ((0 ≤ a ∧ a < MI 90 4 ∧ 0 ≤ b ∧ b < MI 90 4) ∧ r = mTab MI a.toNat b.toNat))) := by
  refine CM.of (by decide +kernel) (Nat.le_of_ble_eq_true rfl) ?_
  intro X K E _ _ _ _
  show V X (0, 0) 110 Q z_rf MI ML 0 [(0, .ref (Q 90)), (1, .int (iI a)), (2, .int (iI b))] []
  have u4 := hM.2.1
  refine v_aload_n K 0 dX9_table_0 rfl rfl ?_
  refine v_iload_n K 1 dX9_table_1 rfl rfl ?_
  refine v_cVi K (c_X9_isDeck hM _ ha) rfl fc_X9_86 wm_X9_isDeck ws_X9_isDeck (by decide) 9 rfl (by decide) rfl rfl (by decide) (Nat.le_of_ble_eq_true rfl) dX9_table_2 (fun r2 M2 L2 h2 => ?_)
  obtain ⟨hm2, hl2, hr2⟩ := h2
  subst M2 L2
  refine v_if_eq K 25 ⟨by omega, by omega⟩ dX9_table_5 (by decide) (fun h5 => ?_) (fun h5 => ?_)
  · refine v_ldc K (-2147483648) ck_X9_121 rfl dX9_table_25 ?_
    exact v_ri K E dX9_table_27 (by first | exact ⟨rfl, h19s, Or.inr ⟨by omega, h19r⟩⟩ | exact ⟨rfl, fun _ _ _ _ => rfl, Or.inl ⟨by omega, rfl⟩⟩)
  · refine v_aload_n K 0 dX9_table_8 rfl rfl ?_
    refine v_iload_n K 2 dX9_table_9 rfl rfl ?_
    refine v_cVi K (c_X9_isDeck hM _ hb) rfl fc_X9_86 wm_X9_isDeck ws_X9_isDeck (by decide) 9 rfl (by decide) rfl rfl (by decide) (Nat.le_of_ble_eq_true rfl) dX9_table_10 (fun r10 M10 L10 h10 => ?_)
    obtain ⟨hm10, hl10, hr10⟩ := h10
    subst M10 L10
    refine v_if_eq K 25 ⟨by omega, by omega⟩ dX9_table_13 (by decide) (fun h13 => ?_) (fun h13 => ?_)
    · refine v_ldc K (-2147483648) ck_X9_121 rfl dX9_table_25 ?_
      exact v_ri K E dX9_table_27 (by first | exact ⟨rfl, h19s, Or.inr ⟨by omega, h19r⟩⟩ | exact ⟨rfl, fun _ _ _ _ => rfl, Or.inl ⟨by omega, rfl⟩⟩)
    · refine v_aload_n K 0 dX9_table_16 rfl rfl ?_
      refine v_iload_n K 1 dX9_table_17 rfl rfl ?_
      refine v_iload_n K 2 dX9_table_18 rfl rfl ?_
      refine v_cVi K (c_X9_tableOf hM a.toNat b.toNat (by omega) (by omega) _ _ (by omega) (by omega)) rfl fc_X9_122 wm_X9_tableOf ws_X9_tableOf (by decide) 9 rfl (by decide) rfl rfl (by decide) (Nat.le_of_ble_eq_true rfl) dX9_table_19 (fun r19 M19 L19 h19 => ?_)
      obtain ⟨hl19, h19s, h19r⟩ := h19
      subst L19
      refine v_goto K 27 dX9_table_22 (by decide) ?_
      exact v_ri K E dX9_table_27 (by first | exact ⟨rfl, h19s, Or.inr ⟨by omega, h19r⟩⟩ | exact ⟨rfl, fun _ _ _ _ => rfl, Or.inl ⟨by omega, rfl⟩⟩)
end
section
set_option maxRecDepth 100000 in
set_option maxHeartbeats 4000000 in
theorem c_X9_told {l : Launch} {D : va_G} {Z : ZC} {Q : Nat → Nat} {MI ML : ZM} (hM : mOk MI) (a b w : Int) (ha : rg a) (hb : rg b) (hw : rg w) : C_X9_told l D Z Q [.ref (Q 90), .int (iI a), .int (iI b), .int (iI w)] MI ML (zI fun r M L => L = ML ∧ scM MI M ∧ (((¬ (0 ≤ a ∧ a < MI 90 4 ∧ 0 ≤ b ∧ b < MI 90 4) ∨ w < 0 ∨ 4 < w) ∧ r = -2147483648) ∨ ((0 ≤ a ∧ a < MI 90 4 ∧ 0 ≤ b ∧ b < MI 90 4) ∧ ((w = 0 ∧ r = (mGame MI a.toNat b.toNat).1) ∨ (w = 1 ∧ r = (mGame MI a.toNat b.toNat).2.1) ∨ (w = 2 ∧ r = (mGame MI a.toNat b.toNat).2.2.1) ∨ (w = 3 ∧ r = (mGame MI a.toNat b.toNat).2.2.2.1.2.2) ∨ (w = 4 ∧ r = (mGame MI a.toNat b.toNat).2.2.2.2.2.2))))) := by
  refine CM.of (by decide +kernel) (Nat.le_of_ble_eq_true rfl) ?_
  intro X K E _ _ _ _
  show V X (0, 0) 110 Q z_rf MI ML 0 [(0, .ref (Q 90)), (1, .int (iI a)), (2, .int (iI b)), (3, .int (iI w))] []
  have u4 := hM.2.1
  refine v_aload_n K 0 dX9_told_0 rfl rfl ?_
  refine v_iload_n K 1 dX9_told_1 rfl rfl ?_
  refine v_cVi K (c_X9_isDeck hM _ ha) rfl fc_X9_86 wm_X9_isDeck ws_X9_isDeck (by decide) 9 rfl (by decide) rfl rfl (by decide) (Nat.le_of_ble_eq_true rfl) dX9_told_2 (fun r2 M2 L2 h2 => ?_)
  obtain ⟨hm2, hl2, hr2⟩ := h2
  subst M2 L2
  refine v_if_eq K 16 ⟨by omega, by omega⟩ dX9_told_5 (by decide) (fun h5 => ?_) (fun h5 => ?_)
  · refine v_ldc K (-2147483648) ck_X9_121 rfl dX9_told_16 ?_
    exact v_ri K E dX9_told_18 ⟨rfl, fun _ _ _ _ => rfl, Or.inl ⟨by omega, rfl⟩⟩
  · refine v_aload_n K 0 dX9_told_8 rfl rfl ?_
    refine v_iload_n K 2 dX9_told_9 rfl rfl ?_
    refine v_cVi K (c_X9_isDeck hM _ hb) rfl fc_X9_86 wm_X9_isDeck ws_X9_isDeck (by decide) 9 rfl (by decide) rfl rfl (by decide) (Nat.le_of_ble_eq_true rfl) dX9_told_10 (fun r10 M10 L10 h10 => ?_)
    obtain ⟨hm10, hl10, hr10⟩ := h10
    subst M10 L10
    refine v_if_ne K 19 ⟨by omega, by omega⟩ dX9_told_13 (by decide) (fun h13 => ?_) (fun h13 => ?_)
    · refine v_aload_n K 0 dX9_told_19 rfl rfl ?_
      refine v_iload_n K 1 dX9_told_20 rfl rfl ?_
      refine v_iload_n K 2 dX9_told_21 rfl rfl ?_
      refine v_cVv K (c_X9_game hM a.toNat b.toNat (by omega) (by omega) _ _ (by omega) (by omega)) rfl fc_X9_115 wm_X9_game ws_X9_game (by decide) 9 rfl (by decide) rfl rfl (by decide) (Nat.le_of_ble_eq_true rfl) dX9_told_22 (fun M22 L22 h22 => ?_)
      obtain ⟨hl22, h22⟩ := h22
      subst L22
      have hok : (0 ≤ a ∧ a < MI 90 4 ∧ 0 ≤ b ∧ b < MI 90 4) := by omega
      refine v_iload_n K 3 dX9_told_25 rfl rfl ?_
      by_cases c26 : w < 0 ∨ 4 < w
      · refine v_tableOut K 93 hw dX9_told_26 c26 (by decide) ?_
        refine v_ldc K (-2147483648) ck_X9_121 rfl dX9_told_93 ?_
        exact v_ri K E dX9_told_95 ⟨rfl, h22.1, Or.inl ⟨Or.inr c26, rfl⟩⟩
      rcases (show w = 0 ∨ w = 1 ∨ w = 2 ∨ w = 3 ∨ w = 4 by omega) with c26 | c26 | c26 | c26 | c26
      · refine v_tableIn K 60 (off := 34) hw dX9_told_26 (by omega) (by rw [c26]; rfl) (by decide) ?_
        refine v_aload_n K 0 dX9_told_60 rfl rfl ?_
        refine v_geti K ff_X9_97 (by decide) rfl rfl dX9_told_61 ?_
        refine v_eqi (((mGame MI a.toNat b.toNat).1 : Int)) (h22.2.2.2.1) ?_
        exact v_ri K E dX9_told_64 ⟨rfl, h22.1, Or.inr ⟨hok, Or.inl ⟨c26, rfl⟩⟩⟩
      · refine v_tableIn K 65 (off := 39) hw dX9_told_26 (by omega) (by rw [c26]; rfl) (by decide) ?_
        refine v_aload_n K 0 dX9_told_65 rfl rfl ?_
        refine v_getr K ff_X9_32 (by decide) rfl rfl rfl dX9_told_66 ?_
        refine v_iconst K dX9_told_69 ?_
        refine v_iald K (0) (by decide) rfl rfl (by show _ < 2; omega) dX9_told_70 ?_
        refine v_eqi ((mGame MI a.toNat b.toNat).2.1) (h22.2.2.2.2.1) ?_
        exact v_ri K E dX9_told_71 ⟨rfl, h22.1, Or.inr ⟨hok, Or.inr (Or.inl ⟨c26, rfl⟩)⟩⟩
      · refine v_tableIn K 72 (off := 46) hw dX9_told_26 (by omega) (by rw [c26]; rfl) (by decide) ?_
        refine v_aload_n K 0 dX9_told_72 rfl rfl ?_
        refine v_getr K ff_X9_32 (by decide) rfl rfl rfl dX9_told_73 ?_
        refine v_iconst K dX9_told_76 ?_
        refine v_iald K (1) (by decide) rfl rfl (by show _ < 2; omega) dX9_told_77 ?_
        refine v_eqi ((mGame MI a.toNat b.toNat).2.2.1) (h22.2.2.2.2.2.1) ?_
        exact v_ri K E dX9_told_78 ⟨rfl, h22.1, Or.inr ⟨hok, Or.inr (Or.inr (Or.inl ⟨c26, rfl⟩))⟩⟩
      · refine v_tableIn K 79 (off := 53) hw dX9_told_26 (by omega) (by rw [c26]; rfl) (by decide) ?_
        refine v_aload_n K 0 dX9_told_79 rfl rfl ?_
        refine v_getr K ff_X9_44 (by decide) rfl rfl rfl dX9_told_80 ?_
        refine v_iconst K dX9_told_83 ?_
        refine v_iald K (0) (by decide) rfl rfl (by show _ < 2; omega) dX9_told_84 ?_
        refine v_eqi ((mGame MI a.toNat b.toNat).2.2.2.1.2.2) (h22.2.2.2.2.2.2.2.2.1) ?_
        exact v_ri K E dX9_told_85 ⟨rfl, h22.1, Or.inr ⟨hok, Or.inr (Or.inr (Or.inr (Or.inl ⟨c26, rfl⟩)))⟩⟩
      · refine v_tableIn K 86 (off := 60) hw dX9_told_26 (by omega) (by rw [c26]; rfl) (by decide) ?_
        refine v_aload_n K 0 dX9_told_86 rfl rfl ?_
        refine v_getr K ff_X9_44 (by decide) rfl rfl rfl dX9_told_87 ?_
        refine v_iconst K dX9_told_90 ?_
        refine v_iald K (1) (by decide) rfl rfl (by show _ < 2; omega) dX9_told_91 ?_
        refine v_eqi ((mGame MI a.toNat b.toNat).2.2.2.2.2.2) (h22.2.2.2.2.2.2.2.2.2.2.2) ?_
        exact v_ri K E dX9_told_92 ⟨rfl, h22.1, Or.inr ⟨hok, Or.inr (Or.inr (Or.inr (Or.inr ⟨c26, rfl⟩)))⟩⟩
    · refine v_ldc K (-2147483648) ck_X9_121 rfl dX9_told_16 ?_
      exact v_ri K E dX9_told_18 ⟨rfl, fun _ _ _ _ => rfl, Or.inl ⟨by omega, rfl⟩⟩
/-- the reference's own data are the same -/
def coM (MI M : ZM) : Prop := (∀ k, 91 ≤ k → k ≤ 95 → M k = MI k) ∧ M 90 0 = MI 90 0 ∧ M 90 4 = MI 90 4 ∧ M 90 7 = MI 90 7
theorem coM.ok {MI M : ZM} (h : coM MI M) (hM : mOk MI) : mOk M := by
  obtain ⟨h1, h2, h3, h4⟩ := h
  unfold mOk at *
  rw [h2, h3, h4, h1 91 (by decide) (by decide), h1 92 (by decide) (by decide), h1 93 (by decide) (by decide), h1 94 (by decide) (by decide), h1 95 (by decide) (by decide)]
  exact hM
theorem coM.game {MI M : ZM} (h : coM MI M) (a b : Nat) : mGame M a b = mGame MI a b := by
  obtain ⟨h1, h2, h3, h4⟩ := h
  unfold mGame mPl
  rw [h2, h4, h1 91 (by decide) (by decide), h1 92 (by decide) (by decide), h1 93 (by decide) (by decide), h1 94 (by decide) (by decide), h1 95 (by decide) (by decide)]
theorem coM.tab {MI M : ZM} (h : coM MI M) (a b : Nat) : mTab M a b = mTab MI a b := by unfold mTab mRes; rw [h.game, h.game]
theorem scM.co {MI M : ZM} (h : scM MI M) : coM MI M := ⟨fun k h1 h2 => h.row (by omega) (by omega), h 90 0 (by omega) (by decide), h 90 4 (by omega) (by decide), h 90 7 (by omega) (by decide)⟩
theorem coM.rf (M : ZM) : coM M M := ⟨fun _ _ _ => rfl, rfl, rfl, rfl⟩
theorem coM.trans {A B C : ZM} (h : coM A B) (h2 : coM B C) : coM A C := ⟨fun k q1 q2 => (h2.1 k q1 q2).trans (h.1 k q1 q2), h2.2.1.trans h.2.1, h2.2.2.1.trans h.2.2.1, h2.2.2.2.trans h.2.2.2⟩
/-- what layTables may change -/
def scT (MI M : ZM) : Prop := ∀ a b, (a < 96 ∨ 103 < a) → ¬ (a = 90 ∧ b = 15) → M a b = MI a b
theorem scT.co {MI M : ZM} (h : scT MI M) : coM MI M := ⟨fun k h1 h2 => funext fun b => h k b (by omega) (by omega), h 90 0 (by omega) (by decide), h 90 4 (by omega) (by decide), h 90 7 (by omega) (by decide)⟩
theorem scT.sc {MI M M' : ZM} (h : scT MI M) (h2 : scM M M') : scT MI M' := fun a b q1 q2 => (h2 a b (by omega) q2).trans (h a b q1 q2)
def tbD (MI M : ZM) (a b : Nat) : Prop := scT MI M ∧ (∀ i j : Nat, i < a → (j : Int) < MI 90 4 → M 103 (5 * i + j) = mTab MI i j) ∧ ∀ j, j < b → M 103 (5 * a + j) = mTab MI a j
theorem tbD_put {MI M M' : ZM} {a b : Nat} {v : Int} (h : tbD MI M a b) (hb : (b : Int) < MI 90 4) (h5 : MI 90 4 ≤ 5) (h2 : scM M M') (hv : v = mTab M a b) : tbD MI (z_up M' 103 (5 * a + b) v) a (b + 1) := by
  obtain ⟨q1, q2, q3⟩ := h
  have e : M' 103 = M 103 := funext fun j => h2 103 j (by omega) (by omega)
  refine ⟨fun i j h3 h4 => ?_, fun i j h3 h4 => ?_, fun j hj => ?_⟩
  · rw [z_up_k (by omega)]; exact (q1.sc h2) i j h3 h4
  · rw [z_up_j (by omega), e]; exact q2 i j h3 h4
  · by_cases e2 : j = b
    · subst e2; rw [z_up_s, hv]; exact q1.co.tab a j
    · rw [z_up_j (by omega), e]; exact q3 j (by omega)
set_option maxRecDepth 100000 in
set_option maxHeartbeats 4000000 in
theorem l_X9_layTables_in {X : VX} {Q : Nat → Nat} {MI ML : ZM} (K : VK X cX9_layTables RX9 3 none 5 117 0 0) (hM : mOk MI) (a : Nat) (ha : (a : Int) < MI 90 4) (kk : ∀ (M : ZM) (y : Int), tbD MI M a (MI 90 4).toNat → V X (0, 0) 110 Q z_rf M ML 42 [(2, .int (iI y)), (1, .int (iI (a : Int))), (0, .ref (Q 90))] []) : ∀ (n b : Nat) (M : ZM) (y : Int), y = b → tbD MI M a b → (b : Int) ≤ MI 90 4 → MI 90 4 < b + n → V X (0, 0) 110 Q z_rf M ML 12 [(2, .int (iI y)), (1, .int (iI (a : Int))), (0, .ref (Q 90))] [] := by
  have u4 := hM.2.1
  intro n
  induction n with
  | zero => intro b M y hy G hb hn; exact absurd hn (by omega)
  | succ n ih =>
    intro b M y hy G hb hn
    refine v_iload_n K 0 dX9_layTables_12 rfl rfl ?_
    refine v_aload_n K 2 dX9_layTables_13 rfl rfl ?_
    refine v_geti K ff_X9_79 (by decide) rfl rfl dX9_layTables_14 ?_
    refine v_eqi (MI 90 4) (G.1 90 4 (by omega) (by decide)) ?_
    refine v_icmp_ge K 42 ⟨by omega, by omega⟩ ⟨by omega, by omega⟩ dX9_layTables_17 (by decide) (fun h17 => ?_) (fun h17 => ?_)
    · obtain rfl : b = (MI 90 4).toNat := by omega
      exact kk M y G
    · refine v_aload_n K 2 dX9_layTables_20 rfl rfl ?_
      refine v_getr K ff_X9_50 (by decide) rfl rfl rfl dX9_layTables_21 ?_
      refine v_iconst K dX9_layTables_24 ?_
      refine v_iload_n K 1 dX9_layTables_25 rfl rfl ?_
      refine v_imul K dX9_layTables_26 ?_
      refine v_iload_n K 0 dX9_layTables_27 rfl rfl ?_
      refine v_iadd K dX9_layTables_28 ?_
      refine v_aload_n K 2 dX9_layTables_29 rfl rfl ?_
      refine v_iload_n K 1 dX9_layTables_30 rfl rfl ?_
      refine v_iload_n K 0 dX9_layTables_31 rfl rfl ?_
      refine v_cVi K (c_X9_tableOf (G.1.co.ok hM) a b (by omega) (by omega) _ _ rfl hy) rfl fc_X9_122 wm_X9_tableOf ws_X9_tableOf (by decide) 9 rfl (by decide) rfl rfl (by decide) (Nat.le_of_ble_eq_true rfl) dX9_layTables_32 (fun r32 M32 L32 h32 => ?_)
      obtain ⟨hl32, h32s, h32r⟩ := h32
      subst L32
      refine v_iast K (5 * a + b) (by decide) rfl (by omega) (by show _ < 25; omega) dX9_layTables_35 ?_
      refine v_iinc K 0 (fun q9 => [(2, .int (iI q9)), (1, .int (iI (a : Int))), (0, .ref (Q 90))]) dX9_layTables_36 rfl (by decide) (fun _ => rfl) (fun w hw => ?_)
      refine v_goto K 12 dX9_layTables_39 (by decide) ?_
      exact ih (b + 1) _ w (by omega) (tbD_put G (by omega) u4.2 h32s h32r) (by omega) (by omega)
set_option maxRecDepth 100000 in
set_option maxHeartbeats 4000000 in
theorem l_X9_layTables {X : VX} {Q : Nat → Nat} {MI ML : ZM} (K : VK X cX9_layTables RX9 3 none 5 117 0 0) (hM : mOk MI) (E : VE X 0 0 110 Q (zq Q (zV fun M L => L = ML ∧ tbD MI M (MI 90 4).toNat 0))) : ∀ (n a : Nat) (M : ZM) (z : Int), z = a → tbD MI M a 0 → (a : Int) ≤ MI 90 4 → MI 90 4 < a + n → V X (0, 0) 110 Q z_rf M ML 2 [(1, .int (iI z)), (0, .ref (Q 90))] [] := by
  have u4 := hM.2.1
  intro n
  induction n with
  | zero => intro a M z hz G ha hn; exact absurd hn (by omega)
  | succ n ih =>
    intro a M z hz G ha hn
    refine v_iload_n K 0 dX9_layTables_2 rfl rfl ?_
    refine v_aload_n K 1 dX9_layTables_3 rfl rfl ?_
    refine v_geti K ff_X9_79 (by decide) rfl rfl dX9_layTables_4 ?_
    refine v_eqi (MI 90 4) (G.1 90 4 (by omega) (by decide)) ?_
    refine v_icmp_ge K 48 ⟨by omega, by omega⟩ ⟨by omega, by omega⟩ dX9_layTables_7 (by decide) (fun h7 => ?_) (fun h7 => ?_)
    · obtain rfl : a = (MI 90 4).toNat := by omega
      exact v_rv K E dX9_layTables_48 ⟨rfl, G⟩
    · refine v_iconst K dX9_layTables_10 ?_
      refine v_istore_n K (fun q9 => [(2, .int (iI q9)), (1, .int (iI z)), (0, .ref (Q 90))]) dX9_layTables_11 rfl (by decide) (fun _ => rfl) (fun y hy => ?_)
      subst hz
      refine l_X9_layTables_in K hM a (by omega) (fun M y G => ?_) 6 0 M y hy G (by omega) (by omega)
      refine v_iinc K 1 (fun q9 => [(1, .int (iI q9)), (2, .int (iI y)), (0, .ref (Q 90))]) dX9_layTables_42 rfl (by decide) (fun _ => rfl) (fun v hv => ?_)
      refine v_goto K 2 dX9_layTables_45 (by decide) ?_
      refine v_sub K [0, 2] rfl ?_
      exact ih (a + 1) _ v (by omega) ⟨G.1, fun i j h1 h2 => by by_cases e : i = a; (subst e; exact G.2.2 j (by omega)); exact G.2.1 i j (by omega) h2, fun j hj => absurd hj (by omega)⟩ (by omega) (by omega)
set_option maxRecDepth 100000 in
set_option maxHeartbeats 4000000 in
theorem c_X9_layTables {l : Launch} {D : va_G} {Z : ZC} {Q : Nat → Nat} {MI ML : ZM} (hM : mOk MI) : C_X9_layTables l D Z Q [.ref (Q 90)] MI ML (zV fun M L => L = ML ∧ tbD MI M (MI 90 4).toNat 0) := by
  refine CM.of (by decide +kernel) (Nat.le_of_ble_eq_true rfl) ?_
  intro X K E _ _ _ _
  show V X (0, 0) 110 Q z_rf MI ML 0 [(0, .ref (Q 90))] []
  refine v_iconst K dX9_layTables_0 ?_
  refine v_istore_n K (fun q9 => [(1, .int (iI q9)), (0, .ref (Q 90))]) dX9_layTables_1 rfl (by decide) (fun _ => rfl) (fun z hz => ?_)
  have u4 := hM.2.1
  exact l_X9_layTables K hM E 6 0 MI z hz ⟨fun _ _ _ _ => rfl, fun i j h => absurd h (by omega), fun j h => absurd h (by omega)⟩ (by omega) (by omega)
set_option maxRecDepth 100000 in
set_option maxHeartbeats 4000000 in
theorem c_X9_beats {l : Launch} {D : va_G} {Z : ZC} {Q : Nat → Nat} {MI ML : ZM} (a b : Nat) (ha : a < 5) (hb : b < 5) (hr : rg (MI 103 (5 * a + b))) (a9 b9 : Int) (ha9 : a9 = a) (hb9 : b9 = b) : C_X9_beats l D Z Q [.ref (Q 90), .int (iI a9), .int (iI b9)] MI ML (zI fun r M L => M = MI ∧ L = ML ∧ ((r = 1 ∧ 0 < MI 103 (5 * a + b)) ∨ (r = 0 ∧ MI 103 (5 * a + b) ≤ 0))) := by
  refine CM.of (by decide +kernel) (Nat.le_of_ble_eq_true rfl) ?_
  intro X K E _ _ _ _
  show V X (0, 0) 110 Q z_rf MI ML 0 [(0, .ref (Q 90)), (1, .int (iI a9)), (2, .int (iI b9))] []
  refine v_aload_n K 0 dX9_beats_0 rfl rfl ?_
  refine v_getr K ff_X9_50 (by decide) rfl rfl rfl dX9_beats_1 ?_
  refine v_iconst K dX9_beats_4 ?_
  refine v_iload_n K 1 dX9_beats_5 rfl rfl ?_
  refine v_imul K dX9_beats_6 ?_
  refine v_iload_n K 2 dX9_beats_7 rfl rfl ?_
  refine v_iadd K dX9_beats_8 ?_
  refine v_iald K (5 * a + b) (by decide) rfl (by omega) (by show _ < 25; omega) dX9_beats_9 ?_
  refine v_if_le K 17 hr dX9_beats_10 (by decide) (fun h10 => ?_) (fun h10 => ?_)
  · refine v_iconst K dX9_beats_17 ?_
    exact v_rz K E (Or.inl rfl) dX9_beats_18 ⟨rfl, rfl, by omega⟩
  · refine v_iconst K dX9_beats_13 ?_
    refine v_goto K 18 dX9_beats_14 (by decide) ?_
    exact v_rz K E (Or.inr rfl) dX9_beats_18 ⟨rfl, rfl, by omega⟩
set_option maxRecDepth 100000 in
set_option maxHeartbeats 4000000 in
theorem l_X9_standingOf {X : VX} {Q : Nat → Nat} {MI ML : ZM} (K : VK X cX9_standingOf RX9 4 (some .int) 5 117 0 0) (hM : mOk MI) (d : Nat) (hd : d < 5) (E : VE X 0 0 110 Q (zq Q (zI fun r M L => L = ML ∧ scM MI M ∧ r = sumK (fun b => mTab MI d b) (MI 90 4).toNat))) : ∀ (n b : Nat) (M : ZM) (y z : Int), y = b → z = sumK (fun b => mTab MI d b) b → scM MI M → (b : Int) ≤ MI 90 4 → MI 90 4 < b + n → V X (0, 0) 110 Q z_rf M ML 4 [(3, .int (iI y)), (2, .int (iI z)), (0, .ref (Q 90)), (1, .int (iI (d : Int)))] [] := by
  have u4 := hM.2.1
  intro n
  induction n with
  | zero => intro b M y z hy hz G hb hn; exact absurd hn (by omega)
  | succ n ih =>
    intro b M y z hy hz G hb hn
    refine v_iload_n K 0 dX9_standingOf_4 rfl rfl ?_
    refine v_aload_n K 2 dX9_standingOf_5 rfl rfl ?_
    refine v_geti K ff_X9_79 (by decide) rfl rfl dX9_standingOf_6 ?_
    refine v_eqi (MI 90 4) (G 90 4 (by omega) (by decide)) ?_
    refine v_icmp_ge K 27 ⟨by omega, by omega⟩ ⟨by omega, by omega⟩ dX9_standingOf_9 (by decide) (fun h9 => ?_) (fun h9 => ?_)
    · obtain rfl : b = (MI 90 4).toNat := by omega
      refine v_iload_n K 1 dX9_standingOf_27 rfl rfl ?_
      exact v_ri K E dX9_standingOf_28 ⟨rfl, G, hz⟩
    · refine v_iload_n K 1 dX9_standingOf_12 rfl rfl ?_
      refine v_aload_n K 2 dX9_standingOf_13 rfl rfl ?_
      refine v_iload_n K 3 dX9_standingOf_14 rfl rfl ?_
      refine v_iload_n K 0 dX9_standingOf_15 rfl rfl ?_
      refine v_cVi K (c_X9_tableOf (G.co.ok hM) d b hd (by omega) _ _ rfl hy) rfl fc_X9_122 wm_X9_tableOf ws_X9_tableOf (by decide) 9 rfl (by decide) rfl rfl (by decide) (Nat.le_of_ble_eq_true rfl) dX9_standingOf_16 (fun r16 M16 L16 h16 => ?_)
      obtain ⟨hl16, h16s, h16r⟩ := h16
      subst L16
      refine v_iadd K dX9_standingOf_19 ?_
      refine v_istore_n K (fun q9 => [(2, .int (iI q9)), (3, .int (iI y)), (0, .ref (Q 90)), (1, .int (iI (d : Int)))]) dX9_standingOf_20 rfl (by decide) (fun _ => rfl) (fun v hv => ?_)
      refine v_iinc K 1 (fun q9 => [(3, .int (iI q9)), (2, .int (iI v)), (0, .ref (Q 90)), (1, .int (iI (d : Int)))]) dX9_standingOf_21 rfl (by decide) (fun _ => rfl) (fun w hw => ?_)
      refine v_goto K 4 dX9_standingOf_24 (by decide) ?_
      exact ih (b + 1) _ w v (by omega) (by rw [hv, hz, h16r, G.co.tab]; rfl) (G.trans h16s) (by omega) (by omega)
set_option maxRecDepth 100000 in
set_option maxHeartbeats 4000000 in
theorem c_X9_standingOf {l : Launch} {D : va_G} {Z : ZC} {Q : Nat → Nat} {MI ML : ZM} (hM : mOk MI) (d : Nat) (hd : d < 5) (d9 : Int) (hd9 : d9 = d) : C_X9_standingOf l D Z Q [.ref (Q 90), .int (iI d9)] MI ML (zI fun r M L => L = ML ∧ scM MI M ∧ r = sumK (fun b => mTab MI d b) (MI 90 4).toNat) := by
  subst hd9
  refine CM.of (by decide +kernel) (Nat.le_of_ble_eq_true rfl) ?_
  intro X K E _ _ _ _
  show V X (0, 0) 110 Q z_rf MI ML 0 [(0, .ref (Q 90)), (1, .int (iI (d : Int)))] []
  refine v_iconst K dX9_standingOf_0 ?_
  refine v_istore_n K (fun q9 => [(2, .int (iI q9)), (0, .ref (Q 90)), (1, .int (iI (d : Int)))]) dX9_standingOf_1 rfl (by decide) (fun _ => rfl) (fun z hz => ?_)
  refine v_iconst K dX9_standingOf_2 ?_
  refine v_istore_n K (fun q9 => [(3, .int (iI q9)), (2, .int (iI z)), (0, .ref (Q 90)), (1, .int (iI (d : Int)))]) dX9_standingOf_3 rfl (by decide) (fun _ => rfl) (fun y hy => ?_)
  have u4 := hM.2.1
  exact l_X9_standingOf K hM d hd E 6 0 MI y z hy hz (fun _ _ _ _ => rfl) (by omega) (by omega)
set_option maxRecDepth 100000 in
set_option maxHeartbeats 4000000 in
theorem c_X9_standing {l : Launch} {D : va_G} {Z : ZC} {Q : Nat → Nat} {MI ML : ZM} (hM : mOk MI) (d : Int) (hd : rg d) : C_X9_standing l D Z Q [.ref (Q 90), .int (iI d)] MI ML (zI fun r M L => L = ML ∧ scM MI M ∧ ((¬ (0 ≤ d ∧ d < MI 90 4) ∧ r = -2147483648) ∨ ((0 ≤ d ∧ d < MI 90 4) ∧ r = sumK (fun b => mTab MI d.toNat b) (MI 90 4).toNat))) := by
  refine CM.of (by decide +kernel) (Nat.le_of_ble_eq_true rfl) ?_
  intro X K E _ _ _ _
  show V X (0, 0) 110 Q z_rf MI ML 0 [(0, .ref (Q 90)), (1, .int (iI d))] []
  have u4 := hM.2.1
  refine v_aload_n K 0 dX9_standing_0 rfl rfl ?_
  refine v_iload_n K 1 dX9_standing_1 rfl rfl ?_
  refine v_cVi K (c_X9_isDeck hM _ hd) rfl fc_X9_86 wm_X9_isDeck ws_X9_isDeck (by decide) 9 rfl (by decide) rfl rfl (by decide) (Nat.le_of_ble_eq_true rfl) dX9_standing_2 (fun r2 M2 L2 h2 => ?_)
  obtain ⟨hm2, hl2, hr2⟩ := h2
  subst M2 L2
  refine v_if_eq K 16 ⟨by omega, by omega⟩ dX9_standing_5 (by decide) (fun h5 => ?_) (fun h5 => ?_)
  · refine v_ldc K (-2147483648) ck_X9_121 rfl dX9_standing_16 ?_
    exact v_ri K E dX9_standing_18 (by first | exact ⟨rfl, h10s, Or.inr ⟨by omega, h10r⟩⟩ | exact ⟨rfl, fun _ _ _ _ => rfl, Or.inl ⟨by omega, rfl⟩⟩)
  · refine v_aload_n K 0 dX9_standing_8 rfl rfl ?_
    refine v_iload_n K 1 dX9_standing_9 rfl rfl ?_
    refine v_cVi K (c_X9_standingOf hM d.toNat (by omega) _ (by omega)) rfl fc_X9_177 wm_X9_standingOf ws_X9_standingOf (by decide) 9 rfl (by decide) rfl rfl (by decide) (Nat.le_of_ble_eq_true rfl) dX9_standing_10 (fun r10 M10 L10 h10 => ?_)
    obtain ⟨hl10, h10s, h10r⟩ := h10
    subst L10
    refine v_goto K 18 dX9_standing_13 (by decide) ?_
    exact v_ri K E dX9_standing_18 (by first | exact ⟨rfl, h10s, Or.inr ⟨by omega, h10r⟩⟩ | exact ⟨rfl, fun _ _ _ _ => rfl, Or.inl ⟨by omega, rfl⟩⟩)
end
section
/-! RINGS -/
def rgc (T : Nat → Nat → Int) (a b : Nat) : Nat → List (Nat × Nat × Nat)
  | 0 => []
  | k + 1 => if a < k ∧ 0 < T a b ∧ 0 < T b k ∧ 0 < T k a then rgc T a b k ++ [(a, b, k)] else rgc T a b k
def rgb (T : Nat → Nat → Int) (nd a : Nat) : Nat → List (Nat × Nat × Nat)
  | 0 => []
  | k + 1 => if a < k then rgb T nd a k ++ rgc T a k nd else rgb T nd a k
def rga (T : Nat → Nat → Int) (nd : Nat) : Nat → List (Nat × Nat × Nat)
  | 0 => []
  | k + 1 => rga T nd k ++ rgb T nd k nd
def rgs (T : Nat → Nat → Int) (nd : Nat) : List (Nat × Nat × Nat) := rga T nd nd
theorem rgc_0 (T : Nat → Nat → Int) (a b : Nat) : ∀ k, k ≤ a + 1 → rgc T a b k = [] := by
  intro k
  induction k with
  | zero => intro _; rfl
  | succ k ih => intro h; simp only [rgc]; rw [if_neg (by omega), ih (by omega)]
theorem rgb_0 (T : Nat → Nat → Int) (nd a : Nat) : ∀ k, k ≤ a + 1 → rgb T nd a k = [] := by
  intro k
  induction k with
  | zero => intro _; rfl
  | succ k ih => intro h; simp only [rgb]; rw [if_neg (by omega), ih (by omega)]
/-- what findRings may change -/
def scR (MI M : ZM) : Prop := ∀ a b, (a < 96 ∨ 103 < a) → ¬ (a = 90 ∧ (b = 15 ∨ b = 17 ∨ b = 18 ∨ b = 19)) → M a b = MI a b
theorem scR.co {MI M : ZM} (h : scR MI M) : coM MI M := ⟨fun k h1 h2 => funext fun b => h k b (by omega) (by omega), h 90 0 (by omega) (by decide), h 90 4 (by omega) (by decide), h 90 7 (by omega) (by decide)⟩
/-- within findRings: l are the rings so far; the one at stop is kept -/
def rgD (MI M : ZM) (stop : Int) (l : List (Nat × Nat × Nat)) : Prop := scR MI M ∧ (∀ i j : Nat, (i : Int) < MI 90 4 → (j : Int) < MI 90 4 → M 103 (5 * i + j) = mTab MI i j) ∧ ∀ q : Nat × Nat × Nat, 0 ≤ stop → l[stop.toNat]? = some q → M 90 17 = q.1 ∧ M 90 18 = q.2.1 ∧ M 90 19 = q.2.2
theorem rgD_hit {MI M : ZM} {stop : Int} {l : List (Nat × Nat × Nat)} {a b c : Nat} {v1 v2 v3 : Int} (h : rgD MI M stop l) (e : (l.length : Int) = stop) (e1 : v1 = a) (e2 : v2 = b) (e3 : v3 = c) : rgD MI (z_up (z_up (z_up M 90 17 v1) 90 18 v2) 90 19 v3) stop (l ++ [(a, b, c)]) := by
  obtain ⟨h1, h2, h3⟩ := h
  refine ⟨fun i j q1 q2 => ?_, fun i j q1 q2 => ?_, fun q q0 hq => ?_⟩
  · simp only [z_up]; rw [if_neg (by omega), if_neg (by omega), if_neg (by omega)]; exact h1 i j q1 q2
  · rw [z_up_k (by omega), z_up_k (by omega), z_up_k (by omega)]; exact h2 i j q1 q2
  · rw [show stop.toNat = l.length by omega, List.getElem?_append_right (Nat.le_refl _)] at hq
    simp at hq
    subst hq
    simp [z_up, e1, e2, e3]
theorem rgD_miss {MI M : ZM} {stop : Int} {l : List (Nat × Nat × Nat)} {a b c : Nat} {v1 v2 v3 : Int} (h : rgD MI M stop l) (e : (l.length : Int) ≠ stop) (e1 : v1 = M 90 17) (e2 : v2 = M 90 18) (e3 : v3 = M 90 19) : rgD MI (z_up (z_up (z_up M 90 17 v1) 90 18 v2) 90 19 v3) stop (l ++ [(a, b, c)]) := by
  obtain ⟨h1, h2, h3⟩ := h
  refine ⟨fun i j q1 q2 => ?_, fun i j q1 q2 => ?_, fun q q0 hq => ?_⟩
  · simp only [z_up]; rw [if_neg (by omega), if_neg (by omega), if_neg (by omega)]; exact h1 i j q1 q2
  · rw [z_up_k (by omega), z_up_k (by omega), z_up_k (by omega)]; exact h2 i j q1 q2
  · have hl : stop.toNat < l.length := by
      have := (List.getElem?_eq_some_iff.mp hq).1
      simp at this; omega
    rw [List.getElem?_append_left hl] at hq
    have := h3 q q0 hq
    simp [z_up, e1, e2, e3, this]
theorem mTab_b (MI : ZM) (a b : Nat) : -2 ≤ mTab MI a b ∧ mTab MI a b ≤ 2 := by
  have h1 := gRes_b (mGame MI a b).2
  have h2 := gRes_b (mGame MI b a).2
  unfold mTab mRes; omega
set_option maxRecDepth 100000 in
set_option maxHeartbeats 4000000 in
theorem l_X9_findRings_c {X : VX} {Q : Nat → Nat} {MI ML : ZM} (K : VK X cX9_findRings RX9 6 (some .int) 6 139 0 0) (hM : mOk MI) (stop : Int) (hs : rg stop) (a b : Nat) (ha : (a : Int) < MI 90 4) (hb : (b : Int) < MI 90 4) (l : List (Nat × Nat × Nat)) (hl : l.length ≤ 1000) (kk : ∀ (M : ZM) (m z : Int), m = (l ++ rgc (mTab MI) a b (MI 90 4).toNat).length → rgD MI M stop (l ++ rgc (mTab MI) a b (MI 90 4).toNat) → V X (0, 0) 110 Q z_rf M ML 137 [(5, .int (iI z)), (4, .int (iI (b : Int))), (3, .int (iI (a : Int))), (2, .int (iI m)), (0, .ref (Q 90)), (1, .int (iI stop))] []) : ∀ (n c : Nat) (M : ZM) (m z : Int), z = c → m = (l ++ rgc (mTab MI) a b c).length → rgD MI M stop (l ++ rgc (mTab MI) a b c) → (rgc (mTab MI) a b c).length ≤ c → a < c → (c : Int) ≤ MI 90 4 → MI 90 4 < c + n → V X (0, 0) 110 Q z_rf M ML 35 [(5, .int (iI z)), (4, .int (iI (b : Int))), (3, .int (iI (a : Int))), (2, .int (iI m)), (0, .ref (Q 90)), (1, .int (iI stop))] [] := by
  have u4 := hM.2.1
  intro n
  induction n with
  | zero => intro c M m z hz hm G hlc hac hc hn; exact absurd hn (by omega)
  | succ n ih =>
    intro c M m z hz hm G hlc hac hc hn
    have hm2 : rg m := by
      rw [hm, List.length_append]
      exact ⟨by omega, by omega⟩
    refine v_iload K 0 dX9_findRings_35 rfl ?_
    refine v_aload_n K 4 dX9_findRings_37 rfl rfl ?_
    refine v_geti K ff_X9_79 (by decide) rfl rfl dX9_findRings_38 ?_
    refine v_eqi (MI 90 4) (G.1 90 4 (by omega) (by decide)) ?_
    refine v_icmp_ge K 137 ⟨by omega, by omega⟩ ⟨by omega, by omega⟩ dX9_findRings_41 (by decide) (fun h41 => ?_) (fun h41 => ?_)
    · obtain rfl : c = (MI 90 4).toNat := by omega
      exact kk M m z hm G
    · refine v_aload_n K 4 dX9_findRings_44 rfl rfl ?_
      refine v_iload_n K 2 dX9_findRings_45 rfl rfl ?_
      refine v_iload K 1 dX9_findRings_46 rfl ?_
      refine v_cVi K (c_X9_beats a b (by omega) (by omega) (by rw [G.2.1 a b (by omega) (by omega)]; have := mTab_b MI a b; exact ⟨by omega, by omega⟩) _ _ (by omega) (by omega)) rfl fc_X9_128 wm_X9_beats ws_X9_beats (by decide) 9 rfl (by decide) rfl rfl (by decide) (Nat.le_of_ble_eq_true rfl) dX9_findRings_48 (fun r48 M48 L48 h48 => ?_)
      obtain ⟨hm48, hl48, hr48⟩ := h48
      subst M48 L48
      rw [G.2.1 a b (by omega) (by omega)] at hr48
      refine v_if_eq K 131 ⟨by omega, by omega⟩ dX9_findRings_51 (by decide) (fun h51 => ?_) (fun h51 => ?_)
      · refine v_iinc K 0 (fun q9 => [(5, .int (iI q9)), (4, .int (iI (b : Int))), (3, .int (iI (a : Int))), (2, .int (iI m)), (0, .ref (Q 90)), (1, .int (iI stop))]) dX9_findRings_131 rfl (by decide) (fun _ => rfl) (fun w hw => ?_)
        refine v_goto K 35 dX9_findRings_134 (by decide) ?_
        have e1 : rgc (mTab MI) a b (c + 1) = rgc (mTab MI) a b c := by simp only [rgc]; rw [if_neg (by omega)]
        exact ih (c + 1) M m w (by omega) (by rw [e1]; exact hm) (by rw [e1]; exact G) (by rw [e1]; omega) (by omega) (by omega) (by omega)
      · refine v_aload_n K 4 dX9_findRings_54 rfl rfl ?_
        refine v_iload K 1 dX9_findRings_55 rfl ?_
        refine v_iload K 0 dX9_findRings_57 rfl ?_
        refine v_cVi K (c_X9_beats b c (by omega) (by omega) (by rw [G.2.1 b c (by omega) (by omega)]; have := mTab_b MI b c; exact ⟨by omega, by omega⟩) _ _ (by omega) (by omega)) rfl fc_X9_128 wm_X9_beats ws_X9_beats (by decide) 9 rfl (by decide) rfl rfl (by decide) (Nat.le_of_ble_eq_true rfl) dX9_findRings_59 (fun r59 M59 L59 h59 => ?_)
        obtain ⟨hm59, hl59, hr59⟩ := h59
        subst M59 L59
        rw [G.2.1 b c (by omega) (by omega)] at hr59
        refine v_if_eq K 131 ⟨by omega, by omega⟩ dX9_findRings_62 (by decide) (fun h62 => ?_) (fun h62 => ?_)
        · refine v_iinc K 0 (fun q9 => [(5, .int (iI q9)), (4, .int (iI (b : Int))), (3, .int (iI (a : Int))), (2, .int (iI m)), (0, .ref (Q 90)), (1, .int (iI stop))]) dX9_findRings_131 rfl (by decide) (fun _ => rfl) (fun w hw => ?_)
          refine v_goto K 35 dX9_findRings_134 (by decide) ?_
          have e1 : rgc (mTab MI) a b (c + 1) = rgc (mTab MI) a b c := by simp only [rgc]; rw [if_neg (by omega)]
          exact ih (c + 1) M m w (by omega) (by rw [e1]; exact hm) (by rw [e1]; exact G) (by rw [e1]; omega) (by omega) (by omega) (by omega)
        · refine v_aload_n K 4 dX9_findRings_65 rfl rfl ?_
          refine v_iload K 0 dX9_findRings_66 rfl ?_
          refine v_iload_n K 2 dX9_findRings_68 rfl rfl ?_
          refine v_cVi K (c_X9_beats c a (by omega) (by omega) (by rw [G.2.1 c a (by omega) (by omega)]; have := mTab_b MI c a; exact ⟨by omega, by omega⟩) _ _ (by omega) (by omega)) rfl fc_X9_128 wm_X9_beats ws_X9_beats (by decide) 9 rfl (by decide) rfl rfl (by decide) (Nat.le_of_ble_eq_true rfl) dX9_findRings_69 (fun r69 M69 L69 h69 => ?_)
          obtain ⟨hm69, hl69, hr69⟩ := h69
          subst M69 L69
          rw [G.2.1 c a (by omega) (by omega)] at hr69
          refine v_if_eq K 131 ⟨by omega, by omega⟩ dX9_findRings_72 (by decide) (fun h72 => ?_) (fun h72 => ?_)
          · refine v_iinc K 0 (fun q9 => [(5, .int (iI q9)), (4, .int (iI (b : Int))), (3, .int (iI (a : Int))), (2, .int (iI m)), (0, .ref (Q 90)), (1, .int (iI stop))]) dX9_findRings_131 rfl (by decide) (fun _ => rfl) (fun w hw => ?_)
            refine v_goto K 35 dX9_findRings_134 (by decide) ?_
            have e1 : rgc (mTab MI) a b (c + 1) = rgc (mTab MI) a b c := by simp only [rgc]; rw [if_neg (by omega)]
            exact ih (c + 1) M m w (by omega) (by rw [e1]; exact hm) (by rw [e1]; exact G) (by rw [e1]; omega) (by omega) (by omega) (by omega)
          · refine v_aload_n K 4 dX9_findRings_75 rfl rfl ?_
            refine v_iload_n K 3 dX9_findRings_76 rfl rfl ?_
            refine v_iload_n K 5 dX9_findRings_77 rfl rfl ?_
            refine v_icmp_ne K 85 hm2 hs dX9_findRings_78 (by decide) (fun h78 => ?_) (fun h78 => ?_)
            · refine v_aload_n K 4 dX9_findRings_85 rfl rfl ?_
              refine v_geti K ff_X9_131 (by decide) rfl rfl dX9_findRings_86 ?_
              refine v_puti K fp_X9_131 (by decide) rfl rfl dX9_findRings_89 ?_
              refine v_aload_n K 4 dX9_findRings_92 rfl rfl ?_
              refine v_iload_n K 3 dX9_findRings_93 rfl rfl ?_
              refine v_iload_n K 5 dX9_findRings_94 rfl rfl ?_
              refine v_icmp_ne K 103 hm2 hs dX9_findRings_95 (by decide) (fun h95 => ?_) (fun h95 => ?_)
              · refine v_aload_n K 4 dX9_findRings_103 rfl rfl ?_
                refine v_geti K ff_X9_134 (by decide) rfl rfl dX9_findRings_104 ?_
                refine v_puti K fp_X9_134 (by decide) rfl rfl dX9_findRings_107 ?_
                refine v_aload_n K 4 dX9_findRings_110 rfl rfl ?_
                refine v_iload_n K 3 dX9_findRings_111 rfl rfl ?_
                refine v_iload_n K 5 dX9_findRings_112 rfl rfl ?_
                refine v_icmp_ne K 121 hm2 hs dX9_findRings_113 (by decide) (fun h113 => ?_) (fun h113 => ?_)
                · refine v_aload_n K 4 dX9_findRings_121 rfl rfl ?_
                  refine v_geti K ff_X9_137 (by decide) rfl rfl dX9_findRings_122 ?_
                  refine v_puti K fp_X9_137 (by decide) rfl rfl dX9_findRings_125 ?_
                  refine v_iinc K 3 (fun q9 => [(2, .int (iI q9)), (5, .int (iI z)), (4, .int (iI (b : Int))), (3, .int (iI (a : Int))), (0, .ref (Q 90)), (1, .int (iI stop))]) dX9_findRings_128 rfl (by decide) (fun _ => rfl) (fun v hv => ?_)
                  refine v_iinc K 1 (fun q9 => [(5, .int (iI q9)), (2, .int (iI v)), (4, .int (iI (b : Int))), (3, .int (iI (a : Int))), (0, .ref (Q 90)), (1, .int (iI stop))]) dX9_findRings_131 rfl (by decide) (fun _ => rfl) (fun w hw => ?_)
                  refine v_goto K 35 dX9_findRings_134 (by decide) ?_
                  refine v_sub K [0, 2, 3, 1, 4, 5] rfl ?_
                  have e1 : l ++ rgc (mTab MI) a b (c + 1) = (l ++ rgc (mTab MI) a b c) ++ [(a, b, c)] := by simp only [rgc]; rw [if_pos (by omega), List.append_assoc]
                  have e2 : (rgc (mTab MI) a b (c + 1)).length ≤ c + 1 := by simp only [rgc]; rw [if_pos (by omega)]; simp; omega
                  exact ih (c + 1) _ v w (by omega) (by rw [e1, List.length_append, hv, hm]; simp) (by rw [e1]; first | exact rgD_hit G (by omega) rfl rfl hz | exact rgD_miss G (by omega) (by simp [z_up]) (by simp [z_up]) (by simp [z_up]) | (exfalso; omega)) e2 (by omega) (by omega) (by omega)
                · refine v_iload K 0 dX9_findRings_116 rfl ?_
                  refine v_goto K 125 dX9_findRings_118 (by decide) ?_
                  refine v_puti K fp_X9_137 (by decide) rfl rfl dX9_findRings_125 ?_
                  refine v_iinc K 3 (fun q9 => [(2, .int (iI q9)), (5, .int (iI z)), (4, .int (iI (b : Int))), (3, .int (iI (a : Int))), (0, .ref (Q 90)), (1, .int (iI stop))]) dX9_findRings_128 rfl (by decide) (fun _ => rfl) (fun v hv => ?_)
                  refine v_iinc K 1 (fun q9 => [(5, .int (iI q9)), (2, .int (iI v)), (4, .int (iI (b : Int))), (3, .int (iI (a : Int))), (0, .ref (Q 90)), (1, .int (iI stop))]) dX9_findRings_131 rfl (by decide) (fun _ => rfl) (fun w hw => ?_)
                  refine v_goto K 35 dX9_findRings_134 (by decide) ?_
                  refine v_sub K [0, 2, 3, 1, 4, 5] rfl ?_
                  have e1 : l ++ rgc (mTab MI) a b (c + 1) = (l ++ rgc (mTab MI) a b c) ++ [(a, b, c)] := by simp only [rgc]; rw [if_pos (by omega), List.append_assoc]
                  have e2 : (rgc (mTab MI) a b (c + 1)).length ≤ c + 1 := by simp only [rgc]; rw [if_pos (by omega)]; simp; omega
                  exact ih (c + 1) _ v w (by omega) (by rw [e1, List.length_append, hv, hm]; simp) (by rw [e1]; first | exact rgD_hit G (by omega) rfl rfl hz | exact rgD_miss G (by omega) (by simp [z_up]) (by simp [z_up]) (by simp [z_up]) | (exfalso; omega)) e2 (by omega) (by omega) (by omega)
              · refine v_iload K 1 dX9_findRings_98 rfl ?_
                refine v_goto K 107 dX9_findRings_100 (by decide) ?_
                refine v_puti K fp_X9_134 (by decide) rfl rfl dX9_findRings_107 ?_
                refine v_aload_n K 4 dX9_findRings_110 rfl rfl ?_
                refine v_iload_n K 3 dX9_findRings_111 rfl rfl ?_
                refine v_iload_n K 5 dX9_findRings_112 rfl rfl ?_
                refine v_icmp_ne K 121 hm2 hs dX9_findRings_113 (by decide) (fun h113 => ?_) (fun h113 => ?_)
                · refine v_aload_n K 4 dX9_findRings_121 rfl rfl ?_
                  refine v_geti K ff_X9_137 (by decide) rfl rfl dX9_findRings_122 ?_
                  refine v_puti K fp_X9_137 (by decide) rfl rfl dX9_findRings_125 ?_
                  refine v_iinc K 3 (fun q9 => [(2, .int (iI q9)), (5, .int (iI z)), (4, .int (iI (b : Int))), (3, .int (iI (a : Int))), (0, .ref (Q 90)), (1, .int (iI stop))]) dX9_findRings_128 rfl (by decide) (fun _ => rfl) (fun v hv => ?_)
                  refine v_iinc K 1 (fun q9 => [(5, .int (iI q9)), (2, .int (iI v)), (4, .int (iI (b : Int))), (3, .int (iI (a : Int))), (0, .ref (Q 90)), (1, .int (iI stop))]) dX9_findRings_131 rfl (by decide) (fun _ => rfl) (fun w hw => ?_)
                  refine v_goto K 35 dX9_findRings_134 (by decide) ?_
                  refine v_sub K [0, 2, 3, 1, 4, 5] rfl ?_
                  have e1 : l ++ rgc (mTab MI) a b (c + 1) = (l ++ rgc (mTab MI) a b c) ++ [(a, b, c)] := by simp only [rgc]; rw [if_pos (by omega), List.append_assoc]
                  have e2 : (rgc (mTab MI) a b (c + 1)).length ≤ c + 1 := by simp only [rgc]; rw [if_pos (by omega)]; simp; omega
                  exact ih (c + 1) _ v w (by omega) (by rw [e1, List.length_append, hv, hm]; simp) (by rw [e1]; first | exact rgD_hit G (by omega) rfl rfl hz | exact rgD_miss G (by omega) (by simp [z_up]) (by simp [z_up]) (by simp [z_up]) | (exfalso; omega)) e2 (by omega) (by omega) (by omega)
                · refine v_iload K 0 dX9_findRings_116 rfl ?_
                  refine v_goto K 125 dX9_findRings_118 (by decide) ?_
                  refine v_puti K fp_X9_137 (by decide) rfl rfl dX9_findRings_125 ?_
                  refine v_iinc K 3 (fun q9 => [(2, .int (iI q9)), (5, .int (iI z)), (4, .int (iI (b : Int))), (3, .int (iI (a : Int))), (0, .ref (Q 90)), (1, .int (iI stop))]) dX9_findRings_128 rfl (by decide) (fun _ => rfl) (fun v hv => ?_)
                  refine v_iinc K 1 (fun q9 => [(5, .int (iI q9)), (2, .int (iI v)), (4, .int (iI (b : Int))), (3, .int (iI (a : Int))), (0, .ref (Q 90)), (1, .int (iI stop))]) dX9_findRings_131 rfl (by decide) (fun _ => rfl) (fun w hw => ?_)
                  refine v_goto K 35 dX9_findRings_134 (by decide) ?_
                  refine v_sub K [0, 2, 3, 1, 4, 5] rfl ?_
                  have e1 : l ++ rgc (mTab MI) a b (c + 1) = (l ++ rgc (mTab MI) a b c) ++ [(a, b, c)] := by simp only [rgc]; rw [if_pos (by omega), List.append_assoc]
                  have e2 : (rgc (mTab MI) a b (c + 1)).length ≤ c + 1 := by simp only [rgc]; rw [if_pos (by omega)]; simp; omega
                  exact ih (c + 1) _ v w (by omega) (by rw [e1, List.length_append, hv, hm]; simp) (by rw [e1]; first | exact rgD_hit G (by omega) rfl rfl hz | exact rgD_miss G (by omega) (by simp [z_up]) (by simp [z_up]) (by simp [z_up]) | (exfalso; omega)) e2 (by omega) (by omega) (by omega)
            · refine v_iload_n K 2 dX9_findRings_81 rfl rfl ?_
              refine v_goto K 89 dX9_findRings_82 (by decide) ?_
              refine v_puti K fp_X9_131 (by decide) rfl rfl dX9_findRings_89 ?_
              refine v_aload_n K 4 dX9_findRings_92 rfl rfl ?_
              refine v_iload_n K 3 dX9_findRings_93 rfl rfl ?_
              refine v_iload_n K 5 dX9_findRings_94 rfl rfl ?_
              refine v_icmp_ne K 103 hm2 hs dX9_findRings_95 (by decide) (fun h95 => ?_) (fun h95 => ?_)
              · refine v_aload_n K 4 dX9_findRings_103 rfl rfl ?_
                refine v_geti K ff_X9_134 (by decide) rfl rfl dX9_findRings_104 ?_
                refine v_puti K fp_X9_134 (by decide) rfl rfl dX9_findRings_107 ?_
                refine v_aload_n K 4 dX9_findRings_110 rfl rfl ?_
                refine v_iload_n K 3 dX9_findRings_111 rfl rfl ?_
                refine v_iload_n K 5 dX9_findRings_112 rfl rfl ?_
                refine v_icmp_ne K 121 hm2 hs dX9_findRings_113 (by decide) (fun h113 => ?_) (fun h113 => ?_)
                · refine v_aload_n K 4 dX9_findRings_121 rfl rfl ?_
                  refine v_geti K ff_X9_137 (by decide) rfl rfl dX9_findRings_122 ?_
                  refine v_puti K fp_X9_137 (by decide) rfl rfl dX9_findRings_125 ?_
                  refine v_iinc K 3 (fun q9 => [(2, .int (iI q9)), (5, .int (iI z)), (4, .int (iI (b : Int))), (3, .int (iI (a : Int))), (0, .ref (Q 90)), (1, .int (iI stop))]) dX9_findRings_128 rfl (by decide) (fun _ => rfl) (fun v hv => ?_)
                  refine v_iinc K 1 (fun q9 => [(5, .int (iI q9)), (2, .int (iI v)), (4, .int (iI (b : Int))), (3, .int (iI (a : Int))), (0, .ref (Q 90)), (1, .int (iI stop))]) dX9_findRings_131 rfl (by decide) (fun _ => rfl) (fun w hw => ?_)
                  refine v_goto K 35 dX9_findRings_134 (by decide) ?_
                  refine v_sub K [0, 2, 3, 1, 4, 5] rfl ?_
                  have e1 : l ++ rgc (mTab MI) a b (c + 1) = (l ++ rgc (mTab MI) a b c) ++ [(a, b, c)] := by simp only [rgc]; rw [if_pos (by omega), List.append_assoc]
                  have e2 : (rgc (mTab MI) a b (c + 1)).length ≤ c + 1 := by simp only [rgc]; rw [if_pos (by omega)]; simp; omega
                  exact ih (c + 1) _ v w (by omega) (by rw [e1, List.length_append, hv, hm]; simp) (by rw [e1]; first | exact rgD_hit G (by omega) rfl rfl hz | exact rgD_miss G (by omega) (by simp [z_up]) (by simp [z_up]) (by simp [z_up]) | (exfalso; omega)) e2 (by omega) (by omega) (by omega)
                · refine v_iload K 0 dX9_findRings_116 rfl ?_
                  refine v_goto K 125 dX9_findRings_118 (by decide) ?_
                  refine v_puti K fp_X9_137 (by decide) rfl rfl dX9_findRings_125 ?_
                  refine v_iinc K 3 (fun q9 => [(2, .int (iI q9)), (5, .int (iI z)), (4, .int (iI (b : Int))), (3, .int (iI (a : Int))), (0, .ref (Q 90)), (1, .int (iI stop))]) dX9_findRings_128 rfl (by decide) (fun _ => rfl) (fun v hv => ?_)
                  refine v_iinc K 1 (fun q9 => [(5, .int (iI q9)), (2, .int (iI v)), (4, .int (iI (b : Int))), (3, .int (iI (a : Int))), (0, .ref (Q 90)), (1, .int (iI stop))]) dX9_findRings_131 rfl (by decide) (fun _ => rfl) (fun w hw => ?_)
                  refine v_goto K 35 dX9_findRings_134 (by decide) ?_
                  refine v_sub K [0, 2, 3, 1, 4, 5] rfl ?_
                  have e1 : l ++ rgc (mTab MI) a b (c + 1) = (l ++ rgc (mTab MI) a b c) ++ [(a, b, c)] := by simp only [rgc]; rw [if_pos (by omega), List.append_assoc]
                  have e2 : (rgc (mTab MI) a b (c + 1)).length ≤ c + 1 := by simp only [rgc]; rw [if_pos (by omega)]; simp; omega
                  exact ih (c + 1) _ v w (by omega) (by rw [e1, List.length_append, hv, hm]; simp) (by rw [e1]; first | exact rgD_hit G (by omega) rfl rfl hz | exact rgD_miss G (by omega) (by simp [z_up]) (by simp [z_up]) (by simp [z_up]) | (exfalso; omega)) e2 (by omega) (by omega) (by omega)
              · refine v_iload K 1 dX9_findRings_98 rfl ?_
                refine v_goto K 107 dX9_findRings_100 (by decide) ?_
                refine v_puti K fp_X9_134 (by decide) rfl rfl dX9_findRings_107 ?_
                refine v_aload_n K 4 dX9_findRings_110 rfl rfl ?_
                refine v_iload_n K 3 dX9_findRings_111 rfl rfl ?_
                refine v_iload_n K 5 dX9_findRings_112 rfl rfl ?_
                refine v_icmp_ne K 121 hm2 hs dX9_findRings_113 (by decide) (fun h113 => ?_) (fun h113 => ?_)
                · refine v_aload_n K 4 dX9_findRings_121 rfl rfl ?_
                  refine v_geti K ff_X9_137 (by decide) rfl rfl dX9_findRings_122 ?_
                  refine v_puti K fp_X9_137 (by decide) rfl rfl dX9_findRings_125 ?_
                  refine v_iinc K 3 (fun q9 => [(2, .int (iI q9)), (5, .int (iI z)), (4, .int (iI (b : Int))), (3, .int (iI (a : Int))), (0, .ref (Q 90)), (1, .int (iI stop))]) dX9_findRings_128 rfl (by decide) (fun _ => rfl) (fun v hv => ?_)
                  refine v_iinc K 1 (fun q9 => [(5, .int (iI q9)), (2, .int (iI v)), (4, .int (iI (b : Int))), (3, .int (iI (a : Int))), (0, .ref (Q 90)), (1, .int (iI stop))]) dX9_findRings_131 rfl (by decide) (fun _ => rfl) (fun w hw => ?_)
                  refine v_goto K 35 dX9_findRings_134 (by decide) ?_
                  refine v_sub K [0, 2, 3, 1, 4, 5] rfl ?_
                  have e1 : l ++ rgc (mTab MI) a b (c + 1) = (l ++ rgc (mTab MI) a b c) ++ [(a, b, c)] := by simp only [rgc]; rw [if_pos (by omega), List.append_assoc]
                  have e2 : (rgc (mTab MI) a b (c + 1)).length ≤ c + 1 := by simp only [rgc]; rw [if_pos (by omega)]; simp; omega
                  exact ih (c + 1) _ v w (by omega) (by rw [e1, List.length_append, hv, hm]; simp) (by rw [e1]; first | exact rgD_hit G (by omega) rfl rfl hz | exact rgD_miss G (by omega) (by simp [z_up]) (by simp [z_up]) (by simp [z_up]) | (exfalso; omega)) e2 (by omega) (by omega) (by omega)
                · refine v_iload K 0 dX9_findRings_116 rfl ?_
                  refine v_goto K 125 dX9_findRings_118 (by decide) ?_
                  refine v_puti K fp_X9_137 (by decide) rfl rfl dX9_findRings_125 ?_
                  refine v_iinc K 3 (fun q9 => [(2, .int (iI q9)), (5, .int (iI z)), (4, .int (iI (b : Int))), (3, .int (iI (a : Int))), (0, .ref (Q 90)), (1, .int (iI stop))]) dX9_findRings_128 rfl (by decide) (fun _ => rfl) (fun v hv => ?_)
                  refine v_iinc K 1 (fun q9 => [(5, .int (iI q9)), (2, .int (iI v)), (4, .int (iI (b : Int))), (3, .int (iI (a : Int))), (0, .ref (Q 90)), (1, .int (iI stop))]) dX9_findRings_131 rfl (by decide) (fun _ => rfl) (fun w hw => ?_)
                  refine v_goto K 35 dX9_findRings_134 (by decide) ?_
                  refine v_sub K [0, 2, 3, 1, 4, 5] rfl ?_
                  have e1 : l ++ rgc (mTab MI) a b (c + 1) = (l ++ rgc (mTab MI) a b c) ++ [(a, b, c)] := by simp only [rgc]; rw [if_pos (by omega), List.append_assoc]
                  have e2 : (rgc (mTab MI) a b (c + 1)).length ≤ c + 1 := by simp only [rgc]; rw [if_pos (by omega)]; simp; omega
                  exact ih (c + 1) _ v w (by omega) (by rw [e1, List.length_append, hv, hm]; simp) (by rw [e1]; first | exact rgD_hit G (by omega) rfl rfl hz | exact rgD_miss G (by omega) (by simp [z_up]) (by simp [z_up]) (by simp [z_up]) | (exfalso; omega)) e2 (by omega) (by omega) (by omega)
theorem rgc_len (T : Nat → Nat → Int) (a b : Nat) : ∀ k, (rgc T a b k).length ≤ k := by
  intro k
  induction k with
  | zero => simp [rgc]
  | succ k ih => simp only [rgc]; split <;> (try simp) <;> omega
theorem rgb_len (T : Nat → Nat → Int) (nd a : Nat) : ∀ k, (rgb T nd a k).length ≤ nd * k := by
  intro k
  induction k with
  | zero => simp [rgb]
  | succ k ih =>
    simp only [rgb, Nat.mul_succ]
    have := rgc_len T a k nd
    split <;> (try simp) <;> omega
theorem rga_len (T : Nat → Nat → Int) (nd : Nat) : ∀ k, (rga T nd k).length ≤ nd * nd * k := by
  intro k
  induction k with
  | zero => simp [rga]
  | succ k ih =>
    simp only [rga, Nat.mul_succ, List.length_append]
    have := rgb_len T nd k nd
    omega
set_option maxRecDepth 100000 in
set_option maxHeartbeats 4000000 in
theorem l_X9_findRings_b {X : VX} {Q : Nat → Nat} {MI ML : ZM} (K : VK X cX9_findRings RX9 6 (some .int) 6 139 0 0) (hM : mOk MI) (stop : Int) (hs : rg stop) (a : Nat) (ha : (a : Int) < MI 90 4) (l : List (Nat × Nat × Nat)) (hl : l.length ≤ 500) (kk : ∀ (M : ZM) (m z : Int), m = (l ++ rgb (mTab MI) (MI 90 4).toNat a (MI 90 4).toNat).length → rgD MI M stop (l ++ rgb (mTab MI) (MI 90 4).toNat a (MI 90 4).toNat) → V X (0, 0) 110 Q z_rf M ML 143 [(4, .int (iI z)), (3, .int (iI (a : Int))), (2, .int (iI m)), (0, .ref (Q 90)), (1, .int (iI stop))] []) : ∀ (n b : Nat) (M : ZM) (m z : Int), z = b → m = (l ++ rgb (mTab MI) (MI 90 4).toNat a b).length → rgD MI M stop (l ++ rgb (mTab MI) (MI 90 4).toNat a b) → (rgb (mTab MI) (MI 90 4).toNat a b).length ≤ 5 * b → a < b → (b : Int) ≤ MI 90 4 → MI 90 4 < b + n → V X (0, 0) 110 Q z_rf M ML 21 [(4, .int (iI z)), (3, .int (iI (a : Int))), (2, .int (iI m)), (0, .ref (Q 90)), (1, .int (iI stop))] [] := by
  have u4 := hM.2.1
  intro n
  induction n with
  | zero => intro b M m z hz hm G hlb hab hb hn; exact absurd hn (by omega)
  | succ n ih =>
    intro b M m z hz hm G hlb hab hb hn
    refine v_iload K 0 dX9_findRings_21 rfl ?_
    refine v_aload_n K 3 dX9_findRings_23 rfl rfl ?_
    refine v_geti K ff_X9_79 (by decide) rfl rfl dX9_findRings_24 ?_
    refine v_eqi (MI 90 4) (G.1 90 4 (by omega) (by decide)) ?_
    refine v_icmp_ge K 143 ⟨by omega, by omega⟩ ⟨by omega, by omega⟩ dX9_findRings_27 (by decide) (fun h27 => ?_) (fun h27 => ?_)
    · obtain rfl : b = (MI 90 4).toNat := by omega
      exact kk M m z hm G
    · refine v_iload_n K 1 dX9_findRings_30 rfl rfl ?_
      refine v_iconst K dX9_findRings_31 ?_
      refine v_iadd K dX9_findRings_32 ?_
      refine v_istore K (fun q9 => [(5, .int (iI q9)), (4, .int (iI z)), (3, .int (iI (a : Int))), (2, .int (iI m)), (0, .ref (Q 90)), (1, .int (iI stop))]) dX9_findRings_33 (by decide) (fun _ => rfl) (fun y hy => ?_)
      obtain rfl := hz
      have e0 := rgc_0 (mTab MI) a b (a + 1) (Nat.le_refl _)
      have e1 : rgb (mTab MI) (MI 90 4).toNat a (b + 1) = rgb (mTab MI) (MI 90 4).toNat a b ++ rgc (mTab MI) a b (MI 90 4).toNat := by simp only [rgb]; rw [if_pos hab]
      have e2 := rgc_len (mTab MI) a b (MI 90 4).toNat
      refine l_X9_findRings_c K hM stop hs a b ha (by omega) (l ++ rgb (mTab MI) (MI 90 4).toNat a b) (by rw [List.length_append]; omega) (fun M m z hm G => ?_) 6 (a + 1) M m y (by omega) (by rw [e0]; simpa using hm) (by rw [e0]; simpa using G) (by rw [e0]; simp) (by omega) (by omega) (by omega)
      refine v_iinc K 1 (fun q9 => [(4, .int (iI q9)), (5, .int (iI z)), (3, .int (iI (a : Int))), (2, .int (iI m)), (0, .ref (Q 90)), (1, .int (iI stop))]) dX9_findRings_137 rfl (by decide) (fun _ => rfl) (fun v hv => ?_)
      refine v_goto K 21 dX9_findRings_140 (by decide) ?_
      rw [List.append_assoc, ← e1] at hm G
      refine v_sub K [0, 2, 3, 4, 5] rfl ?_
      exact ih (b + 1) M m v (by omega) hm G (by rw [e1, List.length_append]; omega) (by omega) (by omega) (by omega)
set_option maxRecDepth 100000 in
set_option maxHeartbeats 4000000 in
theorem l_X9_findRings_a {X : VX} {Q : Nat → Nat} {MI ML : ZM} (K : VK X cX9_findRings RX9 6 (some .int) 6 139 0 0) (hM : mOk MI) (stop : Int) (hs : rg stop) (E : VE X 0 0 110 Q (zq Q (zI fun r M L => L = ML ∧ r = (rgs (mTab MI) (MI 90 4).toNat).length ∧ rgD MI M stop (rgs (mTab MI) (MI 90 4).toNat)))) : ∀ (n a : Nat) (M : ZM) (m z : Int), z = a → m = (rga (mTab MI) (MI 90 4).toNat a).length → rgD MI M stop (rga (mTab MI) (MI 90 4).toNat a) → (rga (mTab MI) (MI 90 4).toNat a).length ≤ 25 * a → (a : Int) ≤ MI 90 4 → MI 90 4 < a + n → V X (0, 0) 110 Q z_rf M ML 8 [(3, .int (iI z)), (2, .int (iI m)), (0, .ref (Q 90)), (1, .int (iI stop))] [] := by
  have u4 := hM.2.1
  intro n
  induction n with
  | zero => intro a M m z hz hm G hla ha hn; exact absurd hn (by omega)
  | succ n ih =>
    intro a M m z hz hm G hla ha hn
    refine v_iload_n K 0 dX9_findRings_8 rfl rfl ?_
    refine v_aload_n K 2 dX9_findRings_9 rfl rfl ?_
    refine v_geti K ff_X9_79 (by decide) rfl rfl dX9_findRings_10 ?_
    refine v_eqi (MI 90 4) (G.1 90 4 (by omega) (by decide)) ?_
    refine v_icmp_ge K 149 ⟨by omega, by omega⟩ ⟨by omega, by omega⟩ dX9_findRings_13 (by decide) (fun h13 => ?_) (fun h13 => ?_)
    · obtain rfl : a = (MI 90 4).toNat := by omega
      refine v_iload_n K 1 dX9_findRings_149 rfl rfl ?_
      exact v_ri K E dX9_findRings_150 ⟨rfl, hm, G⟩
    · refine v_iload_n K 0 dX9_findRings_16 rfl rfl ?_
      refine v_iconst K dX9_findRings_17 ?_
      refine v_iadd K dX9_findRings_18 ?_
      refine v_istore K (fun q9 => [(4, .int (iI q9)), (3, .int (iI z)), (2, .int (iI m)), (0, .ref (Q 90)), (1, .int (iI stop))]) dX9_findRings_19 (by decide) (fun _ => rfl) (fun y hy => ?_)
      obtain rfl := hz
      have e0 := rgb_0 (mTab MI) (MI 90 4).toNat a (a + 1) (Nat.le_refl _)
      have e1 : rga (mTab MI) (MI 90 4).toNat (a + 1) = rga (mTab MI) (MI 90 4).toNat a ++ rgb (mTab MI) (MI 90 4).toNat a (MI 90 4).toNat := rfl
      have e2 : (rgb (mTab MI) (MI 90 4).toNat a (MI 90 4).toNat).length ≤ 25 := by have q := rgb_len (mTab MI) (MI 90 4).toNat a (MI 90 4).toNat; have q2 : (MI 90 4).toNat ≤ 5 := (by omega); have q3 : (MI 90 4).toNat * (MI 90 4).toNat ≤ 5 * 5 := Nat.mul_le_mul q2 q2; omega
      refine l_X9_findRings_b K hM stop hs a (by omega) (rga (mTab MI) (MI 90 4).toNat a) (by omega) (fun M m z hm G => ?_) 6 (a + 1) M m y (by omega) (by rw [e0]; simpa using hm) (by rw [e0]; simpa using G) (by rw [e0]; simp) (by omega) (by omega) (by omega)
      refine v_iinc K 1 (fun q9 => [(3, .int (iI q9)), (4, .int (iI z)), (2, .int (iI m)), (0, .ref (Q 90)), (1, .int (iI stop))]) dX9_findRings_143 rfl (by decide) (fun _ => rfl) (fun v hv => ?_)
      refine v_goto K 8 dX9_findRings_146 (by decide) ?_
      rw [← e1] at hm G
      refine v_sub K [0, 2, 3, 4] rfl ?_
      exact ih (a + 1) M m v (by omega) hm G (by rw [e1, List.length_append]; omega) (by omega) (by omega)
set_option maxRecDepth 100000 in
set_option maxHeartbeats 4000000 in
theorem c_X9_findRings {l : Launch} {D : va_G} {Z : ZC} {Q : Nat → Nat} {MI ML : ZM} (hM : mOk MI) (stop : Int) (hs : rg stop) : C_X9_findRings l D Z Q [.ref (Q 90), .int (iI stop)] MI ML (zI fun r M L => L = ML ∧ r = (rgs (mTab MI) (MI 90 4).toNat).length ∧ rgD MI M stop (rgs (mTab MI) (MI 90 4).toNat)) := by
  refine CM.of (by decide +kernel) (Nat.le_of_ble_eq_true rfl) ?_
  intro X K E _ _ _ _
  show V X (0, 0) 110 Q z_rf MI ML 0 [(0, .ref (Q 90)), (1, .int (iI stop))] []
  refine v_aload_n K 0 dX9_findRings_0 rfl rfl ?_
  refine v_cVv K (c_X9_layTables hM) rfl fc_X9_125 wm_X9_layTables ws_X9_layTables (by decide) 9 rfl (by decide) rfl rfl (by decide) (Nat.le_of_ble_eq_true rfl) dX9_findRings_1 (fun M1 L1 h1 => ?_)
  obtain ⟨hl1, h1⟩ := h1
  subst L1
  have u4 := hM.2.1
  refine v_iconst K dX9_findRings_4 ?_
  refine v_istore_n K (fun q9 => [(2, .int (iI q9)), (0, .ref (Q 90)), (1, .int (iI stop))]) dX9_findRings_5 rfl (by decide) (fun _ => rfl) (fun m hm => ?_)
  refine v_iconst K dX9_findRings_6 ?_
  refine v_istore_n K (fun q9 => [(3, .int (iI q9)), (2, .int (iI m)), (0, .ref (Q 90)), (1, .int (iI stop))]) dX9_findRings_7 rfl (by decide) (fun _ => rfl) (fun z hz => ?_)
  have G : rgD MI M1 stop [] := ⟨fun i j q1 q2 => h1.1 i j q1 (by omega), fun i j q1 q2 => h1.2.1 i j (by omega) q2, fun q _ h => by simp at h⟩
  exact l_X9_findRings_a K hM stop hs E 6 0 M1 m z hz hm G (by simp [rga]) (by omega) (by omega)
set_option maxRecDepth 100000 in
set_option maxHeartbeats 4000000 in
theorem c_X9_rings {l : Launch} {D : va_G} {Z : ZC} {Q : Nat → Nat} {MI ML : ZM} (hM : mOk MI) : C_X9_rings l D Z Q [.ref (Q 90)] MI ML (zI fun r M L => L = ML ∧ scR MI M ∧ r = (rgs (mTab MI) (MI 90 4).toNat).length) := by
  refine CM.of (by decide +kernel) (Nat.le_of_ble_eq_true rfl) ?_
  intro X K E _ _ _ _
  show V X (0, 0) 110 Q z_rf MI ML 0 [(0, .ref (Q 90))] []
  refine v_aload_n K 0 dX9_rings_0 rfl rfl ?_
  refine v_iconst K dX9_rings_1 ?_
  refine v_cVi K (c_X9_findRings hM _ ⟨by omega, by omega⟩) rfl fc_X9_140 wm_X9_findRings ws_X9_findRings (by decide) 9 rfl (by decide) rfl rfl (by decide) (Nat.le_of_ble_eq_true rfl) dX9_rings_2 (fun r2 M2 L2 h2 => ?_)
  obtain ⟨hl2, h2r, h2⟩ := h2
  subst L2
  exact v_ri K E dX9_rings_5 ⟨rfl, h2.1, h2r⟩
set_option maxRecDepth 100000 in
set_option maxHeartbeats 4000000 in
theorem c_X9_ring {l : Launch} {D : va_G} {Z : ZC} {Q : Nat → Nat} {MI ML : ZM} (hM : mOk MI) (k j : Int) (hk : rg k) (hj : rg j) : C_X9_ring l D Z Q [.ref (Q 90), .int (iI k), .int (iI j)] MI ML (zI fun r M L => L = ML ∧ scR MI M ∧ ((¬ (0 ≤ k ∧ k < (rgs (mTab MI) (MI 90 4).toNat).length ∧ 0 ≤ j ∧ j ≤ 2) ∧ r = -2) ∨ ((0 ≤ k ∧ k < (rgs (mTab MI) (MI 90 4).toNat).length ∧ 0 ≤ j ∧ j ≤ 2) ∧ (∃ q, (rgs (mTab MI) (MI 90 4).toNat)[k.toNat]? = some q ∧ ((j = 0 ∧ r = q.1) ∨ (j = 1 ∧ r = q.2.1) ∨ (j = 2 ∧ r = q.2.2)))))) := by
  refine CM.of (by decide +kernel) (Nat.le_of_ble_eq_true rfl) ?_
  intro X K E _ _ _ _
  show V X (0, 0) 110 Q z_rf MI ML 0 [(0, .ref (Q 90)), (1, .int (iI k)), (2, .int (iI j))] []
  refine v_iload_n K 2 dX9_ring_0 rfl rfl ?_
  refine v_iconst K dX9_ring_1 ?_
  refine v_iconst K dX9_ring_2 ?_
  refine v_cSi K (c_X9_in _ _ _ hj rg_0 ⟨by omega, by omega⟩) rfl fc_X9_75 wt_X9_in rfl (by decide) (Nat.le_of_ble_eq_true rfl) dX9_ring_3 (fun r3 M3 L3 h3 => ?_)
  obtain ⟨hm3, hl3, hr3⟩ := h3
  subst M3 L3
  refine v_if_eq K 22 ⟨by omega, by omega⟩ dX9_ring_6 (by decide) (fun h6 => ?_) (fun h6 => ?_)
  · refine v_bipush K dX9_ring_22 (by decide) ?_
    exact v_ri K E dX9_ring_24 (by first | exact ⟨rfl, h15.1, Or.inl ⟨by omega, rfl⟩⟩ | exact ⟨rfl, fun _ _ _ _ => rfl, Or.inl ⟨by omega, rfl⟩⟩)
  · refine v_iload_n K 1 dX9_ring_9 rfl rfl ?_
    refine v_if_lt K 22 hk dX9_ring_10 (by decide) (fun h10 => ?_) (fun h10 => ?_)
    · refine v_bipush K dX9_ring_22 (by decide) ?_
      exact v_ri K E dX9_ring_24 (by first | exact ⟨rfl, h15.1, Or.inl ⟨by omega, rfl⟩⟩ | exact ⟨rfl, fun _ _ _ _ => rfl, Or.inl ⟨by omega, rfl⟩⟩)
    · refine v_aload_n K 0 dX9_ring_13 rfl rfl ?_
      refine v_iload_n K 1 dX9_ring_14 rfl rfl ?_
      refine v_cVi K (c_X9_findRings hM _ hk) rfl fc_X9_140 wm_X9_findRings ws_X9_findRings (by decide) 9 rfl (by decide) rfl rfl (by decide) (Nat.le_of_ble_eq_true rfl) dX9_ring_15 (fun r15 M15 L15 h15 => ?_)
      obtain ⟨hl15, h15r, h15⟩ := h15
      subst L15
      have hlen : (rgs (mTab MI) (MI 90 4).toNat).length ≤ 125 := by
        have u4 := hM.2.1
        have q := rga_len (mTab MI) (MI 90 4).toNat (MI 90 4).toNat
        have q2 : (MI 90 4).toNat ≤ 5 := by omega
        have q3 : (MI 90 4).toNat * (MI 90 4).toNat ≤ 5 * 5 := Nat.mul_le_mul q2 q2
        have q4 : (MI 90 4).toNat * (MI 90 4).toNat * (MI 90 4).toNat ≤ 25 * 5 := Nat.mul_le_mul q3 q2
        exact Nat.le_trans q q4
      refine v_iload_n K 1 dX9_ring_18 rfl rfl ?_
      refine v_icmp_gt K 25 ⟨by omega, by omega⟩ hk dX9_ring_19 (by decide) (fun h19 => ?_) (fun h19 => ?_)
      · obtain ⟨q, hq⟩ : ∃ q, (rgs (mTab MI) (MI 90 4).toNat)[k.toNat]? = some q := ⟨_, List.getElem?_eq_getElem (by omega)⟩
        have w := h15.2.2 q (by omega) hq
        refine v_iload_n K 2 dX9_ring_25 rfl rfl ?_
        refine v_if_ne K 36 hj dX9_ring_26 (by decide) (fun h26 => ?_) (fun h26 => ?_)
        · refine v_iload_n K 2 dX9_ring_36 rfl rfl ?_
          refine v_iconst K dX9_ring_37 ?_
          refine v_icmp_ne K 48 hj ⟨by omega, by omega⟩ dX9_ring_38 (by decide) (fun h38 => ?_) (fun h38 => ?_)
          · refine v_aload_n K 0 dX9_ring_48 rfl rfl ?_
            refine v_geti K ff_X9_137 (by decide) rfl rfl dX9_ring_49 ?_
            exact v_ri K E dX9_ring_52 ⟨rfl, h15.1, Or.inr ⟨by omega, q, hq, by omega⟩⟩
          · refine v_aload_n K 0 dX9_ring_41 rfl rfl ?_
            refine v_geti K ff_X9_134 (by decide) rfl rfl dX9_ring_42 ?_
            refine v_goto K 52 dX9_ring_45 (by decide) ?_
            exact v_ri K E dX9_ring_52 ⟨rfl, h15.1, Or.inr ⟨by omega, q, hq, by omega⟩⟩
        · refine v_aload_n K 0 dX9_ring_29 rfl rfl ?_
          refine v_geti K ff_X9_131 (by decide) rfl rfl dX9_ring_30 ?_
          refine v_goto K 52 dX9_ring_33 (by decide) ?_
          exact v_ri K E dX9_ring_52 ⟨rfl, h15.1, Or.inr ⟨by omega, q, hq, by omega⟩⟩
      · refine v_bipush K dX9_ring_22 (by decide) ?_
        exact v_ri K E dX9_ring_24 (by first | exact ⟨rfl, h15.1, Or.inl ⟨by omega, rfl⟩⟩ | exact ⟨rfl, fun _ _ _ _ => rfl, Or.inl ⟨by omega, rfl⟩⟩)
end
section
/-- the first place below n where f is c; -1: none -/
def fpl (f : Nat → Int) (c : Int) : Nat → Int
  | 0 => -1
  | n + 1 => if fpl f c n = -1 then (if f n = c then (n : Int) else -1) else fpl f c n
theorem fpl_b (f : Nat → Int) (c : Int) : ∀ n, fpl f c n = -1 ∨ (0 ≤ fpl f c n ∧ fpl f c n < n ∧ f (fpl f c n).toNat = c) := by
  intro n
  induction n with
  | zero => exact Or.inl rfl
  | succ n ih =>
    simp only [fpl]
    split
    · split
      · right; refine ⟨by omega, by omega, ?_⟩; simpa
      · exact Or.inl rfl
    · omega
theorem fpl_up {f : Nat → Int} {c : Int} {k : Nat} {v : Int} (h : fpl f c k = v) (hv : v ≠ -1) : ∀ n, k ≤ n → fpl f c n = v := by
  intro n
  induction n with
  | zero => intro hk; obtain rfl : k = 0 := (by omega); exact h
  | succ n ih =>
    intro hk
    by_cases e : k = n + 1
    · subst e; exact h
    · simp only [fpl]; rw [ih (by omega), if_neg hv]
theorem fpl_congr {f g : Nat → Int} {c : Int} : ∀ n, (∀ i, i < n → f i = g i) → fpl f c n = fpl g c n := by
  intro n
  induction n with
  | zero => intro _; rfl
  | succ n ih => intro h; simp only [fpl]; rw [ih (fun i hi => h i (by omega)), h n (by omega)]
set_option maxRecDepth 100000 in
set_option maxHeartbeats 4000000 in
theorem l_X9_placeOf {X : VX} {Q : Nat → Nat} {MI ML : ZM} (K : VK X cX9_placeOf RX9 4 (some .int) 0 0 0 0) (hM : mOk MI) (d : Nat) (hd : d < 5) (c : Int) (hc : rg c) (E : VE X 0 0 110 Q (zq Q (zI fun r M L => M = MI ∧ L = ML ∧ r = fpl (fun k => MI 95 (10 * d + k)) c (MI 94 d).toNat))) : ∀ (n k : Nat) (y : Int), y = k → fpl (fun k => MI 95 (10 * d + k)) c k = -1 → (k : Int) ≤ MI 94 d → MI 94 d < k + n → V X (0, 0) 110 Q z_rf MI ML 2 [(3, .int (iI y)), (0, .ref (Q 90)), (1, .int (iI (d : Int))), (2, .int (iI c))] [] := by
  have us := hM.2.2.2.2.1 d hd
  have uk := hM.2.2.2.2.2
  have u0 := hM.1
  intro n
  induction n with
  | zero => intro k y hy hf hk hn; exact absurd hn (by omega)
  | succ n ih =>
    intro k y hy hf hk hn
    refine v_iload_n K 0 dX9_placeOf_2 rfl rfl ?_
    refine v_aload_n K 1 dX9_placeOf_3 rfl rfl ?_
    refine v_getr K ff_X9_19 (by decide) rfl rfl rfl dX9_placeOf_4 ?_
    refine v_iload_n K 2 dX9_placeOf_7 rfl rfl ?_
    refine v_iald K (d) (by decide) rfl rfl (by show _ < 5; omega) dX9_placeOf_8 ?_
    refine v_icmp_ge K 35 ⟨by omega, by omega⟩ ⟨by omega, by omega⟩ dX9_placeOf_9 (by decide) (fun h9 => ?_) (fun h9 => ?_)
    · obtain rfl : k = (MI 94 d).toNat := by omega
      refine v_iconst K dX9_placeOf_35 ?_
      exact v_ri K E dX9_placeOf_36 ⟨rfl, rfl, hf.symm⟩
    · have q := uk d k hd (by omega)
      refine v_aload_n K 1 dX9_placeOf_12 rfl rfl ?_
      refine v_getr K ff_X9_22 (by decide) rfl rfl rfl dX9_placeOf_13 ?_
      refine v_bipush K dX9_placeOf_16 (by decide) ?_
      refine v_iload_n K 2 dX9_placeOf_18 rfl rfl ?_
      refine v_imul K dX9_placeOf_19 ?_
      refine v_iload_n K 0 dX9_placeOf_20 rfl rfl ?_
      refine v_iadd K dX9_placeOf_21 ?_
      refine v_iald K (10 * d + k) (by decide) rfl (by omega) (by show _ < 50; omega) dX9_placeOf_22 ?_
      refine v_iload_n K 3 dX9_placeOf_23 rfl rfl ?_
      refine v_icmp_ne K 29 ⟨by omega, by omega⟩ hc dX9_placeOf_24 (by decide) (fun h24 => ?_) (fun h24 => ?_)
      · refine v_iinc K 0 (fun q9 => [(3, .int (iI q9)), (0, .ref (Q 90)), (1, .int (iI (d : Int))), (2, .int (iI c))]) dX9_placeOf_29 rfl (by decide) (fun _ => rfl) (fun w hw => ?_)
        refine v_goto K 2 dX9_placeOf_32 (by decide) ?_
        exact ih (k + 1) w (by omega) (by simp only [fpl]; rw [if_pos hf, if_neg h24]) (by omega) (by omega)
      · refine v_iload_n K 0 dX9_placeOf_27 rfl rfl ?_
        exact v_ri K E dX9_placeOf_28 ⟨rfl, rfl, by rw [hy]; exact (fpl_up (k := k + 1) (by simp only [fpl]; rw [if_pos hf, if_pos h24]) (by omega) _ (by omega)).symm⟩
set_option maxRecDepth 100000 in
set_option maxHeartbeats 4000000 in
theorem c_X9_placeOf {l : Launch} {D : va_G} {Z : ZC} {Q : Nat → Nat} {MI ML : ZM} (hM : mOk MI) (d : Nat) (hd : d < 5) (c : Int) (hc : rg c) (d9 : Int) (hd9 : d9 = d) : C_X9_placeOf l D Z Q [.ref (Q 90), .int (iI d9), .int (iI c)] MI ML (zI fun r M L => M = MI ∧ L = ML ∧ r = fpl (fun k => MI 95 (10 * d + k)) c (MI 94 d).toNat) := by
  subst hd9
  refine CM.of (by decide +kernel) (Nat.le_of_ble_eq_true rfl) ?_
  intro X K E _ _ _ _
  show V X (0, 0) 110 Q z_rf MI ML 0 [(0, .ref (Q 90)), (1, .int (iI (d : Int))), (2, .int (iI c))] []
  refine v_iconst K dX9_placeOf_0 ?_
  refine v_istore_n K (fun q9 => [(3, .int (iI q9)), (0, .ref (Q 90)), (1, .int (iI (d : Int))), (2, .int (iI c))]) dX9_placeOf_1 rfl (by decide) (fun _ => rfl) (fun y hy => ?_)
  have us := hM.2.2.2.2.1 d hd
  exact l_X9_placeOf K hM d hd c hc E 11 0 y hy rfl (by omega) (by omega)
/-- the row of deck d with its places from p on moved up, done down to place k -/
def pbK (M : ZM) (d n k : Nat) : ZM := fun a b => if a = 95 ∧ 10 * d + k < b ∧ b ≤ 10 * d + n then M 95 (b - 1) else M a b
def pbM (M : ZM) (d p : Nat) (c : Int) : ZM := z_up (z_up (pbK M d (M 94 d).toNat p) 95 (10 * d + p) c) 94 d (M 94 d + 1)
theorem pbK_n (M : ZM) (d n : Nat) : pbK M d n n = M := by
  funext a b
  simp only [pbK]
  rw [if_neg (by omega)]
theorem pbK_s {M : ZM} {d n k : Nat} (hk : k + 1 ≤ n) : z_up (pbK M d n (k + 1)) 95 (10 * d + (k + 1)) (M 95 (10 * d + k)) = pbK M d n k := by
  funext a b
  simp only [z_up, pbK]
  by_cases h1 : a = 95 ∧ b = 10 * d + (k + 1)
  · obtain ⟨rfl, rfl⟩ := h1
    rw [if_pos ⟨rfl, rfl⟩, if_pos (by omega)]; rfl
  · rw [if_neg h1]
    by_cases h2 : a = 95 ∧ 10 * d + (k + 1) < b ∧ b ≤ 10 * d + n
    · rw [if_pos h2, if_pos (by omega)]
    · rw [if_neg h2, if_neg (by omega)]
set_option maxRecDepth 100000 in
set_option maxHeartbeats 4000000 in
theorem l_X9_putBack {X : VX} {Q : Nat → Nat} {MI ML : ZM} (K : VK X cX9_putBack RX9 5 none 0 0 0 0) (d p : Nat) (hd : d < 5) (hp : (p : Int) ≤ MI 94 d) (h1 : MI 94 d < 10) (c : Int) (E : VE X 0 0 110 Q (zq Q (zV fun M L => L = ML ∧ M = pbM MI d p c))) : ∀ (n k : Nat) (y : Int), y = k → p ≤ k → k ≤ (MI 94 d).toNat → k < p + n → V X (0, 0) 110 Q z_rf (pbK MI d (MI 94 d).toNat k) ML 8 [(4, .int (iI y)), (0, .ref (Q 90)), (1, .int (iI (d : Int))), (2, .int (iI (p : Int))), (3, .int (iI c))] [] := by
  intro n
  induction n with
  | zero => intro k y hy hpk hk hn; exact absurd hn (by omega)
  | succ n ih =>
    intro k y hy hpk hk hn
    refine v_iload K 0 dX9_putBack_8 rfl ?_
    refine v_iload_n K 3 dX9_putBack_10 rfl rfl ?_
    refine v_icmp_le K 46 ⟨by omega, by omega⟩ ⟨by omega, by omega⟩ dX9_putBack_11 (by decide) (fun h11 => ?_) (fun h11 => ?_)
    · obtain rfl : k = p := by omega
      refine v_aload_n K 1 dX9_putBack_46 rfl rfl ?_
      refine v_getr K ff_X9_22 (by decide) rfl rfl rfl dX9_putBack_47 ?_
      refine v_bipush K dX9_putBack_50 (by decide) ?_
      refine v_iload_n K 2 dX9_putBack_52 rfl rfl ?_
      refine v_imul K dX9_putBack_53 ?_
      refine v_iload_n K 3 dX9_putBack_54 rfl rfl ?_
      refine v_iadd K dX9_putBack_55 ?_
      refine v_iload_n K 4 dX9_putBack_56 rfl rfl ?_
      refine v_iast K (10 * d + k) (by decide) rfl (by omega) (by show _ < 50; omega) dX9_putBack_57 ?_
      refine v_aload_n K 1 dX9_putBack_58 rfl rfl ?_
      refine v_getr K ff_X9_19 (by decide) rfl rfl rfl dX9_putBack_59 ?_
      refine v_iload_n K 2 dX9_putBack_62 rfl rfl ?_
      refine v_dup2_11 K dX9_putBack_63 rfl rfl ?_
      refine v_iald K (d) (by decide) rfl rfl (by show _ < 5; omega) dX9_putBack_64 ?_
      refine v_eqi (MI 94 d) (by simp [z_up, pbK]) ?_
      refine v_iconst K dX9_putBack_65 ?_
      refine v_iadd K dX9_putBack_66 ?_
      refine v_iast K (d) (by decide) rfl rfl (by show _ < 5; omega) dX9_putBack_67 ?_
      exact v_rv K E dX9_putBack_68 ⟨rfl, rfl⟩
    · obtain ⟨k, rfl⟩ : ∃ j, k = j + 1 := ⟨k - 1, by omega⟩
      refine v_aload_n K 1 dX9_putBack_14 rfl rfl ?_
      refine v_getr K ff_X9_22 (by decide) rfl rfl rfl dX9_putBack_15 ?_
      refine v_bipush K dX9_putBack_18 (by decide) ?_
      refine v_iload_n K 2 dX9_putBack_20 rfl rfl ?_
      refine v_imul K dX9_putBack_21 ?_
      refine v_iload K 0 dX9_putBack_22 rfl ?_
      refine v_iadd K dX9_putBack_24 ?_
      refine v_aload_n K 1 dX9_putBack_25 rfl rfl ?_
      refine v_getr K ff_X9_22 (by decide) rfl rfl rfl dX9_putBack_26 ?_
      refine v_bipush K dX9_putBack_29 (by decide) ?_
      refine v_iload_n K 2 dX9_putBack_31 rfl rfl ?_
      refine v_imul K dX9_putBack_32 ?_
      refine v_iload K 0 dX9_putBack_33 rfl ?_
      refine v_iadd K dX9_putBack_35 ?_
      refine v_iconst K dX9_putBack_36 ?_
      refine v_isub K dX9_putBack_37 ?_
      refine v_iald K (10 * d + k) (by decide) rfl (by omega) (by show _ < 50; omega) dX9_putBack_38 ?_
      refine v_eqi (MI 95 (10 * d + k)) (by simp only [pbK]; rw [if_neg (by omega)]) ?_
      refine v_iast K (10 * d + (k + 1)) (by decide) rfl (by omega) (by show _ < 50; omega) dX9_putBack_39 ?_
      refine v_iinc K 0 (fun q9 => [(4, .int (iI q9)), (0, .ref (Q 90)), (1, .int (iI (d : Int))), (2, .int (iI (p : Int))), (3, .int (iI c))]) dX9_putBack_40 rfl (by decide) (fun _ => rfl) (fun w hw => ?_)
      refine v_goto K 8 dX9_putBack_43 (by decide) ?_
      refine v_eqM (pbK_s hk) ?_
      exact ih k w (by omega) (by omega) (by omega) (by omega)
set_option maxRecDepth 100000 in
set_option maxHeartbeats 4000000 in
theorem c_X9_putBack {l : Launch} {D : va_G} {Z : ZC} {Q : Nat → Nat} {MI ML : ZM} (d p : Nat) (hd : d < 5) (hp : (p : Int) ≤ MI 94 d) (h0 : 0 ≤ MI 94 d) (h1 : MI 94 d < 10) (c : Int) (d9 p9 : Int) (hd9 : d9 = d) (hp9 : p9 = p) : C_X9_putBack l D Z Q [.ref (Q 90), .int (iI d9), .int (iI p9), .int (iI c)] MI ML (zV fun M L => L = ML ∧ M = pbM MI d p c) := by
  subst hd9
  subst hp9
  refine CM.of (by decide +kernel) (Nat.le_of_ble_eq_true rfl) ?_
  intro X K E _ _ _ _
  show V X (0, 0) 110 Q z_rf MI ML 0 [(0, .ref (Q 90)), (1, .int (iI (d : Int))), (2, .int (iI (p : Int))), (3, .int (iI c))] []
  refine v_aload_n K 0 dX9_putBack_0 rfl rfl ?_
  refine v_getr K ff_X9_19 (by decide) rfl rfl rfl dX9_putBack_1 ?_
  refine v_iload_n K 1 dX9_putBack_4 rfl rfl ?_
  refine v_iald K (d) (by decide) rfl rfl (by show _ < 5; omega) dX9_putBack_5 ?_
  refine v_istore K (fun q9 => [(4, .int (iI q9)), (0, .ref (Q 90)), (1, .int (iI (d : Int))), (2, .int (iI (p : Int))), (3, .int (iI c))]) dX9_putBack_6 (by decide) (fun _ => rfl) (fun y hy => ?_)
  have q := l_X9_putBack K d p hd hp h1 c E 11 (MI 94 d).toNat y (by omega) (by omega) (Nat.le_refl _) (by omega)
  rw [pbK_n] at q
  exact q
theorem dropK_ok {MI : ZM} (hM : mOk MI) {d p : Nat} (hd : d < 5) (hp : (p : Int) < MI 94 d) : mOk (dropK MI d p ((MI 94 d).toNat - 1)) := by
  obtain ⟨h1, h2, h3, h4, h5, h6⟩ := hM
  refine ⟨by simpa [dropK] using h1, by simpa [dropK] using h2, by simpa [dropK] using h3, fun i hi => by simpa [dropK] using h4 i hi, fun e he => ?_, fun e k he hk => ?_⟩
  · have a1 := h5 e he
    simp only [dropK]
    by_cases q : e = d
    · subst q; rw [if_pos (by simp)]; omega
    · rw [if_neg (by omega), if_neg (by omega)]; exact a1
  · have a1 := h5 e he
    have a2 := h5 d hd
    have e90 : dropK MI d p ((MI 94 d).toNat - 1) 90 0 = MI 90 0 := by simp [dropK]
    rw [e90]
    by_cases q : e = d
    · subst q
      have e94 : dropK MI e p ((MI 94 e).toNat - 1) 94 e = MI 94 e - 1 := by simp [dropK]
      rw [e94] at hk
      simp only [dropK]
      rw [if_neg (by omega)]
      split
      · exact h6 e (k + 1) he (by omega)
      · exact h6 e k he (by omega)
    · have e94 : dropK MI d p ((MI 94 d).toNat - 1) 94 e = MI 94 e := by simp only [dropK]; rw [if_neg (by omega), if_neg (by omega)]
      rw [e94] at hk
      simp only [dropK]
      rw [if_neg (by omega), if_neg (by omega)]
      exact h6 e k he hk
/-- a place goes and comes back: all is as it was -/
theorem drop_back {MI M : ZM} {d p : Nat} {c : Int} (S : Nat → Nat → Prop) (hS : ∀ b, ¬ S 94 b ∧ ¬ S 95 b) (hp : (p : Int) < MI 94 d) (hc : MI 95 (10 * d + p) = c) (h : ∀ a b, ¬ S a b → M a b = dropK MI d p ((MI 94 d).toNat - 1) a b) : ∀ a b, ¬ S a b → pbM M d p c a b = MI a b := by
  intro a b hab
  have e94 : M 94 d = MI 94 d - 1 := by rw [h 94 d (hS d).1]; simp [dropK]
  have e95 : ∀ j, M 95 j = dropK MI d p ((MI 94 d).toNat - 1) 95 j := fun j => h 95 j (hS j).2
  simp only [pbM, z_up]
  by_cases q1 : a = 94 ∧ b = d
  · obtain ⟨rfl, rfl⟩ := q1
    rw [if_pos ⟨rfl, rfl⟩, e94]; omega
  · rw [if_neg q1]
    by_cases q2 : a = 95 ∧ b = 10 * d + p
    · obtain ⟨rfl, rfl⟩ := q2
      rw [if_pos ⟨rfl, rfl⟩, hc]
    · rw [if_neg q2]
      simp only [pbK]
      rw [e94]
      by_cases q3 : a = 95 ∧ 10 * d + p < b ∧ b ≤ 10 * d + (MI 94 d - 1).toNat
      · obtain ⟨rfl, q4, q5⟩ := q3
        rw [if_pos (by omega), e95]
        show (if (95 : Nat) = 94 ∧ b - 1 = d then _ else if (95 : Nat) = 95 ∧ 10 * d + p ≤ b - 1 ∧ b - 1 < 10 * d + ((MI 94 d).toNat - 1) then MI 95 (b - 1 + 1) else MI 95 (b - 1)) = MI 95 b
        rw [if_neg (by omega), if_pos (by omega), show b - 1 + 1 = b by omega]
      · rw [if_neg q3, h a b hab]
        simp only [dropK]
        rw [if_neg q1, if_neg (by omega)]
def drD (MI : ZM) (d p : Nat) : ZM := dropK MI d p ((MI 94 d).toNat - 1)
/-- STANDING by a memory -/
def mSt (MI : ZM) (d : Nat) : Int := sumK (fun b => mTab MI d b) (MI 90 4).toNat
theorem drD_nd (MI : ZM) (d p : Nat) : drD MI d p 90 4 = MI 90 4 := by simp [drD, dropK]
set_option maxRecDepth 100000 in
set_option maxHeartbeats 4000000 in
theorem c_X9_worth {l : Launch} {D : va_G} {Z : ZC} {Q : Nat → Nat} {MI ML : ZM} (hM : mOk MI) (d c : Int) (hd : rg d) (hc : rg c) : C_X9_worth l D Z Q [.ref (Q 90), .int (iI d), .int (iI c)] MI ML (zI fun r M L => L = ML ∧ scM MI M ∧ ((¬ ((0 ≤ d ∧ d < MI 90 4 ∧ 0 ≤ c ∧ c < MI 90 0) ∧ fpl (fun k => MI 95 (10 * d.toNat + k)) c (MI 94 d.toNat).toNat ≠ -1) ∧ r = -2147483648) ∨ (((0 ≤ d ∧ d < MI 90 4 ∧ 0 ≤ c ∧ c < MI 90 0) ∧ fpl (fun k => MI 95 (10 * d.toNat + k)) c (MI 94 d.toNat).toNat ≠ -1) ∧ r = mSt MI d.toNat - mSt (drD MI d.toNat (fpl (fun k => MI 95 (10 * d.toNat + k)) c (MI 94 d.toNat).toNat).toNat) d.toNat))) := by
  refine CM.of (by decide +kernel) (Nat.le_of_ble_eq_true rfl) ?_
  intro X K E _ _ _ _
  show V X (0, 0) 110 Q z_rf MI ML 0 [(0, .ref (Q 90)), (1, .int (iI d)), (2, .int (iI c))] []
  have u4 := hM.2.1
  have b0 := fpl_b (fun k => MI 95 (10 * d.toNat + k)) c (MI 94 d.toNat).toNat
  refine v_aload_n K 0 dX9_worth_0 rfl rfl ?_
  refine v_iload_n K 1 dX9_worth_1 rfl rfl ?_
  refine v_cVi K (c_X9_isDeck hM _ hd) rfl fc_X9_86 wm_X9_isDeck ws_X9_isDeck (by decide) 9 rfl (by decide) rfl rfl (by decide) (Nat.le_of_ble_eq_true rfl) dX9_worth_2 (fun r2 M2 L2 h2 => ?_)
  obtain ⟨hm2, hl2, hr2⟩ := h2
  subst M2 L2
  refine v_if_eq K 25 ⟨by omega, by omega⟩ dX9_worth_5 (by decide) (fun h5 => ?_) (fun h5 => ?_)
  · refine v_iconst K dX9_worth_25 ?_
    refine v_istore_n K (fun q9 => [(3, .int (iI q9)), (0, .ref (Q 90)), (1, .int (iI d)), (2, .int (iI c))]) dX9_worth_26 rfl (by decide) (fun _ => rfl) (fun y hy => ?_)
    refine v_iload_n K 0 dX9_worth_27 rfl rfl ?_
    refine v_iconst K dX9_worth_28 ?_
    refine v_icmp_ne K 35 ⟨by omega, by omega⟩ ⟨by omega, by omega⟩ dX9_worth_29 (by decide) (fun h29 => ?_) (fun h29 => ?_)
    · exact absurd h29 (by omega)
    · refine v_ldc K (-2147483648) ck_X9_121 rfl dX9_worth_32 ?_
      exact v_ri K E dX9_worth_34 (by first | exact ⟨rfl, fun _ _ _ _ => rfl, Or.inl ⟨by omega, rfl⟩⟩ | exact ⟨rfl, fun _ _ _ _ => rfl, Or.inl ⟨fun q => q.2 (by omega), rfl⟩⟩)
  · refine v_aload_n K 0 dX9_worth_8 rfl rfl ?_
    refine v_iload_n K 2 dX9_worth_9 rfl rfl ?_
    refine v_cVi K (c_X9_isCard hM _ hc) rfl fc_X9_82 wm_X9_isCard ws_X9_isCard (by decide) 9 rfl (by decide) rfl rfl (by decide) (Nat.le_of_ble_eq_true rfl) dX9_worth_10 (fun r10 M10 L10 h10 => ?_)
    obtain ⟨hm10, hl10, hr10⟩ := h10
    subst M10 L10
    refine v_if_eq K 25 ⟨by omega, by omega⟩ dX9_worth_13 (by decide) (fun h13 => ?_) (fun h13 => ?_)
    · refine v_iconst K dX9_worth_25 ?_
      refine v_istore_n K (fun q9 => [(3, .int (iI q9)), (0, .ref (Q 90)), (1, .int (iI d)), (2, .int (iI c))]) dX9_worth_26 rfl (by decide) (fun _ => rfl) (fun y hy => ?_)
      refine v_iload_n K 0 dX9_worth_27 rfl rfl ?_
      refine v_iconst K dX9_worth_28 ?_
      refine v_icmp_ne K 35 ⟨by omega, by omega⟩ ⟨by omega, by omega⟩ dX9_worth_29 (by decide) (fun h29 => ?_) (fun h29 => ?_)
      · exact absurd h29 (by omega)
      · refine v_ldc K (-2147483648) ck_X9_121 rfl dX9_worth_32 ?_
        exact v_ri K E dX9_worth_34 (by first | exact ⟨rfl, fun _ _ _ _ => rfl, Or.inl ⟨by omega, rfl⟩⟩ | exact ⟨rfl, fun _ _ _ _ => rfl, Or.inl ⟨fun q => q.2 (by omega), rfl⟩⟩)
    · refine v_aload_n K 0 dX9_worth_16 rfl rfl ?_
      refine v_iload_n K 1 dX9_worth_17 rfl rfl ?_
      refine v_iload_n K 2 dX9_worth_18 rfl rfl ?_
      refine v_cVi K (c_X9_placeOf hM d.toNat (by omega) c hc _ (by omega)) rfl fc_X9_180 wm_X9_placeOf ws_X9_placeOf (by decide) 9 rfl (by decide) rfl rfl (by decide) (Nat.le_of_ble_eq_true rfl) dX9_worth_19 (fun r19 M19 L19 h19 => ?_)
      obtain ⟨hm19, hl19, hr19⟩ := h19
      subst M19 L19
      have us := hM.2.2.2.2.1 d.toNat (by omega)
      refine v_goto K 26 dX9_worth_22 (by decide) ?_
      refine v_istore_n K (fun q9 => [(3, .int (iI q9)), (0, .ref (Q 90)), (1, .int (iI d)), (2, .int (iI c))]) dX9_worth_26 rfl (by decide) (fun _ => rfl) (fun y hy => ?_)
      refine v_iload_n K 0 dX9_worth_27 rfl rfl ?_
      refine v_iconst K dX9_worth_28 ?_
      refine v_icmp_ne K 35 ⟨by omega, by omega⟩ ⟨by omega, by omega⟩ dX9_worth_29 (by decide) (fun h29 => ?_) (fun h29 => ?_)
      · refine v_aload_n K 1 dX9_worth_35 rfl rfl ?_
        refine v_iload_n K 2 dX9_worth_36 rfl rfl ?_
        have hq := dropK_ok hM (d := d.toNat) (p := y.toNat) (by omega) (by omega)
        refine v_cVi K (c_X9_standingOf hM d.toNat (by omega) _ (by omega)) rfl fc_X9_177 wm_X9_standingOf ws_X9_standingOf (by decide) 9 rfl (by decide) rfl rfl (by decide) (Nat.le_of_ble_eq_true rfl) dX9_worth_37 (fun r37 M37 L37 h37 => ?_)
        obtain ⟨hl37, h37s, h37r⟩ := h37
        subst L37
        have r94 := h37s.row (a := 94) (by omega) (by decide)
        refine v_istore K (fun q9 => [(4, .int (iI q9)), (3, .int (iI y)), (0, .ref (Q 90)), (1, .int (iI d)), (2, .int (iI c))]) dX9_worth_40 (by decide) (fun _ => rfl) (fun v hv => ?_)
        refine v_aload_n K 2 dX9_worth_42 rfl rfl ?_
        refine v_iload_n K 3 dX9_worth_43 rfl rfl ?_
        refine v_iload_n K 1 dX9_worth_44 rfl rfl ?_
        refine v_cVv K (c_X9_dropAt d.toNat y.toNat (by omega) (by rw [r94]; omega) (by rw [r94]; omega) _ _ (by omega) (by omega)) rfl fc_X9_93 wm_X9_dropAt ws_X9_dropAt (by decide) 9 rfl (by decide) rfl rfl (by decide) (Nat.le_of_ble_eq_true rfl) dX9_worth_45 (fun M45 L45 h45 => ?_)
        obtain ⟨hl45, hm45⟩ := h45
        subst L45
        have k45 : scM (drD MI d.toNat y.toNat) M45 := by
          rw [hm45]
          intro a b q1 q2
          simp only [drD, dropK]
          rw [r94, h37s.row (a := 95) (by omega) (by decide), h37s a b q1 q2]
        refine v_aload_n K 2 dX9_worth_48 rfl rfl ?_
        refine v_iload_n K 3 dX9_worth_49 rfl rfl ?_
        refine v_cVi K (c_X9_standingOf (k45.ok hq) d.toNat (by omega) _ (by omega)) rfl fc_X9_177 wm_X9_standingOf ws_X9_standingOf (by decide) 9 rfl (by decide) rfl rfl (by decide) (Nat.le_of_ble_eq_true rfl) dX9_worth_50 (fun r50 M50 L50 h50 => ?_)
        obtain ⟨hl50, h50s, h50r⟩ := h50
        subst L50
        have k50 := k45.trans h50s
        have e94 : M50 94 d.toNat = MI 94 d.toNat - 1 := by rw [k50 94 _ (by omega) (by omega)]; simp [drD, dropK]
        refine v_istore K (fun q9 => [(5, .int (iI q9)), (4, .int (iI v)), (3, .int (iI y)), (0, .ref (Q 90)), (1, .int (iI d)), (2, .int (iI c))]) dX9_worth_53 (by decide) (fun _ => rfl) (fun w hw => ?_)
        refine v_aload_n K 3 dX9_worth_55 rfl rfl ?_
        refine v_iload_n K 4 dX9_worth_56 rfl rfl ?_
        refine v_iload_n K 2 dX9_worth_57 rfl rfl ?_
        refine v_iload_n K 5 dX9_worth_58 rfl rfl ?_
        refine v_cVv K (c_X9_putBack d.toNat y.toNat (by omega) (by rw [e94]; omega) (by rw [e94]; omega) (by rw [e94]; omega) c _ _ (by omega) (by omega)) rfl fc_X9_183 wm_X9_putBack ws_X9_putBack (by decide) 9 rfl (by decide) rfl rfl (by decide) (Nat.le_of_ble_eq_true rfl) dX9_worth_59 (fun M59 L59 h59 => ?_)
        obtain ⟨hl59, hm59⟩ := h59
        subst L59
        refine v_iload K 1 dX9_worth_62 rfl ?_
        refine v_iload K 0 dX9_worth_64 rfl ?_
        refine v_isub K dX9_worth_66 ?_
        exact v_ri K E dX9_worth_67 (by
        have ey : y = fpl (fun k => MI 95 (10 * d.toNat + k)) c (MI 94 d.toNat).toNat := by omega
        refine ⟨rfl, fun a b q1 q2 => ?_, Or.inr ⟨⟨by omega, by omega⟩, ?_⟩⟩
        · rw [hm59]; exact drop_back (MI := MI) (fun a b => ¬ (a < 96 ∨ 102 < a) ∨ (a = 90 ∧ b = 15)) (fun b => by omega) (by omega) (by rcases b0 with q | q; exact absurd (ey.trans q) (by omega); rw [ey]; exact q.2.2) (fun a b q => k50 a b (by omega) (by omega)) a b (by omega)
        · rw [hv, hw, h37r, h50r, ← ey, k45.co.2.2.1]
          unfold mSt
          rw [drD_nd]
          congr 2
          funext b
          exact k45.co.tab _ b)
      · refine v_ldc K (-2147483648) ck_X9_121 rfl dX9_worth_32 ?_
        exact v_ri K E dX9_worth_34 (by first | exact ⟨rfl, fun _ _ _ _ => rfl, Or.inl ⟨by omega, rfl⟩⟩ | exact ⟨rfl, fun _ _ _ _ => rfl, Or.inl ⟨fun q => q.2 (by omega), rfl⟩⟩)
end
section
def scX (MI M : ZM) : Prop := ∀ a b, (a < 96 ∨ 102 < a) → a ≠ 109 → ¬ (a = 90 ∧ b = 15) → M a b = MI a b
theorem scX.co {MI M : ZM} (h : scX MI M) : coM MI M := ⟨fun k h1 h2 => funext fun b => h k b (by omega) (by omega) (by omega), h 90 0 (by omega) (by decide) (by decide), h 90 4 (by omega) (by decide) (by decide), h 90 7 (by omega) (by decide) (by decide)⟩
theorem scX.sc {MI M M' : ZM} (h : scX MI M) (h2 : scM M M') : scX MI M' := fun a b q1 q2 q3 => (h2 a b q1 q3).trans (h a b q1 q2 q3)
def idB (MI M0 M : ZM) (d k : Nat) : Prop := scX M0 M ∧ ∀ b, b < k → M 109 b = mTab MI d b
theorem idB_put {MI M M' : ZM} {d k : Nat} {v : Int} (h : idB MI MI M d k) (h2 : scM M M') (hv : v = mTab M d k) : idB MI MI (z_up M' 109 k v) d (k + 1) := by
  refine ⟨fun a b q1 q2 q3 => ?_, fun b hb => ?_⟩
  · rw [z_up_k q2]; exact (h.1.sc h2) a b q1 q2 q3
  · by_cases e : b = k
    · subst e; rw [z_up_s, hv]; exact h.1.co.tab d b
    · rw [z_up_j e, h2 109 b (by omega) (by omega)]; exact h.2 b (by omega)
/-- the first k TABLES of deck d are the same by two memories -/
def idS (A B : ZM) (d k : Nat) (v : Int) : Prop := (v = 1 ∧ ∀ b, b < k → mTab A d b = mTab B d b) ∨ (v = 0 ∧ ∃ b, b < k ∧ mTab A d b ≠ mTab B d b)
theorem idS_0 {A B : ZM} {d k : Nat} (h : idS A B d k 0) : idS A B d (k + 1) 0 := by
  rcases h with ⟨h, -⟩ | ⟨-, b, h1, h2⟩
  · exact absurd h (by decide)
  · exact Or.inr ⟨rfl, b, by omega, h2⟩
theorem idS_1 {A B : ZM} {d k : Nat} {v : Int} (h : idS A B d k v) (h1 : v ≠ 0) (he : mTab A d k = mTab B d k) : idS A B d (k + 1) 1 := by
  rcases h with ⟨-, h⟩ | ⟨h, -⟩
  · refine Or.inl ⟨rfl, fun b hb => ?_⟩
    by_cases e : b = k
    · subst e; exact he
    · exact h b (by omega)
  · exact absurd h h1
theorem idS_2 {A B : ZM} {d k : Nat} (he : mTab A d k ≠ mTab B d k) : idS A B d (k + 1) 0 := Or.inr ⟨rfl, k, by omega, he⟩
set_option maxRecDepth 100000 in
set_option maxHeartbeats 4000000 in
theorem l_X9_idle_a {X : VX} {Q : Nat → Nat} {MI ML : ZM} (K : VK X cX9_idle RX9 6 (some .int) 5 117 0 0) (hM : mOk MI) (d c : Int) (hd0 : 0 ≤ d) (hd1 : d < MI 90 4) (y : Int) (kk : ∀ (M : ZM) (z : Int), idB MI MI M d.toNat (MI 90 4).toNat → V X (0, 0) 110 Q z_rf M ML 66 [(4, .int (iI z)), (3, .int (iI y)), (0, .ref (Q 90)), (1, .int (iI d)), (2, .int (iI c))] []) : ∀ (n k : Nat) (M : ZM) (z : Int), z = k → idB MI MI M d.toNat k → (k : Int) ≤ MI 90 4 → MI 90 4 < k + n → V X (0, 0) 110 Q z_rf M ML 37 [(4, .int (iI z)), (3, .int (iI y)), (0, .ref (Q 90)), (1, .int (iI d)), (2, .int (iI c))] [] := by
  have u4 := hM.2.1
  intro n
  induction n with
  | zero => intro k M z hz G hk hn; exact absurd hn (by omega)
  | succ n ih =>
    intro k M z hz G hk hn
    refine v_iload K 0 dX9_idle_37 rfl ?_
    refine v_aload_n K 2 dX9_idle_39 rfl rfl ?_
    refine v_geti K ff_X9_79 (by decide) rfl rfl dX9_idle_40 ?_
    refine v_eqi (MI 90 4) (G.1 90 4 (by omega) (by decide) (by decide)) ?_
    refine v_icmp_ge K 66 ⟨by omega, by omega⟩ ⟨by omega, by omega⟩ dX9_idle_43 (by decide) (fun h43 => ?_) (fun h43 => ?_)
    · obtain rfl : k = (MI 90 4).toNat := by omega
      exact kk M z G
    · refine v_aload_n K 2 dX9_idle_46 rfl rfl ?_
      refine v_getr K ff_X9_69 (by decide) rfl rfl rfl dX9_idle_47 ?_
      refine v_iload K 0 dX9_idle_50 rfl ?_
      refine v_aload_n K 2 dX9_idle_52 rfl rfl ?_
      refine v_iload_n K 3 dX9_idle_53 rfl rfl ?_
      refine v_iload K 0 dX9_idle_54 rfl ?_
      refine v_cVi K (c_X9_tableOf (G.1.co.ok hM) d.toNat k (by omega) (by omega) _ _ (by omega) hz) rfl fc_X9_122 wm_X9_tableOf ws_X9_tableOf (by decide) 9 rfl (by decide) rfl rfl (by decide) (Nat.le_of_ble_eq_true rfl) dX9_idle_56 (fun r56 M56 L56 h56 => ?_)
      obtain ⟨hl56, h56s, h56r⟩ := h56
      subst L56
      refine v_iast K (k) (by decide) rfl (by omega) (by show _ < 5; omega) dX9_idle_59 ?_
      refine v_iinc K 0 (fun q9 => [(4, .int (iI q9)), (3, .int (iI y)), (0, .ref (Q 90)), (1, .int (iI d)), (2, .int (iI c))]) dX9_idle_60 rfl (by decide) (fun _ => rfl) (fun w hw => ?_)
      refine v_goto K 37 dX9_idle_63 (by decide) ?_
      exact ih (k + 1) _ w (by omega) (idB_put G h56s h56r) (by omega) (by omega)
set_option maxRecDepth 100000 in
set_option maxHeartbeats 4000000 in
theorem l_X9_idle_b {X : VX} {Q : Nat → Nat} {MI ML : ZM} (K : VK X cX9_idle RX9 6 (some .int) 5 117 0 0) (hM : mOk MI) (d c : Int) (hd0 : 0 ≤ d) (hd1 : d < MI 90 4) (y : Int) (DM : ZM) (hDM : mOk DM) (hDN : DM 90 4 = MI 90 4) (kk : ∀ (M : ZM) (x z : Int), idB MI DM M d.toNat (MI 90 4).toNat → idS MI DM d.toNat (MI 90 4).toNat z → V X (0, 0) 110 Q z_rf M ML 122 [(5, .int (iI x)), (4, .int (iI z)), (3, .int (iI y)), (0, .ref (Q 90)), (1, .int (iI d)), (2, .int (iI c))] []) : ∀ (n k : Nat) (M : ZM) (x z : Int), x = k → idB MI DM M d.toNat (MI 90 4).toNat → idS MI DM d.toNat k z → (k : Int) ≤ MI 90 4 → MI 90 4 < k + n → V X (0, 0) 110 Q z_rf M ML 78 [(5, .int (iI x)), (4, .int (iI z)), (3, .int (iI y)), (0, .ref (Q 90)), (1, .int (iI d)), (2, .int (iI c))] [] := by
  have u4 := hM.2.1
  intro n
  induction n with
  | zero => intro k M x z hx G hS hk hn; exact absurd hn (by omega)
  | succ n ih =>
    intro k M x z hx G hS hk hn
    have hz9 : rg z := by rcases hS with ⟨q, -⟩ | ⟨q, -⟩ <;> exact ⟨by omega, by omega⟩
    refine v_iload K 0 dX9_idle_78 rfl ?_
    refine v_aload_n K 3 dX9_idle_80 rfl rfl ?_
    refine v_geti K ff_X9_79 (by decide) rfl rfl dX9_idle_81 ?_
    refine v_eqi (MI 90 4) (by rw [G.1 90 4 (by omega) (by decide) (by decide)]; exact hDN) ?_
    refine v_icmp_ge K 122 ⟨by omega, by omega⟩ ⟨by omega, by omega⟩ dX9_idle_84 (by decide) (fun h84 => ?_) (fun h84 => ?_)
    · obtain rfl : k = (MI 90 4).toNat := by omega
      exact kk M x z G hS
    · refine v_iload K 1 dX9_idle_87 rfl ?_
      refine v_if_eq K 113 hz9 dX9_idle_89 (by decide) (fun h89 => ?_) (fun h89 => ?_)
      · refine v_iconst K dX9_idle_113 ?_
        refine v_istore K (fun q9 => [(4, .int (iI q9)), (5, .int (iI x)), (3, .int (iI y)), (0, .ref (Q 90)), (1, .int (iI d)), (2, .int (iI c))]) dX9_idle_114 (by decide) (fun _ => rfl) (fun v hv => ?_)
        refine v_iinc K 1 (fun q9 => [(5, .int (iI q9)), (4, .int (iI v)), (3, .int (iI y)), (0, .ref (Q 90)), (1, .int (iI d)), (2, .int (iI c))]) dX9_idle_116 rfl (by decide) (fun _ => rfl) (fun w hw => ?_)
        refine v_goto K 78 dX9_idle_119 (by decide) ?_
        exact ih (k + 1) _ w v (by omega) G (by rw [hv]; rw [h89] at hS; exact idS_0 hS) (by omega) (by omega)
      · refine v_aload_n K 3 dX9_idle_92 rfl rfl ?_
        refine v_getr K ff_X9_69 (by decide) rfl rfl rfl dX9_idle_93 ?_
        refine v_iload K 0 dX9_idle_96 rfl ?_
        refine v_iald K (k) (by decide) rfl (by omega) (by show _ < 5; omega) dX9_idle_98 ?_
        refine v_eqi (mTab MI d.toNat k) (G.2 k (by omega)) ?_
        refine v_aload_n K 3 dX9_idle_99 rfl rfl ?_
        refine v_iload_n K 4 dX9_idle_100 rfl rfl ?_
        refine v_iload K 0 dX9_idle_101 rfl ?_
        refine v_cVi K (c_X9_tableOf (G.1.co.ok hDM) d.toNat k (by omega) (by omega) _ _ (by omega) hx) rfl fc_X9_122 wm_X9_tableOf ws_X9_tableOf (by decide) 9 rfl (by decide) rfl rfl (by decide) (Nat.le_of_ble_eq_true rfl) dX9_idle_103 (fun r103 M103 L103 h103 => ?_)
        obtain ⟨hl103, h103s, h103r⟩ := h103
        subst L103
        rw [G.1.co.tab] at h103r
        have t1 := mTab_b MI d.toNat k
        have t2 := mTab_b DM d.toNat k
        refine v_icmp_ne K 113 ⟨by omega, by omega⟩ ⟨by omega, by omega⟩ dX9_idle_106 (by decide) (fun h106 => ?_) (fun h106 => ?_)
        · refine v_iconst K dX9_idle_113 ?_
          refine v_istore K (fun q9 => [(4, .int (iI q9)), (5, .int (iI x)), (3, .int (iI y)), (0, .ref (Q 90)), (1, .int (iI d)), (2, .int (iI c))]) dX9_idle_114 (by decide) (fun _ => rfl) (fun v hv => ?_)
          refine v_iinc K 1 (fun q9 => [(5, .int (iI q9)), (4, .int (iI v)), (3, .int (iI y)), (0, .ref (Q 90)), (1, .int (iI d)), (2, .int (iI c))]) dX9_idle_116 rfl (by decide) (fun _ => rfl) (fun w hw => ?_)
          refine v_goto K 78 dX9_idle_119 (by decide) ?_
          exact ih (k + 1) _ w v (by omega) ⟨G.1.sc h103s, fun b hb => by rw [h103s 109 b (by omega) (by omega)]; exact G.2 b hb⟩ (by rw [hv]; exact idS_2 (by omega)) (by omega) (by omega)
        · refine v_iconst K dX9_idle_109 ?_
          refine v_goto K 114 dX9_idle_110 (by decide) ?_
          refine v_istore K (fun q9 => [(4, .int (iI q9)), (5, .int (iI x)), (3, .int (iI y)), (0, .ref (Q 90)), (1, .int (iI d)), (2, .int (iI c))]) dX9_idle_114 (by decide) (fun _ => rfl) (fun v hv => ?_)
          refine v_iinc K 1 (fun q9 => [(5, .int (iI q9)), (4, .int (iI v)), (3, .int (iI y)), (0, .ref (Q 90)), (1, .int (iI d)), (2, .int (iI c))]) dX9_idle_116 rfl (by decide) (fun _ => rfl) (fun w hw => ?_)
          refine v_goto K 78 dX9_idle_119 (by decide) ?_
          exact ih (k + 1) _ w v (by omega) ⟨G.1.sc h103s, fun b hb => by rw [h103s 109 b (by omega) (by omega)]; exact G.2 b hb⟩ (by rw [hv]; exact idS_1 hS h89 (by omega)) (by omega) (by omega)
set_option maxRecDepth 100000 in
set_option maxHeartbeats 4000000 in
theorem l_X9_idle_e {X : VX} {Q : Nat → Nat} {MI ML : ZM} (K : VK X cX9_idle RX9 6 (some .int) 5 117 0 0) (hM : mOk MI) (d c : Int) (hd0 : 0 ≤ d) (hd1 : d < MI 90 4) (hc0 : 0 ≤ c) (hc1 : c < MI 90 0) (y : Int) (hy : y = fpl (fun k => MI 95 (10 * d.toNat + k)) c (MI 94 d.toNat).toNat) (hy2 : y ≠ -1) (E : VE X 0 0 110 Q (zq Q (zI fun r M L => L = ML ∧ scX MI M ∧ ((¬ (0 ≤ d ∧ d < MI 90 4 ∧ 0 ≤ c ∧ c < MI 90 0) ∧ r = -2) ∨ ((0 ≤ d ∧ d < MI 90 4 ∧ 0 ≤ c ∧ c < MI 90 0) ∧ fpl (fun k => MI 95 (10 * d.toNat + k)) c (MI 94 d.toNat).toNat = -1 ∧ r = -3) ∨ ((0 ≤ d ∧ d < MI 90 4 ∧ 0 ≤ c ∧ c < MI 90 0) ∧ fpl (fun k => MI 95 (10 * d.toNat + k)) c (MI 94 d.toNat).toNat ≠ -1 ∧ idS MI (drD MI d.toNat (fpl (fun k => MI 95 (10 * d.toNat + k)) c (MI 94 d.toNat).toNat).toNat) d.toNat (MI 90 4).toNat r))))) (M : ZM) (x z : Int) (G : idB MI (drD MI d.toNat (fpl (fun k => MI 95 (10 * d.toNat + k)) c (MI 94 d.toNat).toNat).toNat) M d.toNat (MI 90 4).toNat) (hS : idS MI (drD MI d.toNat (fpl (fun k => MI 95 (10 * d.toNat + k)) c (MI 94 d.toNat).toNat).toNat) d.toNat (MI 90 4).toNat z) : V X (0, 0) 110 Q z_rf M ML 122 [(5, .int (iI x)), (4, .int (iI z)), (3, .int (iI y)), (0, .ref (Q 90)), (1, .int (iI d)), (2, .int (iI c))] [] := by
  have u4 := hM.2.1
  have us := hM.2.2.2.2.1 d.toNat (by omega)
  have b0 := fpl_b (fun k => MI 95 (10 * d.toNat + k)) c (MI 94 d.toNat).toNat
  rw [← hy] at b0 G hS
  have e94 : M 94 d.toNat = MI 94 d.toNat - 1 := by rw [G.1 94 _ (by omega) (by decide) (by omega)]; simp [drD, dropK]
  have hz9 : rg z := by rcases hS with ⟨q, -⟩ | ⟨q, -⟩ <;> exact ⟨by omega, by omega⟩
  refine v_aload_n K 3 dX9_idle_122 rfl rfl ?_
  refine v_iload_n K 4 dX9_idle_123 rfl rfl ?_
  refine v_iload_n K 2 dX9_idle_124 rfl rfl ?_
  refine v_iload_n K 5 dX9_idle_125 rfl rfl ?_
  refine v_cVv K (c_X9_putBack d.toNat y.toNat (by omega) (by rw [e94]; omega) (by rw [e94]; omega) (by rw [e94]; omega) c _ _ (by omega) (by omega)) rfl fc_X9_183 wm_X9_putBack ws_X9_putBack (by decide) 9 rfl (by decide) rfl rfl (by decide) (Nat.le_of_ble_eq_true rfl) dX9_idle_126 (fun M126 L126 h126 => ?_)
  obtain ⟨hl126, hm126⟩ := h126
  subst L126
  have hF : scX MI M126 := by
    intro a b q1 q2 q3
    rw [hm126]
    exact drop_back (MI := MI) (fun a b => ¬ (a < 96 ∨ 102 < a) ∨ a = 109 ∨ (a = 90 ∧ b = 15)) (fun b => by omega) (by omega) (by rcases b0 with q | q; exact absurd q hy2; exact q.2.2) (fun a b q => G.1 a b (by omega) (by omega) (by omega)) a b (by omega)
  refine v_iload K 1 dX9_idle_129 rfl ?_
  refine v_if_eq K 138 hz9 dX9_idle_131 (by decide) (fun h131 => ?_) (fun h131 => ?_)
  · refine v_iconst K dX9_idle_138 ?_
    exact v_ri K E dX9_idle_139 (by
      refine ⟨rfl, hF, Or.inr (Or.inr ⟨by omega, by omega, ?_⟩)⟩
      rw [← hy]
      rcases hS with ⟨q, q2⟩ | ⟨q, q2⟩
      · first | exact absurd q (by omega) | exact Or.inl ⟨rfl, q2⟩
      · first | exact absurd q (by omega) | exact Or.inr ⟨rfl, q2⟩)
  · refine v_iconst K dX9_idle_134 ?_
    refine v_goto K 139 dX9_idle_135 (by decide) ?_
    exact v_ri K E dX9_idle_139 (by
      refine ⟨rfl, hF, Or.inr (Or.inr ⟨by omega, by omega, ?_⟩)⟩
      rw [← hy]
      rcases hS with ⟨q, q2⟩ | ⟨q, q2⟩
      · first | exact absurd q (by omega) | exact Or.inl ⟨rfl, q2⟩
      · first | exact absurd q (by omega) | exact Or.inr ⟨rfl, q2⟩)
set_option maxRecDepth 100000 in
set_option maxHeartbeats 4000000 in
theorem l_X9_idle_m {X : VX} {Q : Nat → Nat} {MI ML : ZM} (K : VK X cX9_idle RX9 6 (some .int) 5 117 0 0) (hM : mOk MI) (d c : Int) (hd0 : 0 ≤ d) (hd1 : d < MI 90 4) (hc0 : 0 ≤ c) (hc1 : c < MI 90 0) (y : Int) (hy : y = fpl (fun k => MI 95 (10 * d.toNat + k)) c (MI 94 d.toNat).toNat) (hy2 : y ≠ -1) (E : VE X 0 0 110 Q (zq Q (zI fun r M L => L = ML ∧ scX MI M ∧ ((¬ (0 ≤ d ∧ d < MI 90 4 ∧ 0 ≤ c ∧ c < MI 90 0) ∧ r = -2) ∨ ((0 ≤ d ∧ d < MI 90 4 ∧ 0 ≤ c ∧ c < MI 90 0) ∧ fpl (fun k => MI 95 (10 * d.toNat + k)) c (MI 94 d.toNat).toNat = -1 ∧ r = -3) ∨ ((0 ≤ d ∧ d < MI 90 4 ∧ 0 ≤ c ∧ c < MI 90 0) ∧ fpl (fun k => MI 95 (10 * d.toNat + k)) c (MI 94 d.toNat).toNat ≠ -1 ∧ idS MI (drD MI d.toNat (fpl (fun k => MI 95 (10 * d.toNat + k)) c (MI 94 d.toNat).toNat).toNat) d.toNat (MI 90 4).toNat r))))) (M : ZM) (z : Int) (G : idB MI MI M d.toNat (MI 90 4).toNat) : V X (0, 0) 110 Q z_rf M ML 66 [(4, .int (iI z)), (3, .int (iI y)), (0, .ref (Q 90)), (1, .int (iI d)), (2, .int (iI c))] [] := by
  have u4 := hM.2.1
  have us := hM.2.2.2.2.1 d.toNat (by omega)
  have b0 := fpl_b (fun k => MI 95 (10 * d.toNat + k)) c (MI 94 d.toNat).toNat
  rw [← hy] at b0
  have e94 : M 94 d.toNat = MI 94 d.toNat := G.1 94 _ (by omega) (by decide) (by omega)
  refine v_aload_n K 2 dX9_idle_66 rfl rfl ?_
  refine v_iload_n K 3 dX9_idle_67 rfl rfl ?_
  refine v_iload_n K 1 dX9_idle_68 rfl rfl ?_
  refine v_cVv K (c_X9_dropAt d.toNat y.toNat (by omega) (by rw [e94]; omega) (by rw [e94]; omega) _ _ (by omega) (by omega)) rfl fc_X9_93 wm_X9_dropAt ws_X9_dropAt (by decide) 9 rfl (by decide) rfl rfl (by decide) (Nat.le_of_ble_eq_true rfl) dX9_idle_69 (fun M69 L69 h69 => ?_)
  obtain ⟨hl69, hm69⟩ := h69
  subst L69
  have G2 : idB MI (drD MI d.toNat y.toNat) M69 d.toNat (MI 90 4).toNat := by
    rw [hm69]
    refine ⟨fun a b q1 q2 q3 => ?_, fun b hb => ?_⟩
    · simp only [drD, dropK]
      rw [e94, G.1 a b q1 q2 q3]
      split
      · rfl
      · split
        · exact G.1 95 _ (by omega) (by decide) (by omega)
        · rfl
    · rw [← G.2 b hb]; simp [dropK]
  refine v_iconst K dX9_idle_72 ?_
  refine v_istore K (fun q9 => [(4, .int (iI q9)), (3, .int (iI y)), (0, .ref (Q 90)), (1, .int (iI d)), (2, .int (iI c))]) dX9_idle_73 (by decide) (fun _ => rfl) (fun v hv => ?_)
  refine v_iconst K dX9_idle_75 ?_
  refine v_istore K (fun q9 => [(5, .int (iI q9)), (4, .int (iI v)), (3, .int (iI y)), (0, .ref (Q 90)), (1, .int (iI d)), (2, .int (iI c))]) dX9_idle_76 (by decide) (fun _ => rfl) (fun w hw => ?_)
  rw [hy] at G2
  exact l_X9_idle_b K hM d c hd0 hd1 y _ (by rw [← hy]; exact dropK_ok hM (by omega) (by omega)) (drD_nd _ _ _) (fun M x z G hS => l_X9_idle_e K hM d c hd0 hd1 hc0 hc1 y hy hy2 E M x z G hS) 6 0 M69 w v hw G2 (Or.inl ⟨hv, fun b hb => absurd hb (by omega)⟩) (by omega) (by omega)
set_option maxRecDepth 100000 in
set_option maxHeartbeats 4000000 in
theorem c_X9_idle {l : Launch} {D : va_G} {Z : ZC} {Q : Nat → Nat} {MI ML : ZM} (hM : mOk MI) (d c : Int) (hd : rg d) (hc : rg c) : C_X9_idle l D Z Q [.ref (Q 90), .int (iI d), .int (iI c)] MI ML (zI fun r M L => L = ML ∧ scX MI M ∧ ((¬ (0 ≤ d ∧ d < MI 90 4 ∧ 0 ≤ c ∧ c < MI 90 0) ∧ r = -2) ∨ ((0 ≤ d ∧ d < MI 90 4 ∧ 0 ≤ c ∧ c < MI 90 0) ∧ fpl (fun k => MI 95 (10 * d.toNat + k)) c (MI 94 d.toNat).toNat = -1 ∧ r = -3) ∨ ((0 ≤ d ∧ d < MI 90 4 ∧ 0 ≤ c ∧ c < MI 90 0) ∧ fpl (fun k => MI 95 (10 * d.toNat + k)) c (MI 94 d.toNat).toNat ≠ -1 ∧ idS MI (drD MI d.toNat (fpl (fun k => MI 95 (10 * d.toNat + k)) c (MI 94 d.toNat).toNat).toNat) d.toNat (MI 90 4).toNat r))) := by
  refine CM.of (by decide +kernel) (Nat.le_of_ble_eq_true rfl) ?_
  intro X K E _ _ _ _
  show V X (0, 0) 110 Q z_rf MI ML 0 [(0, .ref (Q 90)), (1, .int (iI d)), (2, .int (iI c))] []
  have u4 := hM.2.1
  have b0 := fpl_b (fun k => MI 95 (10 * d.toNat + k)) c (MI 94 d.toNat).toNat
  refine v_aload_n K 0 dX9_idle_0 rfl rfl ?_
  refine v_iload_n K 1 dX9_idle_1 rfl rfl ?_
  refine v_cVi K (c_X9_isDeck hM _ hd) rfl fc_X9_86 wm_X9_isDeck ws_X9_isDeck (by decide) 9 rfl (by decide) rfl rfl (by decide) (Nat.le_of_ble_eq_true rfl) dX9_idle_2 (fun r2 M2 L2 h2 => ?_)
  obtain ⟨hm2, hl2, hr2⟩ := h2
  subst M2 L2
  refine v_if_eq K 16 ⟨by omega, by omega⟩ dX9_idle_5 (by decide) (fun h5 => ?_) (fun h5 => ?_)
  · refine v_bipush K dX9_idle_16 (by decide) ?_
    exact v_ri K E dX9_idle_18 ⟨rfl, fun _ _ _ _ _ => rfl, Or.inl ⟨by omega, rfl⟩⟩
  · refine v_aload_n K 0 dX9_idle_8 rfl rfl ?_
    refine v_iload_n K 2 dX9_idle_9 rfl rfl ?_
    refine v_cVi K (c_X9_isCard hM _ hc) rfl fc_X9_82 wm_X9_isCard ws_X9_isCard (by decide) 9 rfl (by decide) rfl rfl (by decide) (Nat.le_of_ble_eq_true rfl) dX9_idle_10 (fun r10 M10 L10 h10 => ?_)
    obtain ⟨hm10, hl10, hr10⟩ := h10
    subst M10 L10
    refine v_if_ne K 19 ⟨by omega, by omega⟩ dX9_idle_13 (by decide) (fun h13 => ?_) (fun h13 => ?_)
    · refine v_aload_n K 0 dX9_idle_19 rfl rfl ?_
      refine v_iload_n K 1 dX9_idle_20 rfl rfl ?_
      refine v_iload_n K 2 dX9_idle_21 rfl rfl ?_
      refine v_cVi K (c_X9_placeOf hM d.toNat (by omega) c hc _ (by omega)) rfl fc_X9_180 wm_X9_placeOf ws_X9_placeOf (by decide) 9 rfl (by decide) rfl rfl (by decide) (Nat.le_of_ble_eq_true rfl) dX9_idle_22 (fun r22 M22 L22 h22 => ?_)
      obtain ⟨hm22, hl22, hr22⟩ := h22
      subst M22 L22
      have us := hM.2.2.2.2.1 d.toNat (by omega)
      refine v_istore_n K (fun q9 => [(3, .int (iI q9)), (0, .ref (Q 90)), (1, .int (iI d)), (2, .int (iI c))]) dX9_idle_25 rfl (by decide) (fun _ => rfl) (fun y hy => ?_)
      refine v_iload_n K 0 dX9_idle_26 rfl rfl ?_
      refine v_iconst K dX9_idle_27 ?_
      refine v_icmp_ne K 34 ⟨by omega, by omega⟩ ⟨by omega, by omega⟩ dX9_idle_28 (by decide) (fun h28 => ?_) (fun h28 => ?_)
      · refine v_iconst K dX9_idle_34 ?_
        refine v_istore K (fun q9 => [(4, .int (iI q9)), (3, .int (iI y)), (0, .ref (Q 90)), (1, .int (iI d)), (2, .int (iI c))]) dX9_idle_35 (by decide) (fun _ => rfl) (fun z hz => ?_)
        exact l_X9_idle_a K hM d c (by omega) (by omega) y (fun M z G => l_X9_idle_m K hM d c (by omega) (by omega) (by omega) (by omega) y (by omega) (by omega) E M z G) 6 0 MI z hz ⟨fun _ _ _ _ _ => rfl, fun b hb => absurd hb (by omega)⟩ (by omega) (by omega)
      · refine v_bipush K dX9_idle_31 (by decide) ?_
        exact v_ri K E dX9_idle_33 ⟨rfl, fun _ _ _ _ _ => rfl, Or.inr (Or.inl ⟨by omega, by omega, rfl⟩)⟩
    · refine v_bipush K dX9_idle_16 (by decide) ?_
      exact v_ri K E dX9_idle_18 ⟨rfl, fun _ _ _ _ _ => rfl, Or.inl ⟨by omega, rfl⟩⟩
end
