theorem dX8_cardsInDecks_5 : decode cX8_cardsInDecks 5 = .ok (.aload_n 0, 1) := by decide +kernel
theorem dX8_cardsInDecks_6 : decode cX8_cardsInDecks 6 = .ok (.getfield 82, 3) := by decide +kernel
theorem dX8_cardsInDecks_9 : decode cX8_cardsInDecks 9 = .ok (.if_icmp .ge 21, 3) := by decide +kernel
theorem dX8_cardsInDecks_12 : decode cX8_cardsInDecks 12 = .ok (.iload_n 1, 1) := by decide +kernel
theorem dX8_cardsInDecks_13 : decode cX8_cardsInDecks 13 = .ok (.aload_n 0, 1) := by decide +kernel
theorem dX8_cardsInDecks_14 : decode cX8_cardsInDecks 14 = .ok (.getfield 18, 3) := by decide +kernel
theorem dX8_cardsInDecks_17 : decode cX8_cardsInDecks 17 = .ok (.iload_n 2, 1) := by decide +kernel
theorem dX8_cardsInDecks_18 : decode cX8_cardsInDecks 18 = .ok (.aaload, 1) := by decide +kernel
theorem dX8_cardsInDecks_19 : decode cX8_cardsInDecks 19 = .ok (.getfield 185, 3) := by decide +kernel
theorem dX8_cardsInDecks_22 : decode cX8_cardsInDecks 22 = .ok (.iadd, 1) := by decide +kernel
theorem dX8_cardsInDecks_23 : decode cX8_cardsInDecks 23 = .ok (.istore_n 1, 1) := by decide +kernel
theorem dX8_cardsInDecks_24 : decode cX8_cardsInDecks 24 = .ok (.iinc 2 1, 3) := by decide +kernel
theorem dX8_cardsInDecks_27 : decode cX8_cardsInDecks 27 = .ok (.goto (-23), 3) := by decide +kernel
theorem dX8_cardsInDecks_30 : decode cX8_cardsInDecks 30 = .ok (.iload_n 1, 1) := by decide +kernel
theorem dX8_cardsInDecks_31 : decode cX8_cardsInDecks 31 = .ok (.ireturn, 1) := by decide +kernel
theorem dX8_sumOf_0 : decode cX8_sumOf 0 = .ok (.iconst 0, 1) := by decide +kernel
theorem dX8_sumOf_1 : decode cX8_sumOf 1 = .ok (.istore_n 2, 1) := by decide +kernel
theorem dX8_sumOf_2 : decode cX8_sumOf 2 = .ok (.iconst 0, 1) := by decide +kernel
theorem dX8_sumOf_3 : decode cX8_sumOf 3 = .ok (.istore_n 3, 1) := by decide +kernel
theorem dX8_sumOf_4 : decode cX8_sumOf 4 = .ok (.iload_n 3, 1) := by decide +kernel
theorem dX8_sumOf_5 : decode cX8_sumOf 5 = .ok (.aload_n 0, 1) := by decide +kernel
theorem dX8_sumOf_6 : decode cX8_sumOf 6 = .ok (.getfield 82, 3) := by decide +kernel
theorem dX8_sumOf_9 : decode cX8_sumOf 9 = .ok (.if_icmp .ge 15, 3) := by decide +kernel
theorem dX8_sumOf_12 : decode cX8_sumOf 12 = .ok (.iload_n 2, 1) := by decide +kernel
theorem dX8_sumOf_13 : decode cX8_sumOf 13 = .ok (.aload_n 1, 1) := by decide +kernel
theorem dX8_sumOf_14 : decode cX8_sumOf 14 = .ok (.iload_n 3, 1) := by decide +kernel
theorem dX8_sumOf_15 : decode cX8_sumOf 15 = .ok (.iaload, 1) := by decide +kernel
theorem dX8_sumOf_16 : decode cX8_sumOf 16 = .ok (.iadd, 1) := by decide +kernel
theorem dX8_sumOf_17 : decode cX8_sumOf 17 = .ok (.istore_n 2, 1) := by decide +kernel
theorem dX8_sumOf_18 : decode cX8_sumOf 18 = .ok (.iinc 3 1, 3) := by decide +kernel
theorem dX8_sumOf_21 : decode cX8_sumOf 21 = .ok (.goto (-17), 3) := by decide +kernel
theorem dX8_sumOf_24 : decode cX8_sumOf 24 = .ok (.iload_n 2, 1) := by decide +kernel
theorem dX8_sumOf_25 : decode cX8_sumOf 25 = .ok (.ireturn, 1) := by decide +kernel
theorem dX8_greatestDivisor_0 : decode cX8_greatestDivisor 0 = .ok (.iload_n 0, 1) := by decide +kernel
theorem dX8_greatestDivisor_1 : decode cX8_greatestDivisor 1 = .ok (.istore_n 2, 1) := by decide +kernel
theorem dX8_greatestDivisor_2 : decode cX8_greatestDivisor 2 = .ok (.iload_n 1, 1) := by decide +kernel
theorem dX8_greatestDivisor_3 : decode cX8_greatestDivisor 3 = .ok (.istore_n 3, 1) := by decide +kernel
theorem dX8_greatestDivisor_4 : decode cX8_greatestDivisor 4 = .ok (.iconst 0, 1) := by decide +kernel
theorem dX8_greatestDivisor_5 : decode cX8_greatestDivisor 5 = .ok (.istore 4, 2) := by decide +kernel
theorem dX8_greatestDivisor_7 : decode cX8_greatestDivisor 7 = .ok (.iload 4, 2) := by decide +kernel
theorem dX8_greatestDivisor_9 : decode cX8_greatestDivisor 9 = .ok (.bipush 64, 2) := by decide +kernel
theorem dX8_greatestDivisor_11 : decode cX8_greatestDivisor 11 = .ok (.if_icmp .ge 23, 3) := by decide +kernel
theorem dX8_greatestDivisor_14 : decode cX8_greatestDivisor 14 = .ok (.iload_n 3, 1) := by decide +kernel
theorem dX8_greatestDivisor_15 : decode cX8_greatestDivisor 15 = .ok (.ifCond .eq 19, 3) := by decide +kernel
theorem dX8_greatestDivisor_18 : decode cX8_greatestDivisor 18 = .ok (.iload_n 2, 1) := by decide +kernel
theorem dX8_greatestDivisor_19 : decode cX8_greatestDivisor 19 = .ok (.iload_n 3, 1) := by decide +kernel
theorem dX8_greatestDivisor_20 : decode cX8_greatestDivisor 20 = .ok (.irem, 1) := by decide +kernel
theorem dX8_greatestDivisor_21 : decode cX8_greatestDivisor 21 = .ok (.istore 5, 2) := by decide +kernel
theorem dX8_greatestDivisor_23 : decode cX8_greatestDivisor 23 = .ok (.iload_n 3, 1) := by decide +kernel
theorem dX8_greatestDivisor_24 : decode cX8_greatestDivisor 24 = .ok (.istore_n 2, 1) := by decide +kernel
theorem dX8_greatestDivisor_25 : decode cX8_greatestDivisor 25 = .ok (.iload 5, 2) := by decide +kernel
theorem dX8_greatestDivisor_27 : decode cX8_greatestDivisor 27 = .ok (.istore_n 3, 1) := by decide +kernel
theorem dX8_greatestDivisor_28 : decode cX8_greatestDivisor 28 = .ok (.iinc 4 1, 3) := by decide +kernel
theorem dX8_greatestDivisor_31 : decode cX8_greatestDivisor 31 = .ok (.goto (-24), 3) := by decide +kernel
theorem dX8_greatestDivisor_34 : decode cX8_greatestDivisor 34 = .ok (.iload_n 2, 1) := by decide +kernel
theorem dX8_greatestDivisor_35 : decode cX8_greatestDivisor 35 = .ok (.ireturn, 1) := by decide +kernel
theorem dX8_forgetTables_0 : decode cX8_forgetTables 0 = .ok (.aload_n 0, 1) := by decide +kernel
theorem dX8_forgetTables_1 : decode cX8_forgetTables 1 = .ok (.iconst 0, 1) := by decide +kernel
theorem dX8_forgetTables_2 : decode cX8_forgetTables 2 = .ok (.putfield 186, 3) := by decide +kernel
theorem dX8_forgetTables_5 : decode cX8_forgetTables 5 = .ok (.aload_n 0, 1) := by decide +kernel
theorem dX8_forgetTables_6 : decode cX8_forgetTables 6 = .ok (.iconst 0, 1) := by decide +kernel
theorem dX8_forgetTables_7 : decode cX8_forgetTables 7 = .ok (.putfield 190, 3) := by decide +kernel
theorem dX8_forgetTables_10 : decode cX8_forgetTables 10 = .ok (.return_, 1) := by decide +kernel
theorem dX8_learnTables_0 : decode cX8_learnTables 0 = .ok (.aload_n 0, 1) := by decide +kernel
theorem dX8_learnTables_1 : decode cX8_learnTables 1 = .ok (.getfield 186, 3) := by decide +kernel
theorem dX8_learnTables_4 : decode cX8_learnTables 4 = .ok (.ifCond .eq 4, 3) := by decide +kernel
theorem dX8_learnTables_7 : decode cX8_learnTables 7 = .ok (.return_, 1) := by decide +kernel
theorem dX8_learnTables_8 : decode cX8_learnTables 8 = .ok (.iconst 0, 1) := by decide +kernel
theorem dX8_learnTables_9 : decode cX8_learnTables 9 = .ok (.istore_n 1, 1) := by decide +kernel
theorem dX8_learnTables_10 : decode cX8_learnTables 10 = .ok (.iload_n 1, 1) := by decide +kernel
theorem dX8_learnTables_11 : decode cX8_learnTables 11 = .ok (.aload_n 0, 1) := by decide +kernel
theorem dX8_learnTables_12 : decode cX8_learnTables 12 = .ok (.getfield 82, 3) := by decide +kernel
theorem dX8_learnTables_15 : decode cX8_learnTables 15 = .ok (.if_icmp .ge 32, 3) := by decide +kernel
theorem dX8_learnTables_18 : decode cX8_learnTables 18 = .ok (.aload_n 0, 1) := by decide +kernel
theorem dX8_learnTables_19 : decode cX8_learnTables 19 = .ok (.getfield 35, 3) := by decide +kernel
theorem dX8_learnTables_22 : decode cX8_learnTables 22 = .ok (.getfield 109, 3) := by decide +kernel
theorem dX8_learnTables_25 : decode cX8_learnTables 25 = .ok (.iload_n 1, 1) := by decide +kernel
theorem dX8_learnTables_26 : decode cX8_learnTables 26 = .ok (.aaload, 1) := by decide +kernel
theorem dX8_learnTables_27 : decode cX8_learnTables 27 = .ok (.aload_n 0, 1) := by decide +kernel
theorem dX8_learnTables_28 : decode cX8_learnTables 28 = .ok (.getfield 10, 3) := by decide +kernel
theorem dX8_learnTables_31 : decode cX8_learnTables 31 = .ok (.aload_n 0, 1) := by decide +kernel
theorem dX8_learnTables_32 : decode cX8_learnTables 32 = .ok (.getfield 18, 3) := by decide +kernel
theorem dX8_learnTables_35 : decode cX8_learnTables 35 = .ok (.iload_n 1, 1) := by decide +kernel
theorem dX8_learnTables_36 : decode cX8_learnTables 36 = .ok (.aaload, 1) := by decide +kernel
theorem dX8_learnTables_37 : decode cX8_learnTables 37 = .ok (.iconst (-1), 1) := by decide +kernel
theorem dX8_learnTables_38 : decode cX8_learnTables 38 = .ok (.invokevirtual 193, 3) := by decide +kernel
theorem dX8_learnTables_41 : decode cX8_learnTables 41 = .ok (.iinc 1 1, 3) := by decide +kernel
theorem dX8_learnTables_44 : decode cX8_learnTables 44 = .ok (.goto (-34), 3) := by decide +kernel
theorem dX8_learnTables_47 : decode cX8_learnTables 47 = .ok (.iconst 0, 1) := by decide +kernel
theorem dX8_learnTables_48 : decode cX8_learnTables 48 = .ok (.istore_n 1, 1) := by decide +kernel
theorem dX8_learnTables_49 : decode cX8_learnTables 49 = .ok (.iload_n 1, 1) := by decide +kernel
theorem dX8_learnTables_50 : decode cX8_learnTables 50 = .ok (.aload_n 0, 1) := by decide +kernel
theorem dX8_learnTables_51 : decode cX8_learnTables 51 = .ok (.getfield 82, 3) := by decide +kernel
theorem dX8_learnTables_54 : decode cX8_learnTables 54 = .ok (.if_icmp .ge 58, 3) := by decide +kernel
theorem dX8_learnTables_57 : decode cX8_learnTables 57 = .ok (.iload_n 1, 1) := by decide +kernel
theorem dX8_learnTables_58 : decode cX8_learnTables 58 = .ok (.iconst 1, 1) := by decide +kernel
theorem dX8_learnTables_59 : decode cX8_learnTables 59 = .ok (.iadd, 1) := by decide +kernel
theorem dX8_learnTables_60 : decode cX8_learnTables 60 = .ok (.istore_n 2, 1) := by decide +kernel
theorem dX8_learnTables_61 : decode cX8_learnTables 61 = .ok (.iload_n 2, 1) := by decide +kernel
theorem dX8_learnTables_62 : decode cX8_learnTables 62 = .ok (.aload_n 0, 1) := by decide +kernel
theorem dX8_learnTables_63 : decode cX8_learnTables 63 = .ok (.getfield 82, 3) := by decide +kernel
theorem dX8_learnTables_66 : decode cX8_learnTables 66 = .ok (.if_icmp .ge 40, 3) := by decide +kernel
theorem dX8_learnTables_69 : decode cX8_learnTables 69 = .ok (.aload_n 0, 1) := by decide +kernel
theorem dX8_learnTables_70 : decode cX8_learnTables 70 = .ok (.getfield 35, 3) := by decide +kernel
theorem dX8_learnTables_73 : decode cX8_learnTables 73 = .ok (.iload_n 1, 1) := by decide +kernel
theorem dX8_learnTables_74 : decode cX8_learnTables 74 = .ok (.iload_n 2, 1) := by decide +kernel
theorem dX8_learnTables_75 : decode cX8_learnTables 75 = .ok (.aload_n 0, 1) := by decide +kernel
theorem dX8_learnTables_76 : decode cX8_learnTables 76 = .ok (.aload_n 0, 1) := by decide +kernel
theorem dX8_learnTables_77 : decode cX8_learnTables 77 = .ok (.getfield 35, 3) := by decide +kernel
theorem dX8_learnTables_80 : decode cX8_learnTables 80 = .ok (.getfield 109, 3) := by decide +kernel
theorem dX8_learnTables_83 : decode cX8_learnTables 83 = .ok (.iload_n 1, 1) := by decide +kernel
theorem dX8_learnTables_84 : decode cX8_learnTables 84 = .ok (.aaload, 1) := by decide +kernel
theorem dX8_learnTables_85 : decode cX8_learnTables 85 = .ok (.aload_n 0, 1) := by decide +kernel
theorem dX8_learnTables_86 : decode cX8_learnTables 86 = .ok (.getfield 35, 3) := by decide +kernel
theorem dX8_learnTables_89 : decode cX8_learnTables 89 = .ok (.getfield 109, 3) := by decide +kernel
theorem dX8_learnTables_92 : decode cX8_learnTables 92 = .ok (.iload_n 2, 1) := by decide +kernel
theorem dX8_learnTables_93 : decode cX8_learnTables 93 = .ok (.aaload, 1) := by decide +kernel
theorem dX8_learnTables_94 : decode cX8_learnTables 94 = .ok (.invokevirtual 197, 3) := by decide +kernel
theorem dX8_learnTables_97 : decode cX8_learnTables 97 = .ok (.invokevirtual 201, 3) := by decide +kernel
theorem dX8_learnTables_100 : decode cX8_learnTables 100 = .ok (.iinc 2 1, 3) := by decide +kernel
theorem dX8_learnTables_103 : decode cX8_learnTables 103 = .ok (.goto (-42), 3) := by decide +kernel
theorem dX8_learnTables_106 : decode cX8_learnTables 106 = .ok (.iinc 1 1, 3) := by decide +kernel
theorem dX8_learnTables_109 : decode cX8_learnTables 109 = .ok (.goto (-60), 3) := by decide +kernel
theorem dX8_learnTables_112 : decode cX8_learnTables 112 = .ok (.aload_n 0, 1) := by decide +kernel
theorem dX8_learnTables_113 : decode cX8_learnTables 113 = .ok (.getfield 45, 3) := by decide +kernel
theorem dX8_learnTables_116 : decode cX8_learnTables 116 = .ok (.aload_n 0, 1) := by decide +kernel
theorem dX8_learnTables_117 : decode cX8_learnTables 117 = .ok (.getfield 35, 3) := by decide +kernel
theorem dX8_learnTables_120 : decode cX8_learnTables 120 = .ok (.getfield 136, 3) := by decide +kernel
theorem dX8_learnTables_123 : decode cX8_learnTables 123 = .ok (.aload_n 0, 1) := by decide +kernel
theorem dX8_learnTables_124 : decode cX8_learnTables 124 = .ok (.getfield 82, 3) := by decide +kernel
theorem dX8_learnTables_127 : decode cX8_learnTables 127 = .ok (.invokevirtual 204, 3) := by decide +kernel
theorem dX8_learnTables_130 : decode cX8_learnTables 130 = .ok (.aload_n 0, 1) := by decide +kernel
theorem dX8_learnTables_131 : decode cX8_learnTables 131 = .ok (.iconst 1, 1) := by decide +kernel
theorem dX8_learnTables_132 : decode cX8_learnTables 132 = .ok (.putfield 186, 3) := by decide +kernel
theorem dX8_learnTables_135 : decode cX8_learnTables 135 = .ok (.return_, 1) := by decide +kernel
theorem dX8_learnMix_0 : decode cX8_learnMix 0 = .ok (.aload_n 0, 1) := by decide +kernel
theorem dX8_learnMix_1 : decode cX8_learnMix 1 = .ok (.invokevirtual 106, 3) := by decide +kernel
theorem dX8_learnMix_4 : decode cX8_learnMix 4 = .ok (.aload_n 0, 1) := by decide +kernel
theorem dX8_learnMix_5 : decode cX8_learnMix 5 = .ok (.getfield 190, 3) := by decide +kernel
theorem dX8_learnMix_8 : decode cX8_learnMix 8 = .ok (.ifCond .ne 29, 3) := by decide +kernel
theorem dX8_learnMix_11 : decode cX8_learnMix 11 = .ok (.aload_n 0, 1) := by decide +kernel
theorem dX8_learnMix_12 : decode cX8_learnMix 12 = .ok (.getfield 35, 3) := by decide +kernel
theorem dX8_learnMix_15 : decode cX8_learnMix 15 = .ok (.getfield 150, 3) := by decide +kernel
theorem dX8_learnMix_18 : decode cX8_learnMix 18 = .ok (.aload_n 0, 1) := by decide +kernel
theorem dX8_learnMix_19 : decode cX8_learnMix 19 = .ok (.getfield 35, 3) := by decide +kernel
theorem dX8_learnMix_22 : decode cX8_learnMix 22 = .ok (.getfield 136, 3) := by decide +kernel
theorem dX8_learnMix_25 : decode cX8_learnMix 25 = .ok (.aload_n 0, 1) := by decide +kernel
theorem dX8_learnMix_26 : decode cX8_learnMix 26 = .ok (.getfield 82, 3) := by decide +kernel
theorem dX8_learnMix_29 : decode cX8_learnMix 29 = .ok (.invokevirtual 208, 3) := by decide +kernel
theorem dX8_learnMix_32 : decode cX8_learnMix 32 = .ok (.aload_n 0, 1) := by decide +kernel
theorem dX8_learnMix_33 : decode cX8_learnMix 33 = .ok (.iconst 1, 1) := by decide +kernel
theorem dX8_learnMix_34 : decode cX8_learnMix 34 = .ok (.putfield 190, 3) := by decide +kernel
theorem dX8_learnMix_37 : decode cX8_learnMix 37 = .ok (.return_, 1) := by decide +kernel
theorem dX8_tableOf_0 : decode cX8_tableOf 0 = .ok (.aload_n 0, 1) := by decide +kernel
theorem dX8_tableOf_1 : decode cX8_tableOf 1 = .ok (.getfield 28, 3) := by decide +kernel
theorem dX8_tableOf_4 : decode cX8_tableOf 4 = .ok (.aload_n 1, 1) := by decide +kernel
theorem dX8_tableOf_5 : decode cX8_tableOf 5 = .ok (.aload_n 2, 1) := by decide +kernel
theorem dX8_tableOf_6 : decode cX8_tableOf 6 = .ok (.aload_n 0, 1) := by decide +kernel
theorem dX8_tableOf_7 : decode cX8_tableOf 7 = .ok (.getfield 60, 3) := by decide +kernel
theorem dX8_tableOf_10 : decode cX8_tableOf 10 = .ok (.invokevirtual 113, 3) := by decide +kernel
theorem dX8_tableOf_13 : decode cX8_tableOf 13 = .ok (.aload_n 0, 1) := by decide +kernel
theorem dX8_tableOf_14 : decode cX8_tableOf 14 = .ok (.getfield 28, 3) := by decide +kernel
theorem dX8_tableOf_17 : decode cX8_tableOf 17 = .ok (.aload_n 2, 1) := by decide +kernel
theorem dX8_tableOf_18 : decode cX8_tableOf 18 = .ok (.aload_n 1, 1) := by decide +kernel
theorem dX8_tableOf_19 : decode cX8_tableOf 19 = .ok (.aload_n 0, 1) := by decide +kernel
theorem dX8_tableOf_20 : decode cX8_tableOf 20 = .ok (.getfield 60, 3) := by decide +kernel
theorem dX8_tableOf_23 : decode cX8_tableOf 23 = .ok (.invokevirtual 113, 3) := by decide +kernel
theorem dX8_tableOf_26 : decode cX8_tableOf 26 = .ok (.isub, 1) := by decide +kernel
theorem dX8_tableOf_27 : decode cX8_tableOf 27 = .ok (.ireturn, 1) := by decide +kernel
theorem dX8_learnTablesWithout_0 : decode cX8_learnTablesWithout 0 = .ok (.aload_n 0, 1) := by decide +kernel
theorem dX8_learnTablesWithout_1 : decode cX8_learnTablesWithout 1 = .ok (.getfield 52, 3) := by decide +kernel
theorem dX8_learnTablesWithout_4 : decode cX8_learnTablesWithout 4 = .ok (.aload_n 0, 1) := by decide +kernel
theorem dX8_learnTablesWithout_5 : decode cX8_learnTablesWithout 5 = .ok (.getfield 10, 3) := by decide +kernel
theorem dX8_learnTablesWithout_8 : decode cX8_learnTablesWithout 8 = .ok (.aload_n 0, 1) := by decide +kernel
theorem dX8_learnTablesWithout_9 : decode cX8_learnTablesWithout 9 = .ok (.getfield 18, 3) := by decide +kernel
theorem dX8_learnTablesWithout_12 : decode cX8_learnTablesWithout 12 = .ok (.iload_n 1, 1) := by decide +kernel
theorem dX8_learnTablesWithout_13 : decode cX8_learnTablesWithout 13 = .ok (.aaload, 1) := by decide +kernel
theorem dX8_learnTablesWithout_14 : decode cX8_learnTablesWithout 14 = .ok (.aload_n 0, 1) := by decide +kernel
theorem dX8_learnTablesWithout_15 : decode cX8_learnTablesWithout 15 = .ok (.getfield 18, 3) := by decide +kernel
theorem dX8_learnTablesWithout_18 : decode cX8_learnTablesWithout 18 = .ok (.iload_n 1, 1) := by decide +kernel
theorem dX8_learnTablesWithout_19 : decode cX8_learnTablesWithout 19 = .ok (.aaload, 1) := by decide +kernel
theorem dX8_learnTablesWithout_20 : decode cX8_learnTablesWithout 20 = .ok (.iload_n 2, 1) := by decide +kernel
theorem dX8_learnTablesWithout_21 : decode cX8_learnTablesWithout 21 = .ok (.invokevirtual 170, 3) := by decide +kernel
theorem dX8_learnTablesWithout_24 : decode cX8_learnTablesWithout 24 = .ok (.invokevirtual 193, 3) := by decide +kernel
theorem dX8_learnTablesWithout_27 : decode cX8_learnTablesWithout 27 = .ok (.iconst 0, 1) := by decide +kernel
theorem dX8_learnTablesWithout_28 : decode cX8_learnTablesWithout 28 = .ok (.istore_n 3, 1) := by decide +kernel
theorem dX8_learnTablesWithout_29 : decode cX8_learnTablesWithout 29 = .ok (.iload_n 3, 1) := by decide +kernel
theorem dX8_learnTablesWithout_30 : decode cX8_learnTablesWithout 30 = .ok (.aload_n 0, 1) := by decide +kernel
theorem dX8_learnTablesWithout_31 : decode cX8_learnTablesWithout 31 = .ok (.getfield 82, 3) := by decide +kernel
theorem dX8_learnTablesWithout_34 : decode cX8_learnTablesWithout 34 = .ok (.if_icmp .ge 41, 3) := by decide +kernel
theorem dX8_learnTablesWithout_37 : decode cX8_learnTablesWithout 37 = .ok (.aload_n 0, 1) := by decide +kernel
theorem dX8_learnTablesWithout_38 : decode cX8_learnTablesWithout 38 = .ok (.getfield 56, 3) := by decide +kernel
theorem dX8_learnTablesWithout_41 : decode cX8_learnTablesWithout 41 = .ok (.iload_n 3, 1) := by decide +kernel
theorem dX8_learnTablesWithout_42 : decode cX8_learnTablesWithout 42 = .ok (.iload_n 3, 1) := by decide +kernel
theorem dX8_learnTablesWithout_43 : decode cX8_learnTablesWithout 43 = .ok (.iload_n 1, 1) := by decide +kernel
theorem dX8_learnTablesWithout_44 : decode cX8_learnTablesWithout 44 = .ok (.if_icmp .ne 7, 3) := by decide +kernel
theorem dX8_learnTablesWithout_47 : decode cX8_learnTablesWithout 47 = .ok (.iconst 0, 1) := by decide +kernel
theorem dX8_learnTablesWithout_48 : decode cX8_learnTablesWithout 48 = .ok (.goto 20, 3) := by decide +kernel
theorem dX8_learnTablesWithout_51 : decode cX8_learnTablesWithout 51 = .ok (.aload_n 0, 1) := by decide +kernel
theorem dX8_learnTablesWithout_52 : decode cX8_learnTablesWithout 52 = .ok (.aload_n 0, 1) := by decide +kernel
theorem dX8_learnTablesWithout_53 : decode cX8_learnTablesWithout 53 = .ok (.getfield 52, 3) := by decide +kernel
theorem dX8_learnTablesWithout_56 : decode cX8_learnTablesWithout 56 = .ok (.aload_n 0, 1) := by decide +kernel
theorem dX8_learnTablesWithout_57 : decode cX8_learnTablesWithout 57 = .ok (.getfield 35, 3) := by decide +kernel
theorem dX8_learnTablesWithout_60 : decode cX8_learnTablesWithout 60 = .ok (.getfield 109, 3) := by decide +kernel
theorem dX8_learnTablesWithout_63 : decode cX8_learnTablesWithout 63 = .ok (.iload_n 3, 1) := by decide +kernel
theorem dX8_learnTablesWithout_64 : decode cX8_learnTablesWithout 64 = .ok (.aaload, 1) := by decide +kernel
theorem dX8_learnTablesWithout_65 : decode cX8_learnTablesWithout 65 = .ok (.invokevirtual 197, 3) := by decide +kernel
theorem dX8_learnTablesWithout_68 : decode cX8_learnTablesWithout 68 = .ok (.iastore, 1) := by decide +kernel
theorem dX8_learnTablesWithout_69 : decode cX8_learnTablesWithout 69 = .ok (.iinc 3 1, 3) := by decide +kernel
theorem dX8_learnTablesWithout_72 : decode cX8_learnTablesWithout 72 = .ok (.goto (-43), 3) := by decide +kernel
theorem dX8_learnTablesWithout_75 : decode cX8_learnTablesWithout 75 = .ok (.return_, 1) := by decide +kernel
theorem dX8_isMixWithin_0 : decode cX8_isMixWithin 0 = .ok (.aload_n 0, 1) := by decide +kernel
theorem dX8_isMixWithin_1 : decode cX8_isMixWithin 1 = .ok (.getfield 10, 3) := by decide +kernel
theorem dX8_isMixWithin_4 : decode cX8_isMixWithin 4 = .ok (.getfield 76, 3) := by decide +kernel
theorem dX8_isMixWithin_7 : decode cX8_isMixWithin 7 = .ok (.iload_n 3, 1) := by decide +kernel
theorem dX8_isMixWithin_8 : decode cX8_isMixWithin 8 = .ok (.iaload, 1) := by decide +kernel
theorem dX8_isMixWithin_9 : decode cX8_isMixWithin 9 = .ok (.istore 5, 2) := by decide +kernel
theorem dX8_isMixWithin_11 : decode cX8_isMixWithin 11 = .ok (.aload_n 0, 1) := by decide +kernel
theorem dX8_isMixWithin_12 : decode cX8_isMixWithin 12 = .ok (.getfield 10, 3) := by decide +kernel
theorem dX8_isMixWithin_15 : decode cX8_isMixWithin 15 = .ok (.getfield 76, 3) := by decide +kernel
theorem dX8_isMixWithin_18 : decode cX8_isMixWithin 18 = .ok (.iload_n 3, 1) := by decide +kernel
theorem dX8_isMixWithin_19 : decode cX8_isMixWithin 19 = .ok (.iload 4, 2) := by decide +kernel
theorem dX8_isMixWithin_21 : decode cX8_isMixWithin 21 = .ok (.iastore, 1) := by decide +kernel
theorem dX8_isMixWithin_22 : decode cX8_isMixWithin 22 = .ok (.aload_n 0, 1) := by decide +kernel
theorem dX8_isMixWithin_23 : decode cX8_isMixWithin 23 = .ok (.iload_n 3, 1) := by decide +kernel
theorem dX8_isMixWithin_24 : decode cX8_isMixWithin 24 = .ok (.invokevirtual 209, 3) := by decide +kernel
theorem dX8_isMixWithin_27 : decode cX8_isMixWithin 27 = .ok (.aload_n 0, 1) := by decide +kernel
theorem dX8_isMixWithin_28 : decode cX8_isMixWithin 28 = .ok (.getfield 10, 3) := by decide +kernel
theorem dX8_isMixWithin_31 : decode cX8_isMixWithin 31 = .ok (.getfield 76, 3) := by decide +kernel
theorem dX8_isMixWithin_34 : decode cX8_isMixWithin 34 = .ok (.iload_n 3, 1) := by decide +kernel
theorem dX8_isMixWithin_35 : decode cX8_isMixWithin 35 = .ok (.iload 5, 2) := by decide +kernel
theorem dX8_isMixWithin_37 : decode cX8_isMixWithin 37 = .ok (.iastore, 1) := by decide +kernel
theorem dX8_isMixWithin_38 : decode cX8_isMixWithin 38 = .ok (.aload_n 0, 1) := by decide +kernel
theorem dX8_isMixWithin_39 : decode cX8_isMixWithin 39 = .ok (.getfield 39, 3) := by decide +kernel
theorem dX8_isMixWithin_42 : decode cX8_isMixWithin 42 = .ok (.aload_n 0, 1) := by decide +kernel
theorem dX8_isMixWithin_43 : decode cX8_isMixWithin 43 = .ok (.getfield 35, 3) := by decide +kernel
theorem dX8_isMixWithin_46 : decode cX8_isMixWithin 46 = .ok (.aload_n 0, 1) := by decide +kernel
theorem dX8_isMixWithin_47 : decode cX8_isMixWithin 47 = .ok (.getfield 82, 3) := by decide +kernel
theorem dX8_isMixWithin_50 : decode cX8_isMixWithin 50 = .ok (.invokevirtual 213, 3) := by decide +kernel
theorem dX8_isMixWithin_53 : decode cX8_isMixWithin 53 = .ok (.ifCond .eq 16, 3) := by decide +kernel
theorem dX8_isMixWithin_56 : decode cX8_isMixWithin 56 = .ok (.aload_n 0, 1) := by decide +kernel
theorem dX8_isMixWithin_57 : decode cX8_isMixWithin 57 = .ok (.getfield 35, 3) := by decide +kernel
theorem dX8_isMixWithin_60 : decode cX8_isMixWithin 60 = .ok (.getfield 150, 3) := by decide +kernel
theorem dX8_isMixWithin_63 : decode cX8_isMixWithin 63 = .ok (.iload_n 1, 1) := by decide +kernel
theorem dX8_isMixWithin_64 : decode cX8_isMixWithin 64 = .ok (.iload_n 2, 1) := by decide +kernel
theorem dX8_isMixWithin_65 : decode cX8_isMixWithin 65 = .ok (.invokevirtual 217, 3) := by decide +kernel
theorem dX8_isMixWithin_68 : decode cX8_isMixWithin 68 = .ok (.ireturn, 1) := by decide +kernel
theorem dX8_isMixWithin_69 : decode cX8_isMixWithin 69 = .ok (.aload_n 0, 1) := by decide +kernel
theorem dX8_isMixWithin_70 : decode cX8_isMixWithin 70 = .ok (.getfield 39, 3) := by decide +kernel
theorem dX8_isMixWithin_73 : decode cX8_isMixWithin 73 = .ok (.getfield 150, 3) := by decide +kernel
theorem dX8_isMixWithin_76 : decode cX8_isMixWithin 76 = .ok (.aload_n 0, 1) := by decide +kernel
theorem dX8_isMixWithin_77 : decode cX8_isMixWithin 77 = .ok (.getfield 39, 3) := by decide +kernel
theorem dX8_isMixWithin_80 : decode cX8_isMixWithin 80 = .ok (.getfield 136, 3) := by decide +kernel
theorem dX8_isMixWithin_83 : decode cX8_isMixWithin 83 = .ok (.aload_n 0, 1) := by decide +kernel
theorem dX8_isMixWithin_84 : decode cX8_isMixWithin 84 = .ok (.getfield 82, 3) := by decide +kernel
theorem dX8_isMixWithin_87 : decode cX8_isMixWithin 87 = .ok (.invokevirtual 208, 3) := by decide +kernel
theorem dX8_isMixWithin_90 : decode cX8_isMixWithin 90 = .ok (.aload_n 0, 1) := by decide +kernel
theorem dX8_isMixWithin_91 : decode cX8_isMixWithin 91 = .ok (.getfield 39, 3) := by decide +kernel
theorem dX8_isMixWithin_94 : decode cX8_isMixWithin 94 = .ok (.getfield 150, 3) := by decide +kernel
theorem dX8_isMixWithin_97 : decode cX8_isMixWithin 97 = .ok (.iload_n 1, 1) := by decide +kernel
theorem dX8_isMixWithin_98 : decode cX8_isMixWithin 98 = .ok (.iload_n 2, 1) := by decide +kernel
theorem dX8_isMixWithin_99 : decode cX8_isMixWithin 99 = .ok (.invokevirtual 217, 3) := by decide +kernel
theorem dX8_isMixWithin_102 : decode cX8_isMixWithin 102 = .ok (.ireturn, 1) := by decide +kernel
theorem dX8_learnTrialTables_0 : decode cX8_learnTrialTables 0 = .ok (.iconst 0, 1) := by decide +kernel
theorem dX8_learnTrialTables_1 : decode cX8_learnTrialTables 1 = .ok (.istore_n 2, 1) := by decide +kernel
theorem dX8_learnTrialTables_2 : decode cX8_learnTrialTables 2 = .ok (.iload_n 2, 1) := by decide +kernel
theorem dX8_learnTrialTables_3 : decode cX8_learnTrialTables 3 = .ok (.aload_n 0, 1) := by decide +kernel
theorem dX8_learnTrialTables_4 : decode cX8_learnTrialTables 4 = .ok (.getfield 82, 3) := by decide +kernel
theorem dX8_learnTrialTables_7 : decode cX8_learnTrialTables 7 = .ok (.if_icmp .ge 41, 3) := by decide +kernel
theorem dX8_learnTrialTables_10 : decode cX8_learnTrialTables 10 = .ok (.aload_n 0, 1) := by decide +kernel
theorem dX8_learnTrialTables_11 : decode cX8_learnTrialTables 11 = .ok (.iload_n 2, 1) := by decide +kernel
theorem dX8_learnTrialTables_12 : decode cX8_learnTrialTables 12 = .ok (.iload_n 1, 1) := by decide +kernel
theorem dX8_learnTrialTables_13 : decode cX8_learnTrialTables 13 = .ok (.invokevirtual 220, 3) := by decide +kernel
theorem dX8_learnTrialTables_16 : decode cX8_learnTrialTables 16 = .ok (.ifCond .eq 26, 3) := by decide +kernel
theorem dX8_learnTrialTables_19 : decode cX8_learnTrialTables 19 = .ok (.aload_n 0, 1) := by decide +kernel
theorem dX8_learnTrialTables_20 : decode cX8_learnTrialTables 20 = .ok (.getfield 39, 3) := by decide +kernel
theorem dX8_learnTrialTables_23 : decode cX8_learnTrialTables 23 = .ok (.getfield 109, 3) := by decide +kernel
theorem dX8_learnTrialTables_26 : decode cX8_learnTrialTables 26 = .ok (.iload_n 2, 1) := by decide +kernel
theorem dX8_learnTrialTables_27 : decode cX8_learnTrialTables 27 = .ok (.aaload, 1) := by decide +kernel
theorem dX8_learnTrialTables_28 : decode cX8_learnTrialTables 28 = .ok (.aload_n 0, 1) := by decide +kernel
theorem dX8_learnTrialTables_29 : decode cX8_learnTrialTables 29 = .ok (.getfield 10, 3) := by decide +kernel
theorem dX8_learnTrialTables_32 : decode cX8_learnTrialTables 32 = .ok (.aload_n 0, 1) := by decide +kernel
theorem dX8_learnTrialTables_33 : decode cX8_learnTrialTables 33 = .ok (.getfield 18, 3) := by decide +kernel
theorem dX8_learnTrialTables_36 : decode cX8_learnTrialTables 36 = .ok (.iload_n 2, 1) := by decide +kernel
theorem dX8_learnTrialTables_37 : decode cX8_learnTrialTables 37 = .ok (.aaload, 1) := by decide +kernel
theorem dX8_learnTrialTables_38 : decode cX8_learnTrialTables 38 = .ok (.iconst (-1), 1) := by decide +kernel
theorem dX8_learnTrialTables_39 : decode cX8_learnTrialTables 39 = .ok (.invokevirtual 193, 3) := by decide +kernel
theorem dX8_learnTrialTables_42 : decode cX8_learnTrialTables 42 = .ok (.iinc 2 1, 3) := by decide +kernel
theorem dX8_learnTrialTables_45 : decode cX8_learnTrialTables 45 = .ok (.goto (-43), 3) := by decide +kernel
theorem dX8_learnTrialTables_48 : decode cX8_learnTrialTables 48 = .ok (.iconst 0, 1) := by decide +kernel
theorem dX8_learnTrialTables_49 : decode cX8_learnTrialTables 49 = .ok (.istore_n 2, 1) := by decide +kernel
theorem dX8_learnTrialTables_50 : decode cX8_learnTrialTables 50 = .ok (.iload_n 2, 1) := by decide +kernel
theorem dX8_learnTrialTables_51 : decode cX8_learnTrialTables 51 = .ok (.aload_n 0, 1) := by decide +kernel
theorem dX8_learnTrialTables_52 : decode cX8_learnTrialTables 52 = .ok (.getfield 82, 3) := by decide +kernel
theorem dX8_learnTrialTables_55 : decode cX8_learnTrialTables 55 = .ok (.if_icmp .ge 96, 3) := by decide +kernel
theorem dX8_learnTrialTables_58 : decode cX8_learnTrialTables 58 = .ok (.iload_n 2, 1) := by decide +kernel
theorem dX8_learnTrialTables_59 : decode cX8_learnTrialTables 59 = .ok (.iconst 1, 1) := by decide +kernel
theorem dX8_learnTrialTables_60 : decode cX8_learnTrialTables 60 = .ok (.iadd, 1) := by decide +kernel
theorem dX8_learnTrialTables_61 : decode cX8_learnTrialTables 61 = .ok (.istore_n 3, 1) := by decide +kernel
theorem dX8_learnTrialTables_62 : decode cX8_learnTrialTables 62 = .ok (.iload_n 3, 1) := by decide +kernel
theorem dX8_learnTrialTables_63 : decode cX8_learnTrialTables 63 = .ok (.aload_n 0, 1) := by decide +kernel
theorem dX8_learnTrialTables_64 : decode cX8_learnTrialTables 64 = .ok (.getfield 82, 3) := by decide +kernel
theorem dX8_learnTrialTables_67 : decode cX8_learnTrialTables 67 = .ok (.if_icmp .ge 78, 3) := by decide +kernel
theorem dX8_learnTrialTables_70 : decode cX8_learnTrialTables 70 = .ok (.aload_n 0, 1) := by decide +kernel
theorem dX8_learnTrialTables_71 : decode cX8_learnTrialTables 71 = .ok (.iload_n 2, 1) := by decide +kernel
theorem dX8_learnTrialTables_72 : decode cX8_learnTrialTables 72 = .ok (.iload_n 1, 1) := by decide +kernel
theorem dX8_learnTrialTables_73 : decode cX8_learnTrialTables 73 = .ok (.invokevirtual 220, 3) := by decide +kernel
theorem dX8_learnTrialTables_76 : decode cX8_learnTrialTables 76 = .ok (.ifCond .ne 12, 3) := by decide +kernel
theorem dX8_learnTrialTables_79 : decode cX8_learnTrialTables 79 = .ok (.aload_n 0, 1) := by decide +kernel
theorem dX8_learnTrialTables_80 : decode cX8_learnTrialTables 80 = .ok (.iload_n 3, 1) := by decide +kernel
theorem dX8_learnTrialTables_81 : decode cX8_learnTrialTables 81 = .ok (.iload_n 1, 1) := by decide +kernel
theorem dX8_learnTrialTables_82 : decode cX8_learnTrialTables 82 = .ok (.invokevirtual 220, 3) := by decide +kernel
theorem dX8_learnTrialTables_85 : decode cX8_learnTrialTables 85 = .ok (.ifCond .eq 7, 3) := by decide +kernel
theorem dX8_learnTrialTables_88 : decode cX8_learnTrialTables 88 = .ok (.iconst 1, 1) := by decide +kernel
theorem dX8_learnTrialTables_89 : decode cX8_learnTrialTables 89 = .ok (.goto 4, 3) := by decide +kernel
theorem dX8_learnTrialTables_92 : decode cX8_learnTrialTables 92 = .ok (.iconst 0, 1) := by decide +kernel
theorem dX8_learnTrialTables_93 : decode cX8_learnTrialTables 93 = .ok (.istore 4, 2) := by decide +kernel
theorem dX8_learnTrialTables_95 : decode cX8_learnTrialTables 95 = .ok (.aload_n 0, 1) := by decide +kernel
theorem dX8_learnTrialTables_96 : decode cX8_learnTrialTables 96 = .ok (.getfield 39, 3) := by decide +kernel
theorem dX8_learnTrialTables_99 : decode cX8_learnTrialTables 99 = .ok (.iload_n 2, 1) := by decide +kernel
theorem dX8_learnTrialTables_100 : decode cX8_learnTrialTables 100 = .ok (.iload_n 3, 1) := by decide +kernel
theorem dX8_learnTrialTables_101 : decode cX8_learnTrialTables 101 = .ok (.iload 4, 2) := by decide +kernel
theorem dX8_learnTrialTables_103 : decode cX8_learnTrialTables 103 = .ok (.ifCond .eq 22, 3) := by decide +kernel
theorem dX8_learnTrialTables_106 : decode cX8_learnTrialTables 106 = .ok (.aload_n 0, 1) := by decide +kernel
theorem dX8_learnTrialTables_107 : decode cX8_learnTrialTables 107 = .ok (.aload_n 0, 1) := by decide +kernel
theorem dX8_learnTrialTables_108 : decode cX8_learnTrialTables 108 = .ok (.iload_n 2, 1) := by decide +kernel
theorem dX8_learnTrialTables_109 : decode cX8_learnTrialTables 109 = .ok (.iload_n 1, 1) := by decide +kernel
theorem dX8_learnTrialTables_110 : decode cX8_learnTrialTables 110 = .ok (.invokevirtual 223, 3) := by decide +kernel
theorem dX8_learnTrialTables_113 : decode cX8_learnTrialTables 113 = .ok (.aload_n 0, 1) := by decide +kernel
theorem dX8_learnTrialTables_114 : decode cX8_learnTrialTables 114 = .ok (.iload_n 3, 1) := by decide +kernel
theorem dX8_learnTrialTables_115 : decode cX8_learnTrialTables 115 = .ok (.iload_n 1, 1) := by decide +kernel
theorem dX8_learnTrialTables_116 : decode cX8_learnTrialTables 116 = .ok (.invokevirtual 223, 3) := by decide +kernel
theorem dX8_learnTrialTables_119 : decode cX8_learnTrialTables 119 = .ok (.invokevirtual 197, 3) := by decide +kernel
theorem dX8_learnTrialTables_122 : decode cX8_learnTrialTables 122 = .ok (.goto 14, 3) := by decide +kernel
theorem dX8_learnTrialTables_125 : decode cX8_learnTrialTables 125 = .ok (.aload_n 0, 1) := by decide +kernel
theorem dX8_learnTrialTables_126 : decode cX8_learnTrialTables 126 = .ok (.getfield 35, 3) := by decide +kernel
theorem dX8_learnTrialTables_129 : decode cX8_learnTrialTables 129 = .ok (.getfield 136, 3) := by decide +kernel
theorem dX8_learnTrialTables_132 : decode cX8_learnTrialTables 132 = .ok (.iload_n 2, 1) := by decide +kernel
theorem dX8_learnTrialTables_133 : decode cX8_learnTrialTables 133 = .ok (.aaload, 1) := by decide +kernel
theorem dX8_learnTrialTables_134 : decode cX8_learnTrialTables 134 = .ok (.iload_n 3, 1) := by decide +kernel
theorem dX8_learnTrialTables_135 : decode cX8_learnTrialTables 135 = .ok (.iaload, 1) := by decide +kernel
theorem dX8_learnTrialTables_136 : decode cX8_learnTrialTables 136 = .ok (.invokevirtual 201, 3) := by decide +kernel
theorem dX8_learnTrialTables_139 : decode cX8_learnTrialTables 139 = .ok (.iinc 3 1, 3) := by decide +kernel
theorem dX8_learnTrialTables_142 : decode cX8_learnTrialTables 142 = .ok (.goto (-80), 3) := by decide +kernel
theorem dX8_learnTrialTables_145 : decode cX8_learnTrialTables 145 = .ok (.iinc 2 1, 3) := by decide +kernel
theorem dX8_learnTrialTables_148 : decode cX8_learnTrialTables 148 = .ok (.goto (-98), 3) := by decide +kernel
theorem dX8_learnTrialTables_151 : decode cX8_learnTrialTables 151 = .ok (.return_, 1) := by decide +kernel
theorem dX8_trialPlan_0 : decode cX8_trialPlan 0 = .ok (.aload_n 0, 1) := by decide +kernel
theorem dX8_trialPlan_1 : decode cX8_trialPlan 1 = .ok (.iload_n 1, 1) := by decide +kernel
theorem dX8_trialPlan_2 : decode cX8_trialPlan 2 = .ok (.iload_n 2, 1) := by decide +kernel
theorem dX8_trialPlan_3 : decode cX8_trialPlan 3 = .ok (.invokevirtual 220, 3) := by decide +kernel
theorem dX8_trialPlan_6 : decode cX8_trialPlan 6 = .ok (.ifCond .eq 15, 3) := by decide +kernel
theorem dX8_trialPlan_9 : decode cX8_trialPlan 9 = .ok (.aload_n 0, 1) := by decide +kernel
theorem dX8_trialPlan_10 : decode cX8_trialPlan 10 = .ok (.getfield 39, 3) := by decide +kernel
theorem dX8_trialPlan_13 : decode cX8_trialPlan 13 = .ok (.getfield 109, 3) := by decide +kernel
theorem dX8_trialPlan_16 : decode cX8_trialPlan 16 = .ok (.iload_n 1, 1) := by decide +kernel
theorem dX8_trialPlan_17 : decode cX8_trialPlan 17 = .ok (.aaload, 1) := by decide +kernel
theorem dX8_trialPlan_18 : decode cX8_trialPlan 18 = .ok (.goto 12, 3) := by decide +kernel
theorem dX8_trialPlan_21 : decode cX8_trialPlan 21 = .ok (.aload_n 0, 1) := by decide +kernel
theorem dX8_trialPlan_22 : decode cX8_trialPlan 22 = .ok (.getfield 35, 3) := by decide +kernel
theorem dX8_trialPlan_25 : decode cX8_trialPlan 25 = .ok (.getfield 109, 3) := by decide +kernel
theorem dX8_trialPlan_28 : decode cX8_trialPlan 28 = .ok (.iload_n 1, 1) := by decide +kernel
theorem dX8_trialPlan_29 : decode cX8_trialPlan 29 = .ok (.aaload, 1) := by decide +kernel
theorem dX8_trialPlan_30 : decode cX8_trialPlan 30 = .ok (.areturn, 1) := by decide +kernel
theorem dX8_hasCard_0 : decode cX8_hasCard 0 = .ok (.aload_n 0, 1) := by decide +kernel
theorem dX8_hasCard_1 : decode cX8_hasCard 1 = .ok (.getfield 18, 3) := by decide +kernel
theorem dX8_hasCard_4 : decode cX8_hasCard 4 = .ok (.iload_n 1, 1) := by decide +kernel
theorem dX8_hasCard_5 : decode cX8_hasCard 5 = .ok (.aaload, 1) := by decide +kernel
theorem dX8_hasCard_6 : decode cX8_hasCard 6 = .ok (.iload_n 2, 1) := by decide +kernel
theorem dX8_hasCard_7 : decode cX8_hasCard 7 = .ok (.invokevirtual 170, 3) := by decide +kernel
theorem dX8_hasCard_10 : decode cX8_hasCard 10 = .ok (.iconst (-1), 1) := by decide +kernel
theorem dX8_hasCard_11 : decode cX8_hasCard 11 = .ok (.if_icmp .eq 7, 3) := by decide +kernel
theorem dX8_hasCard_14 : decode cX8_hasCard 14 = .ok (.iconst 1, 1) := by decide +kernel
theorem dX8_hasCard_15 : decode cX8_hasCard 15 = .ok (.goto 4, 3) := by decide +kernel
theorem dX8_hasCard_18 : decode cX8_hasCard 18 = .ok (.iconst 0, 1) := by decide +kernel
theorem dX8_hasCard_19 : decode cX8_hasCard 19 = .ok (.ireturn, 1) := by decide +kernel
