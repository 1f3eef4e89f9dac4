theorem dX9_init_0 : decode cX9_init 0 = .ok (.aload_n 0, 1) := by decide +kernel
theorem dX9_init_1 : decode cX9_init 1 = .ok (.invokespecial 1, 3) := by decide +kernel
theorem dX9_init_4 : decode cX9_init 4 = .ok (.aload_n 0, 1) := by decide +kernel
theorem dX9_init_5 : decode cX9_init 5 = .ok (.bipush 12, 2) := by decide +kernel
theorem dX9_init_7 : decode cX9_init 7 = .ok (.newarray .int, 2) := by decide +kernel
theorem dX9_init_9 : decode cX9_init 9 = .ok (.putfield 7, 3) := by decide +kernel
theorem dX9_init_12 : decode cX9_init 12 = .ok (.aload_n 0, 1) := by decide +kernel
theorem dX9_init_13 : decode cX9_init 13 = .ok (.bipush 12, 2) := by decide +kernel
theorem dX9_init_15 : decode cX9_init 15 = .ok (.newarray .int, 2) := by decide +kernel
theorem dX9_init_17 : decode cX9_init 17 = .ok (.putfield 13, 3) := by decide +kernel
theorem dX9_init_20 : decode cX9_init 20 = .ok (.aload_n 0, 1) := by decide +kernel
theorem dX9_init_21 : decode cX9_init 21 = .ok (.bipush 12, 2) := by decide +kernel
theorem dX9_init_23 : decode cX9_init 23 = .ok (.newarray .int, 2) := by decide +kernel
theorem dX9_init_25 : decode cX9_init 25 = .ok (.putfield 16, 3) := by decide +kernel
theorem dX9_init_28 : decode cX9_init 28 = .ok (.aload_n 0, 1) := by decide +kernel
theorem dX9_init_29 : decode cX9_init 29 = .ok (.iconst 5, 1) := by decide +kernel
theorem dX9_init_30 : decode cX9_init 30 = .ok (.newarray .int, 2) := by decide +kernel
theorem dX9_init_32 : decode cX9_init 32 = .ok (.putfield 19, 3) := by decide +kernel
theorem dX9_init_35 : decode cX9_init 35 = .ok (.aload_n 0, 1) := by decide +kernel
theorem dX9_init_36 : decode cX9_init 36 = .ok (.bipush 50, 2) := by decide +kernel
theorem dX9_init_38 : decode cX9_init 38 = .ok (.newarray .int, 2) := by decide +kernel
theorem dX9_init_40 : decode cX9_init 40 = .ok (.putfield 22, 3) := by decide +kernel
theorem dX9_init_43 : decode cX9_init 43 = .ok (.aload_n 0, 1) := by decide +kernel
theorem dX9_init_44 : decode cX9_init 44 = .ok (.bipush 12, 2) := by decide +kernel
theorem dX9_init_46 : decode cX9_init 46 = .ok (.putfield 25, 3) := by decide +kernel
theorem dX9_init_49 : decode cX9_init 49 = .ok (.aload_n 0, 1) := by decide +kernel
theorem dX9_init_50 : decode cX9_init 50 = .ok (.iconst 2, 1) := by decide +kernel
theorem dX9_init_51 : decode cX9_init 51 = .ok (.newarray .int, 2) := by decide +kernel
theorem dX9_init_53 : decode cX9_init 53 = .ok (.putfield 29, 3) := by decide +kernel
theorem dX9_init_56 : decode cX9_init 56 = .ok (.aload_n 0, 1) := by decide +kernel
theorem dX9_init_57 : decode cX9_init 57 = .ok (.iconst 2, 1) := by decide +kernel
theorem dX9_init_58 : decode cX9_init 58 = .ok (.newarray .int, 2) := by decide +kernel
theorem dX9_init_60 : decode cX9_init 60 = .ok (.putfield 32, 3) := by decide +kernel
theorem dX9_init_63 : decode cX9_init 63 = .ok (.aload_n 0, 1) := by decide +kernel
theorem dX9_init_64 : decode cX9_init 64 = .ok (.iconst 2, 1) := by decide +kernel
theorem dX9_init_65 : decode cX9_init 65 = .ok (.newarray .int, 2) := by decide +kernel
theorem dX9_init_67 : decode cX9_init 67 = .ok (.putfield 35, 3) := by decide +kernel
theorem dX9_init_70 : decode cX9_init 70 = .ok (.aload_n 0, 1) := by decide +kernel
theorem dX9_init_71 : decode cX9_init 71 = .ok (.iconst 2, 1) := by decide +kernel
theorem dX9_init_72 : decode cX9_init 72 = .ok (.newarray .int, 2) := by decide +kernel
theorem dX9_init_74 : decode cX9_init 74 = .ok (.putfield 38, 3) := by decide +kernel
theorem dX9_init_77 : decode cX9_init 77 = .ok (.aload_n 0, 1) := by decide +kernel
theorem dX9_init_78 : decode cX9_init 78 = .ok (.iconst 2, 1) := by decide +kernel
theorem dX9_init_79 : decode cX9_init 79 = .ok (.newarray .int, 2) := by decide +kernel
theorem dX9_init_81 : decode cX9_init 81 = .ok (.putfield 41, 3) := by decide +kernel
theorem dX9_init_84 : decode cX9_init 84 = .ok (.aload_n 0, 1) := by decide +kernel
theorem dX9_init_85 : decode cX9_init 85 = .ok (.iconst 2, 1) := by decide +kernel
theorem dX9_init_86 : decode cX9_init 86 = .ok (.newarray .int, 2) := by decide +kernel
theorem dX9_init_88 : decode cX9_init 88 = .ok (.putfield 44, 3) := by decide +kernel
theorem dX9_init_91 : decode cX9_init 91 = .ok (.aload_n 0, 1) := by decide +kernel
theorem dX9_init_92 : decode cX9_init 92 = .ok (.bipush 24, 2) := by decide +kernel
theorem dX9_init_94 : decode cX9_init 94 = .ok (.newarray .int, 2) := by decide +kernel
theorem dX9_init_96 : decode cX9_init 96 = .ok (.putfield 47, 3) := by decide +kernel
theorem dX9_init_99 : decode cX9_init 99 = .ok (.aload_n 0, 1) := by decide +kernel
theorem dX9_init_100 : decode cX9_init 100 = .ok (.bipush 25, 2) := by decide +kernel
theorem dX9_init_102 : decode cX9_init 102 = .ok (.newarray .int, 2) := by decide +kernel
theorem dX9_init_104 : decode cX9_init 104 = .ok (.putfield 50, 3) := by decide +kernel
theorem dX9_init_107 : decode cX9_init 107 = .ok (.aload_n 0, 1) := by decide +kernel
theorem dX9_init_108 : decode cX9_init 108 = .ok (.bipush 30, 2) := by decide +kernel
theorem dX9_init_110 : decode cX9_init 110 = .ok (.newarray .long, 2) := by decide +kernel
theorem dX9_init_112 : decode cX9_init 112 = .ok (.putfield 53, 3) := by decide +kernel
theorem dX9_init_115 : decode cX9_init 115 = .ok (.aload_n 0, 1) := by decide +kernel
theorem dX9_init_116 : decode cX9_init 116 = .ok (.iconst 5, 1) := by decide +kernel
theorem dX9_init_117 : decode cX9_init 117 = .ok (.newarray .long, 2) := by decide +kernel
theorem dX9_init_119 : decode cX9_init 119 = .ok (.putfield 57, 3) := by decide +kernel
theorem dX9_init_122 : decode cX9_init 122 = .ok (.aload_n 0, 1) := by decide +kernel
theorem dX9_init_123 : decode cX9_init 123 = .ok (.iconst 5, 1) := by decide +kernel
theorem dX9_init_124 : decode cX9_init 124 = .ok (.newarray .long, 2) := by decide +kernel
theorem dX9_init_126 : decode cX9_init 126 = .ok (.putfield 60, 3) := by decide +kernel
theorem dX9_init_129 : decode cX9_init 129 = .ok (.aload_n 0, 1) := by decide +kernel
theorem dX9_init_130 : decode cX9_init 130 = .ok (.iconst 5, 1) := by decide +kernel
theorem dX9_init_131 : decode cX9_init 131 = .ok (.newarray .long, 2) := by decide +kernel
theorem dX9_init_133 : decode cX9_init 133 = .ok (.putfield 63, 3) := by decide +kernel
theorem dX9_init_136 : decode cX9_init 136 = .ok (.aload_n 0, 1) := by decide +kernel
theorem dX9_init_137 : decode cX9_init 137 = .ok (.iconst 5, 1) := by decide +kernel
theorem dX9_init_138 : decode cX9_init 138 = .ok (.newarray .long, 2) := by decide +kernel
theorem dX9_init_140 : decode cX9_init 140 = .ok (.putfield 66, 3) := by decide +kernel
theorem dX9_init_143 : decode cX9_init 143 = .ok (.aload_n 0, 1) := by decide +kernel
theorem dX9_init_144 : decode cX9_init 144 = .ok (.iconst 5, 1) := by decide +kernel
theorem dX9_init_145 : decode cX9_init 145 = .ok (.newarray .int, 2) := by decide +kernel
theorem dX9_init_147 : decode cX9_init 147 = .ok (.putfield 69, 3) := by decide +kernel
theorem dX9_init_150 : decode cX9_init 150 = .ok (.return_, 1) := by decide +kernel
theorem dX9_in_0 : decode cX9_in 0 = .ok (.iload_n 0, 1) := by decide +kernel
theorem dX9_in_1 : decode cX9_in 1 = .ok (.iload_n 1, 1) := by decide +kernel
theorem dX9_in_2 : decode cX9_in 2 = .ok (.if_icmp .lt 12, 3) := by decide +kernel
theorem dX9_in_5 : decode cX9_in 5 = .ok (.iload_n 0, 1) := by decide +kernel
theorem dX9_in_6 : decode cX9_in 6 = .ok (.iload_n 2, 1) := by decide +kernel
theorem dX9_in_7 : decode cX9_in 7 = .ok (.if_icmp .gt 7, 3) := by decide +kernel
theorem dX9_in_10 : decode cX9_in 10 = .ok (.iconst 1, 1) := by decide +kernel
theorem dX9_in_11 : decode cX9_in 11 = .ok (.goto 4, 3) := by decide +kernel
theorem dX9_in_14 : decode cX9_in 14 = .ok (.iconst 0, 1) := by decide +kernel
theorem dX9_in_15 : decode cX9_in 15 = .ok (.ireturn, 1) := by decide +kernel
theorem dX9_isCard_0 : decode cX9_isCard 0 = .ok (.iload_n 1, 1) := by decide +kernel
theorem dX9_isCard_1 : decode cX9_isCard 1 = .ok (.iconst 0, 1) := by decide +kernel
theorem dX9_isCard_2 : decode cX9_isCard 2 = .ok (.aload_n 0, 1) := by decide +kernel
theorem dX9_isCard_3 : decode cX9_isCard 3 = .ok (.getfield 72, 3) := by decide +kernel
theorem dX9_isCard_6 : decode cX9_isCard 6 = .ok (.iconst 1, 1) := by decide +kernel
theorem dX9_isCard_7 : decode cX9_isCard 7 = .ok (.isub, 1) := by decide +kernel
theorem dX9_isCard_8 : decode cX9_isCard 8 = .ok (.invokestatic 75, 3) := by decide +kernel
theorem dX9_isCard_11 : decode cX9_isCard 11 = .ok (.ireturn, 1) := by decide +kernel
theorem dX9_isDeck_0 : decode cX9_isDeck 0 = .ok (.iload_n 1, 1) := by decide +kernel
theorem dX9_isDeck_1 : decode cX9_isDeck 1 = .ok (.iconst 0, 1) := by decide +kernel
theorem dX9_isDeck_2 : decode cX9_isDeck 2 = .ok (.aload_n 0, 1) := by decide +kernel
theorem dX9_isDeck_3 : decode cX9_isDeck 3 = .ok (.getfield 79, 3) := by decide +kernel
theorem dX9_isDeck_6 : decode cX9_isDeck 6 = .ok (.iconst 1, 1) := by decide +kernel
theorem dX9_isDeck_7 : decode cX9_isDeck 7 = .ok (.isub, 1) := by decide +kernel
theorem dX9_isDeck_8 : decode cX9_isDeck 8 = .ok (.invokestatic 75, 3) := by decide +kernel
theorem dX9_isDeck_11 : decode cX9_isDeck 11 = .ok (.ireturn, 1) := by decide +kernel
theorem dX9_card_0 : decode cX9_card 0 = .ok (.iload_n 1, 1) := by decide +kernel
theorem dX9_card_1 : decode cX9_card 1 = .ok (.iconst 0, 1) := by decide +kernel
theorem dX9_card_2 : decode cX9_card 2 = .ok (.iconst 2, 1) := by decide +kernel
theorem dX9_card_3 : decode cX9_card 3 = .ok (.invokestatic 75, 3) := by decide +kernel
theorem dX9_card_6 : decode cX9_card 6 = .ok (.ifCond .eq 22, 3) := by decide +kernel
theorem dX9_card_9 : decode cX9_card 9 = .ok (.iload_n 2, 1) := by decide +kernel
theorem dX9_card_10 : decode cX9_card 10 = .ok (.iconst 0, 1) := by decide +kernel
theorem dX9_card_11 : decode cX9_card 11 = .ok (.iconst 5, 1) := by decide +kernel
theorem dX9_card_12 : decode cX9_card 12 = .ok (.invokestatic 75, 3) := by decide +kernel
theorem dX9_card_15 : decode cX9_card 15 = .ok (.ifCond .eq 13, 3) := by decide +kernel
theorem dX9_card_18 : decode cX9_card 18 = .ok (.iload_n 3, 1) := by decide +kernel
theorem dX9_card_19 : decode cX9_card 19 = .ok (.iconst 0, 1) := by decide +kernel
theorem dX9_card_20 : decode cX9_card 20 = .ok (.bipush 9, 2) := by decide +kernel
theorem dX9_card_22 : decode cX9_card 22 = .ok (.invokestatic 75, 3) := by decide +kernel
theorem dX9_card_25 : decode cX9_card 25 = .ok (.ifCond .ne 6, 3) := by decide +kernel
theorem dX9_card_28 : decode cX9_card 28 = .ok (.bipush (-2), 2) := by decide +kernel
theorem dX9_card_30 : decode cX9_card 30 = .ok (.ireturn, 1) := by decide +kernel
theorem dX9_card_31 : decode cX9_card 31 = .ok (.aload_n 0, 1) := by decide +kernel
theorem dX9_card_32 : decode cX9_card 32 = .ok (.getfield 72, 3) := by decide +kernel
theorem dX9_card_35 : decode cX9_card 35 = .ok (.bipush 12, 2) := by decide +kernel
theorem dX9_card_37 : decode cX9_card 37 = .ok (.if_icmp .ne 6, 3) := by decide +kernel
theorem dX9_card_40 : decode cX9_card 40 = .ok (.bipush (-4), 2) := by decide +kernel
theorem dX9_card_42 : decode cX9_card 42 = .ok (.ireturn, 1) := by decide +kernel
theorem dX9_card_43 : decode cX9_card 43 = .ok (.aload_n 0, 1) := by decide +kernel
theorem dX9_card_44 : decode cX9_card 44 = .ok (.getfield 7, 3) := by decide +kernel
theorem dX9_card_47 : decode cX9_card 47 = .ok (.aload_n 0, 1) := by decide +kernel
theorem dX9_card_48 : decode cX9_card 48 = .ok (.getfield 72, 3) := by decide +kernel
theorem dX9_card_51 : decode cX9_card 51 = .ok (.iload_n 1, 1) := by decide +kernel
theorem dX9_card_52 : decode cX9_card 52 = .ok (.iastore, 1) := by decide +kernel
theorem dX9_card_53 : decode cX9_card 53 = .ok (.aload_n 0, 1) := by decide +kernel
theorem dX9_card_54 : decode cX9_card 54 = .ok (.getfield 13, 3) := by decide +kernel
theorem dX9_card_57 : decode cX9_card 57 = .ok (.aload_n 0, 1) := by decide +kernel
theorem dX9_card_58 : decode cX9_card 58 = .ok (.getfield 72, 3) := by decide +kernel
theorem dX9_card_61 : decode cX9_card 61 = .ok (.iload_n 2, 1) := by decide +kernel
theorem dX9_card_62 : decode cX9_card 62 = .ok (.iastore, 1) := by decide +kernel
theorem dX9_card_63 : decode cX9_card 63 = .ok (.aload_n 0, 1) := by decide +kernel
theorem dX9_card_64 : decode cX9_card 64 = .ok (.getfield 16, 3) := by decide +kernel
theorem dX9_card_67 : decode cX9_card 67 = .ok (.aload_n 0, 1) := by decide +kernel
theorem dX9_card_68 : decode cX9_card 68 = .ok (.getfield 72, 3) := by decide +kernel
theorem dX9_card_71 : decode cX9_card 71 = .ok (.iload_n 3, 1) := by decide +kernel
theorem dX9_card_72 : decode cX9_card 72 = .ok (.iastore, 1) := by decide +kernel
theorem dX9_card_73 : decode cX9_card 73 = .ok (.aload_n 0, 1) := by decide +kernel
theorem dX9_card_74 : decode cX9_card 74 = .ok (.dup, 1) := by decide +kernel
theorem dX9_card_75 : decode cX9_card 75 = .ok (.getfield 72, 3) := by decide +kernel
theorem dX9_card_78 : decode cX9_card 78 = .ok (.iconst 1, 1) := by decide +kernel
theorem dX9_card_79 : decode cX9_card 79 = .ok (.iadd, 1) := by decide +kernel
theorem dX9_card_80 : decode cX9_card 80 = .ok (.putfield 72, 3) := by decide +kernel
theorem dX9_card_83 : decode cX9_card 83 = .ok (.aload_n 0, 1) := by decide +kernel
theorem dX9_card_84 : decode cX9_card 84 = .ok (.getfield 72, 3) := by decide +kernel
theorem dX9_card_87 : decode cX9_card 87 = .ok (.iconst 1, 1) := by decide +kernel
theorem dX9_card_88 : decode cX9_card 88 = .ok (.isub, 1) := by decide +kernel
theorem dX9_card_89 : decode cX9_card 89 = .ok (.ireturn, 1) := by decide +kernel
theorem dX9_power_0 : decode cX9_power 0 = .ok (.aload_n 0, 1) := by decide +kernel
theorem dX9_power_1 : decode cX9_power 1 = .ok (.iload_n 1, 1) := by decide +kernel
theorem dX9_power_2 : decode cX9_power 2 = .ok (.invokevirtual 82, 3) := by decide +kernel
theorem dX9_power_5 : decode cX9_power 5 = .ok (.ifCond .eq 13, 3) := by decide +kernel
theorem dX9_power_8 : decode cX9_power 8 = .ok (.iload_n 2, 1) := by decide +kernel
theorem dX9_power_9 : decode cX9_power 9 = .ok (.iconst 0, 1) := by decide +kernel
theorem dX9_power_10 : decode cX9_power 10 = .ok (.bipush 9, 2) := by decide +kernel
theorem dX9_power_12 : decode cX9_power 12 = .ok (.invokestatic 75, 3) := by decide +kernel
theorem dX9_power_15 : decode cX9_power 15 = .ok (.ifCond .ne 6, 3) := by decide +kernel
theorem dX9_power_18 : decode cX9_power 18 = .ok (.bipush (-2), 2) := by decide +kernel
theorem dX9_power_20 : decode cX9_power 20 = .ok (.ireturn, 1) := by decide +kernel
theorem dX9_power_21 : decode cX9_power 21 = .ok (.aload_n 0, 1) := by decide +kernel
theorem dX9_power_22 : decode cX9_power 22 = .ok (.getfield 16, 3) := by decide +kernel
theorem dX9_power_25 : decode cX9_power 25 = .ok (.iload_n 1, 1) := by decide +kernel
theorem dX9_power_26 : decode cX9_power 26 = .ok (.iaload, 1) := by decide +kernel
theorem dX9_power_27 : decode cX9_power 27 = .ok (.istore_n 3, 1) := by decide +kernel
theorem dX9_power_28 : decode cX9_power 28 = .ok (.aload_n 0, 1) := by decide +kernel
theorem dX9_power_29 : decode cX9_power 29 = .ok (.getfield 16, 3) := by decide +kernel
theorem dX9_power_32 : decode cX9_power 32 = .ok (.iload_n 1, 1) := by decide +kernel
theorem dX9_power_33 : decode cX9_power 33 = .ok (.iload_n 2, 1) := by decide +kernel
theorem dX9_power_34 : decode cX9_power 34 = .ok (.iastore, 1) := by decide +kernel
theorem dX9_power_35 : decode cX9_power 35 = .ok (.iload_n 3, 1) := by decide +kernel
theorem dX9_power_36 : decode cX9_power 36 = .ok (.ireturn, 1) := by decide +kernel
theorem dX9_deck_0 : decode cX9_deck 0 = .ok (.aload_n 0, 1) := by decide +kernel
theorem dX9_deck_1 : decode cX9_deck 1 = .ok (.getfield 79, 3) := by decide +kernel
theorem dX9_deck_4 : decode cX9_deck 4 = .ok (.iconst 5, 1) := by decide +kernel
theorem dX9_deck_5 : decode cX9_deck 5 = .ok (.if_icmp .ne 6, 3) := by decide +kernel
theorem dX9_deck_8 : decode cX9_deck 8 = .ok (.bipush (-4), 2) := by decide +kernel
theorem dX9_deck_10 : decode cX9_deck 10 = .ok (.ireturn, 1) := by decide +kernel
theorem dX9_deck_11 : decode cX9_deck 11 = .ok (.aload_n 0, 1) := by decide +kernel
theorem dX9_deck_12 : decode cX9_deck 12 = .ok (.dup, 1) := by decide +kernel
theorem dX9_deck_13 : decode cX9_deck 13 = .ok (.getfield 79, 3) := by decide +kernel
theorem dX9_deck_16 : decode cX9_deck 16 = .ok (.iconst 1, 1) := by decide +kernel
theorem dX9_deck_17 : decode cX9_deck 17 = .ok (.iadd, 1) := by decide +kernel
theorem dX9_deck_18 : decode cX9_deck 18 = .ok (.putfield 79, 3) := by decide +kernel
theorem dX9_deck_21 : decode cX9_deck 21 = .ok (.aload_n 0, 1) := by decide +kernel
theorem dX9_deck_22 : decode cX9_deck 22 = .ok (.getfield 79, 3) := by decide +kernel
theorem dX9_deck_25 : decode cX9_deck 25 = .ok (.iconst 1, 1) := by decide +kernel
theorem dX9_deck_26 : decode cX9_deck 26 = .ok (.isub, 1) := by decide +kernel
theorem dX9_deck_27 : decode cX9_deck 27 = .ok (.ireturn, 1) := by decide +kernel
theorem dX9_add_0 : decode cX9_add 0 = .ok (.aload_n 0, 1) := by decide +kernel
theorem dX9_add_1 : decode cX9_add 1 = .ok (.iload_n 1, 1) := by decide +kernel
theorem dX9_add_2 : decode cX9_add 2 = .ok (.invokevirtual 86, 3) := by decide +kernel
theorem dX9_add_5 : decode cX9_add 5 = .ok (.ifCond .eq 11, 3) := by decide +kernel
theorem dX9_add_8 : decode cX9_add 8 = .ok (.aload_n 0, 1) := by decide +kernel
theorem dX9_add_9 : decode cX9_add 9 = .ok (.iload_n 2, 1) := by decide +kernel
theorem dX9_add_10 : decode cX9_add 10 = .ok (.invokevirtual 82, 3) := by decide +kernel
theorem dX9_add_13 : decode cX9_add 13 = .ok (.ifCond .ne 6, 3) := by decide +kernel
theorem dX9_add_16 : decode cX9_add 16 = .ok (.bipush (-2), 2) := by decide +kernel
theorem dX9_add_18 : decode cX9_add 18 = .ok (.ireturn, 1) := by decide +kernel
theorem dX9_add_19 : decode cX9_add 19 = .ok (.aload_n 0, 1) := by decide +kernel
theorem dX9_add_20 : decode cX9_add 20 = .ok (.getfield 19, 3) := by decide +kernel
theorem dX9_add_23 : decode cX9_add 23 = .ok (.iload_n 1, 1) := by decide +kernel
theorem dX9_add_24 : decode cX9_add 24 = .ok (.iaload, 1) := by decide +kernel
theorem dX9_add_25 : decode cX9_add 25 = .ok (.bipush 10, 2) := by decide +kernel
theorem dX9_add_27 : decode cX9_add 27 = .ok (.if_icmp .ne 6, 3) := by decide +kernel
theorem dX9_add_30 : decode cX9_add 30 = .ok (.bipush (-4), 2) := by decide +kernel
theorem dX9_add_32 : decode cX9_add 32 = .ok (.ireturn, 1) := by decide +kernel
theorem dX9_add_33 : decode cX9_add 33 = .ok (.aload_n 0, 1) := by decide +kernel
theorem dX9_add_34 : decode cX9_add 34 = .ok (.getfield 22, 3) := by decide +kernel
theorem dX9_add_37 : decode cX9_add 37 = .ok (.bipush 10, 2) := by decide +kernel
theorem dX9_add_39 : decode cX9_add 39 = .ok (.iload_n 1, 1) := by decide +kernel
theorem dX9_add_40 : decode cX9_add 40 = .ok (.imul, 1) := by decide +kernel
theorem dX9_add_41 : decode cX9_add 41 = .ok (.aload_n 0, 1) := by decide +kernel
theorem dX9_add_42 : decode cX9_add 42 = .ok (.getfield 19, 3) := by decide +kernel
theorem dX9_add_45 : decode cX9_add 45 = .ok (.iload_n 1, 1) := by decide +kernel
theorem dX9_add_46 : decode cX9_add 46 = .ok (.iaload, 1) := by decide +kernel
theorem dX9_add_47 : decode cX9_add 47 = .ok (.iadd, 1) := by decide +kernel
theorem dX9_add_48 : decode cX9_add 48 = .ok (.iload_n 2, 1) := by decide +kernel
theorem dX9_add_49 : decode cX9_add 49 = .ok (.iastore, 1) := by decide +kernel
theorem dX9_add_50 : decode cX9_add 50 = .ok (.aload_n 0, 1) := by decide +kernel
theorem dX9_add_51 : decode cX9_add 51 = .ok (.getfield 19, 3) := by decide +kernel
theorem dX9_add_54 : decode cX9_add 54 = .ok (.iload_n 1, 1) := by decide +kernel
theorem dX9_add_55 : decode cX9_add 55 = .ok (.dup2, 1) := by decide +kernel
theorem dX9_add_56 : decode cX9_add 56 = .ok (.iaload, 1) := by decide +kernel
theorem dX9_add_57 : decode cX9_add 57 = .ok (.iconst 1, 1) := by decide +kernel
theorem dX9_add_58 : decode cX9_add 58 = .ok (.iadd, 1) := by decide +kernel
theorem dX9_add_59 : decode cX9_add 59 = .ok (.iastore, 1) := by decide +kernel
theorem dX9_add_60 : decode cX9_add 60 = .ok (.aload_n 0, 1) := by decide +kernel
theorem dX9_add_61 : decode cX9_add 61 = .ok (.getfield 19, 3) := by decide +kernel
theorem dX9_add_64 : decode cX9_add 64 = .ok (.iload_n 1, 1) := by decide +kernel
theorem dX9_add_65 : decode cX9_add 65 = .ok (.iaload, 1) := by decide +kernel
theorem dX9_add_66 : decode cX9_add 66 = .ok (.ireturn, 1) := by decide +kernel
theorem dX9_isPlace_0 : decode cX9_isPlace 0 = .ok (.aload_n 0, 1) := by decide +kernel
theorem dX9_isPlace_1 : decode cX9_isPlace 1 = .ok (.iload_n 1, 1) := by decide +kernel
theorem dX9_isPlace_2 : decode cX9_isPlace 2 = .ok (.invokevirtual 86, 3) := by decide +kernel
theorem dX9_isPlace_5 : decode cX9_isPlace 5 = .ok (.ifCond .eq 23, 3) := by decide +kernel
theorem dX9_isPlace_8 : decode cX9_isPlace 8 = .ok (.iload_n 2, 1) := by decide +kernel
theorem dX9_isPlace_9 : decode cX9_isPlace 9 = .ok (.iconst 0, 1) := by decide +kernel
theorem dX9_isPlace_10 : decode cX9_isPlace 10 = .ok (.aload_n 0, 1) := by decide +kernel
theorem dX9_isPlace_11 : decode cX9_isPlace 11 = .ok (.getfield 19, 3) := by decide +kernel
theorem dX9_isPlace_14 : decode cX9_isPlace 14 = .ok (.iload_n 1, 1) := by decide +kernel
theorem dX9_isPlace_15 : decode cX9_isPlace 15 = .ok (.iaload, 1) := by decide +kernel
theorem dX9_isPlace_16 : decode cX9_isPlace 16 = .ok (.iconst 1, 1) := by decide +kernel
theorem dX9_isPlace_17 : decode cX9_isPlace 17 = .ok (.isub, 1) := by decide +kernel
theorem dX9_isPlace_18 : decode cX9_isPlace 18 = .ok (.invokestatic 75, 3) := by decide +kernel
theorem dX9_isPlace_21 : decode cX9_isPlace 21 = .ok (.ifCond .eq 7, 3) := by decide +kernel
theorem dX9_isPlace_24 : decode cX9_isPlace 24 = .ok (.iconst 1, 1) := by decide +kernel
theorem dX9_isPlace_25 : decode cX9_isPlace 25 = .ok (.goto 4, 3) := by decide +kernel
theorem dX9_isPlace_28 : decode cX9_isPlace 28 = .ok (.iconst 0, 1) := by decide +kernel
theorem dX9_isPlace_29 : decode cX9_isPlace 29 = .ok (.ireturn, 1) := by decide +kernel
theorem dX9_dropAt_0 : decode cX9_dropAt 0 = .ok (.aload_n 0, 1) := by decide +kernel
theorem dX9_dropAt_1 : decode cX9_dropAt 1 = .ok (.getfield 19, 3) := by decide +kernel
theorem dX9_dropAt_4 : decode cX9_dropAt 4 = .ok (.iload_n 1, 1) := by decide +kernel
theorem dX9_dropAt_5 : decode cX9_dropAt 5 = .ok (.dup2, 1) := by decide +kernel
theorem dX9_dropAt_6 : decode cX9_dropAt 6 = .ok (.iaload, 1) := by decide +kernel
theorem dX9_dropAt_7 : decode cX9_dropAt 7 = .ok (.iconst 1, 1) := by decide +kernel
theorem dX9_dropAt_8 : decode cX9_dropAt 8 = .ok (.isub, 1) := by decide +kernel
theorem dX9_dropAt_9 : decode cX9_dropAt 9 = .ok (.iastore, 1) := by decide +kernel
theorem dX9_dropAt_10 : decode cX9_dropAt 10 = .ok (.iload_n 2, 1) := by decide +kernel
theorem dX9_dropAt_11 : decode cX9_dropAt 11 = .ok (.istore_n 3, 1) := by decide +kernel
theorem dX9_dropAt_12 : decode cX9_dropAt 12 = .ok (.iload_n 3, 1) := by decide +kernel
theorem dX9_dropAt_13 : decode cX9_dropAt 13 = .ok (.aload_n 0, 1) := by decide +kernel
theorem dX9_dropAt_14 : decode cX9_dropAt 14 = .ok (.getfield 19, 3) := by decide +kernel
theorem dX9_dropAt_17 : decode cX9_dropAt 17 = .ok (.iload_n 1, 1) := by decide +kernel
theorem dX9_dropAt_18 : decode cX9_dropAt 18 = .ok (.iaload, 1) := by decide +kernel
theorem dX9_dropAt_19 : decode cX9_dropAt 19 = .ok (.if_icmp .ge 33, 3) := by decide +kernel
theorem dX9_dropAt_22 : decode cX9_dropAt 22 = .ok (.aload_n 0, 1) := by decide +kernel
theorem dX9_dropAt_23 : decode cX9_dropAt 23 = .ok (.getfield 22, 3) := by decide +kernel
theorem dX9_dropAt_26 : decode cX9_dropAt 26 = .ok (.bipush 10, 2) := by decide +kernel
theorem dX9_dropAt_28 : decode cX9_dropAt 28 = .ok (.iload_n 1, 1) := by decide +kernel
theorem dX9_dropAt_29 : decode cX9_dropAt 29 = .ok (.imul, 1) := by decide +kernel
theorem dX9_dropAt_30 : decode cX9_dropAt 30 = .ok (.iload_n 3, 1) := by decide +kernel
theorem dX9_dropAt_31 : decode cX9_dropAt 31 = .ok (.iadd, 1) := by decide +kernel
theorem dX9_dropAt_32 : decode cX9_dropAt 32 = .ok (.aload_n 0, 1) := by decide +kernel
theorem dX9_dropAt_33 : decode cX9_dropAt 33 = .ok (.getfield 22, 3) := by decide +kernel
theorem dX9_dropAt_36 : decode cX9_dropAt 36 = .ok (.bipush 10, 2) := by decide +kernel
theorem dX9_dropAt_38 : decode cX9_dropAt 38 = .ok (.iload_n 1, 1) := by decide +kernel
theorem dX9_dropAt_39 : decode cX9_dropAt 39 = .ok (.imul, 1) := by decide +kernel
theorem dX9_dropAt_40 : decode cX9_dropAt 40 = .ok (.iload_n 3, 1) := by decide +kernel
theorem dX9_dropAt_41 : decode cX9_dropAt 41 = .ok (.iadd, 1) := by decide +kernel
theorem dX9_dropAt_42 : decode cX9_dropAt 42 = .ok (.iconst 1, 1) := by decide +kernel
theorem dX9_dropAt_43 : decode cX9_dropAt 43 = .ok (.iadd, 1) := by decide +kernel
theorem dX9_dropAt_44 : decode cX9_dropAt 44 = .ok (.iaload, 1) := by decide +kernel
theorem dX9_dropAt_45 : decode cX9_dropAt 45 = .ok (.iastore, 1) := by decide +kernel
theorem dX9_dropAt_46 : decode cX9_dropAt 46 = .ok (.iinc 3 1, 3) := by decide +kernel
theorem dX9_dropAt_49 : decode cX9_dropAt 49 = .ok (.goto (-37), 3) := by decide +kernel
theorem dX9_dropAt_52 : decode cX9_dropAt 52 = .ok (.return_, 1) := by decide +kernel
theorem dX9_drop_0 : decode cX9_drop 0 = .ok (.aload_n 0, 1) := by decide +kernel
theorem dX9_drop_1 : decode cX9_drop 1 = .ok (.iload_n 1, 1) := by decide +kernel
theorem dX9_drop_2 : decode cX9_drop 2 = .ok (.iload_n 2, 1) := by decide +kernel
theorem dX9_drop_3 : decode cX9_drop 3 = .ok (.invokevirtual 89, 3) := by decide +kernel
theorem dX9_drop_6 : decode cX9_drop 6 = .ok (.ifCond .ne 6, 3) := by decide +kernel
theorem dX9_drop_9 : decode cX9_drop 9 = .ok (.bipush (-2), 2) := by decide +kernel
theorem dX9_drop_11 : decode cX9_drop 11 = .ok (.ireturn, 1) := by decide +kernel
theorem dX9_drop_12 : decode cX9_drop 12 = .ok (.aload_n 0, 1) := by decide +kernel
theorem dX9_drop_13 : decode cX9_drop 13 = .ok (.getfield 22, 3) := by decide +kernel
theorem dX9_drop_16 : decode cX9_drop 16 = .ok (.bipush 10, 2) := by decide +kernel
theorem dX9_drop_18 : decode cX9_drop 18 = .ok (.iload_n 1, 1) := by decide +kernel
theorem dX9_drop_19 : decode cX9_drop 19 = .ok (.imul, 1) := by decide +kernel
theorem dX9_drop_20 : decode cX9_drop 20 = .ok (.iload_n 2, 1) := by decide +kernel
theorem dX9_drop_21 : decode cX9_drop 21 = .ok (.iadd, 1) := by decide +kernel
theorem dX9_drop_22 : decode cX9_drop 22 = .ok (.iaload, 1) := by decide +kernel
theorem dX9_drop_23 : decode cX9_drop 23 = .ok (.istore_n 3, 1) := by decide +kernel
theorem dX9_drop_24 : decode cX9_drop 24 = .ok (.aload_n 0, 1) := by decide +kernel
theorem dX9_drop_25 : decode cX9_drop 25 = .ok (.iload_n 1, 1) := by decide +kernel
theorem dX9_drop_26 : decode cX9_drop 26 = .ok (.iload_n 2, 1) := by decide +kernel
theorem dX9_drop_27 : decode cX9_drop 27 = .ok (.invokevirtual 93, 3) := by decide +kernel
theorem dX9_drop_30 : decode cX9_drop 30 = .ok (.iload_n 3, 1) := by decide +kernel
theorem dX9_drop_31 : decode cX9_drop 31 = .ok (.ireturn, 1) := by decide +kernel
theorem dX9_swap_0 : decode cX9_swap 0 = .ok (.aload_n 0, 1) := by decide +kernel
theorem dX9_swap_1 : decode cX9_swap 1 = .ok (.iload_n 1, 1) := by decide +kernel
theorem dX9_swap_2 : decode cX9_swap 2 = .ok (.iload_n 2, 1) := by decide +kernel
theorem dX9_swap_3 : decode cX9_swap 3 = .ok (.invokevirtual 89, 3) := by decide +kernel
theorem dX9_swap_6 : decode cX9_swap 6 = .ok (.ifCond .eq 12, 3) := by decide +kernel
theorem dX9_swap_9 : decode cX9_swap 9 = .ok (.aload_n 0, 1) := by decide +kernel
theorem dX9_swap_10 : decode cX9_swap 10 = .ok (.iload_n 1, 1) := by decide +kernel
theorem dX9_swap_11 : decode cX9_swap 11 = .ok (.iload_n 3, 1) := by decide +kernel
theorem dX9_swap_12 : decode cX9_swap 12 = .ok (.invokevirtual 89, 3) := by decide +kernel
theorem dX9_swap_15 : decode cX9_swap 15 = .ok (.ifCond .ne 6, 3) := by decide +kernel
theorem dX9_swap_18 : decode cX9_swap 18 = .ok (.bipush (-2), 2) := by decide +kernel
theorem dX9_swap_20 : decode cX9_swap 20 = .ok (.ireturn, 1) := by decide +kernel
theorem dX9_swap_21 : decode cX9_swap 21 = .ok (.aload_n 0, 1) := by decide +kernel
theorem dX9_swap_22 : decode cX9_swap 22 = .ok (.getfield 22, 3) := by decide +kernel
theorem dX9_swap_25 : decode cX9_swap 25 = .ok (.bipush 10, 2) := by decide +kernel
theorem dX9_swap_27 : decode cX9_swap 27 = .ok (.iload_n 1, 1) := by decide +kernel
theorem dX9_swap_28 : decode cX9_swap 28 = .ok (.imul, 1) := by decide +kernel
theorem dX9_swap_29 : decode cX9_swap 29 = .ok (.iload_n 2, 1) := by decide +kernel
theorem dX9_swap_30 : decode cX9_swap 30 = .ok (.iadd, 1) := by decide +kernel
theorem dX9_swap_31 : decode cX9_swap 31 = .ok (.iaload, 1) := by decide +kernel
theorem dX9_swap_32 : decode cX9_swap 32 = .ok (.istore 4, 2) := by decide +kernel
theorem dX9_swap_34 : decode cX9_swap 34 = .ok (.aload_n 0, 1) := by decide +kernel
theorem dX9_swap_35 : decode cX9_swap 35 = .ok (.getfield 22, 3) := by decide +kernel
theorem dX9_swap_38 : decode cX9_swap 38 = .ok (.bipush 10, 2) := by decide +kernel
theorem dX9_swap_40 : decode cX9_swap 40 = .ok (.iload_n 1, 1) := by decide +kernel
theorem dX9_swap_41 : decode cX9_swap 41 = .ok (.imul, 1) := by decide +kernel
theorem dX9_swap_42 : decode cX9_swap 42 = .ok (.iload_n 2, 1) := by decide +kernel
theorem dX9_swap_43 : decode cX9_swap 43 = .ok (.iadd, 1) := by decide +kernel
theorem dX9_swap_44 : decode cX9_swap 44 = .ok (.aload_n 0, 1) := by decide +kernel
theorem dX9_swap_45 : decode cX9_swap 45 = .ok (.getfield 22, 3) := by decide +kernel
theorem dX9_swap_48 : decode cX9_swap 48 = .ok (.bipush 10, 2) := by decide +kernel
theorem dX9_swap_50 : decode cX9_swap 50 = .ok (.iload_n 1, 1) := by decide +kernel
theorem dX9_swap_51 : decode cX9_swap 51 = .ok (.imul, 1) := by decide +kernel
theorem dX9_swap_52 : decode cX9_swap 52 = .ok (.iload_n 3, 1) := by decide +kernel
theorem dX9_swap_53 : decode cX9_swap 53 = .ok (.iadd, 1) := by decide +kernel
theorem dX9_swap_54 : decode cX9_swap 54 = .ok (.iaload, 1) := by decide +kernel
theorem dX9_swap_55 : decode cX9_swap 55 = .ok (.iastore, 1) := by decide +kernel
theorem dX9_swap_56 : decode cX9_swap 56 = .ok (.aload_n 0, 1) := by decide +kernel
theorem dX9_swap_57 : decode cX9_swap 57 = .ok (.getfield 22, 3) := by decide +kernel
theorem dX9_swap_60 : decode cX9_swap 60 = .ok (.bipush 10, 2) := by decide +kernel
theorem dX9_swap_62 : decode cX9_swap 62 = .ok (.iload_n 1, 1) := by decide +kernel
theorem dX9_swap_63 : decode cX9_swap 63 = .ok (.imul, 1) := by decide +kernel
theorem dX9_swap_64 : decode cX9_swap 64 = .ok (.iload_n 3, 1) := by decide +kernel
theorem dX9_swap_65 : decode cX9_swap 65 = .ok (.iadd, 1) := by decide +kernel
theorem dX9_swap_66 : decode cX9_swap 66 = .ok (.iload 4, 2) := by decide +kernel
theorem dX9_swap_68 : decode cX9_swap 68 = .ok (.iastore, 1) := by decide +kernel
theorem dX9_swap_69 : decode cX9_swap 69 = .ok (.iconst 1, 1) := by decide +kernel
theorem dX9_swap_70 : decode cX9_swap 70 = .ok (.ireturn, 1) := by decide +kernel
theorem dX9_at_0 : decode cX9_at 0 = .ok (.aload_n 0, 1) := by decide +kernel
theorem dX9_at_1 : decode cX9_at 1 = .ok (.iload_n 1, 1) := by decide +kernel
theorem dX9_at_2 : decode cX9_at 2 = .ok (.invokevirtual 86, 3) := by decide +kernel
theorem dX9_at_5 : decode cX9_at 5 = .ok (.ifCond .eq 7, 3) := by decide +kernel
theorem dX9_at_8 : decode cX9_at 8 = .ok (.iload_n 2, 1) := by decide +kernel
theorem dX9_at_9 : decode cX9_at 9 = .ok (.ifCond .ge 6, 3) := by decide +kernel
theorem dX9_at_12 : decode cX9_at 12 = .ok (.bipush (-2), 2) := by decide +kernel
theorem dX9_at_14 : decode cX9_at 14 = .ok (.ireturn, 1) := by decide +kernel
theorem dX9_at_15 : decode cX9_at 15 = .ok (.iload_n 2, 1) := by decide +kernel
theorem dX9_at_16 : decode cX9_at 16 = .ok (.aload_n 0, 1) := by decide +kernel
theorem dX9_at_17 : decode cX9_at 17 = .ok (.getfield 19, 3) := by decide +kernel
theorem dX9_at_20 : decode cX9_at 20 = .ok (.iload_n 1, 1) := by decide +kernel
theorem dX9_at_21 : decode cX9_at 21 = .ok (.iaload, 1) := by decide +kernel
theorem dX9_at_22 : decode cX9_at 22 = .ok (.if_icmp .ge 17, 3) := by decide +kernel
theorem dX9_at_25 : decode cX9_at 25 = .ok (.aload_n 0, 1) := by decide +kernel
theorem dX9_at_26 : decode cX9_at 26 = .ok (.getfield 22, 3) := by decide +kernel
theorem dX9_at_29 : decode cX9_at 29 = .ok (.bipush 10, 2) := by decide +kernel
theorem dX9_at_31 : decode cX9_at 31 = .ok (.iload_n 1, 1) := by decide +kernel
theorem dX9_at_32 : decode cX9_at 32 = .ok (.imul, 1) := by decide +kernel
theorem dX9_at_33 : decode cX9_at 33 = .ok (.iload_n 2, 1) := by decide +kernel
theorem dX9_at_34 : decode cX9_at 34 = .ok (.iadd, 1) := by decide +kernel
theorem dX9_at_35 : decode cX9_at 35 = .ok (.iaload, 1) := by decide +kernel
theorem dX9_at_36 : decode cX9_at 36 = .ok (.goto 4, 3) := by decide +kernel
theorem dX9_at_39 : decode cX9_at 39 = .ok (.iconst (-1), 1) := by decide +kernel
theorem dX9_at_40 : decode cX9_at 40 = .ok (.ireturn, 1) := by decide +kernel
theorem dX9_life_0 : decode cX9_life 0 = .ok (.iload_n 1, 1) := by decide +kernel
theorem dX9_life_1 : decode cX9_life 1 = .ok (.iconst 5, 1) := by decide +kernel
theorem dX9_life_2 : decode cX9_life 2 = .ok (.bipush 40, 2) := by decide +kernel
theorem dX9_life_4 : decode cX9_life 4 = .ok (.invokestatic 75, 3) := by decide +kernel
theorem dX9_life_7 : decode cX9_life 7 = .ok (.ifCond .ne 6, 3) := by decide +kernel
theorem dX9_life_10 : decode cX9_life 10 = .ok (.bipush (-2), 2) := by decide +kernel
theorem dX9_life_12 : decode cX9_life 12 = .ok (.ireturn, 1) := by decide +kernel
theorem dX9_life_13 : decode cX9_life 13 = .ok (.aload_n 0, 1) := by decide +kernel
theorem dX9_life_14 : decode cX9_life 14 = .ok (.getfield 25, 3) := by decide +kernel
theorem dX9_life_17 : decode cX9_life 17 = .ok (.istore_n 2, 1) := by decide +kernel
theorem dX9_life_18 : decode cX9_life 18 = .ok (.aload_n 0, 1) := by decide +kernel
theorem dX9_life_19 : decode cX9_life 19 = .ok (.iload_n 1, 1) := by decide +kernel
theorem dX9_life_20 : decode cX9_life 20 = .ok (.putfield 25, 3) := by decide +kernel
theorem dX9_life_23 : decode cX9_life 23 = .ok (.iload_n 2, 1) := by decide +kernel
theorem dX9_life_24 : decode cX9_life 24 = .ok (.ireturn, 1) := by decide +kernel
theorem dX9_isOver_0 : decode cX9_isOver 0 = .ok (.aload_n 0, 1) := by decide +kernel
theorem dX9_isOver_1 : decode cX9_isOver 1 = .ok (.getfield 32, 3) := by decide +kernel
theorem dX9_isOver_4 : decode cX9_isOver 4 = .ok (.iconst 0, 1) := by decide +kernel
theorem dX9_isOver_5 : decode cX9_isOver 5 = .ok (.iaload, 1) := by decide +kernel
theorem dX9_isOver_6 : decode cX9_isOver 6 = .ok (.ifCond .le 12, 3) := by decide +kernel
theorem dX9_isOver_9 : decode cX9_isOver 9 = .ok (.aload_n 0, 1) := by decide +kernel
theorem dX9_isOver_10 : decode cX9_isOver 10 = .ok (.getfield 32, 3) := by decide +kernel
theorem dX9_isOver_13 : decode cX9_isOver 13 = .ok (.iconst 1, 1) := by decide +kernel
theorem dX9_isOver_14 : decode cX9_isOver 14 = .ok (.iaload, 1) := by decide +kernel
theorem dX9_isOver_15 : decode cX9_isOver 15 = .ok (.ifCond .gt 7, 3) := by decide +kernel
theorem dX9_isOver_18 : decode cX9_isOver 18 = .ok (.iconst 1, 1) := by decide +kernel
theorem dX9_isOver_19 : decode cX9_isOver 19 = .ok (.goto 4, 3) := by decide +kernel
theorem dX9_isOver_22 : decode cX9_isOver 22 = .ok (.iconst 0, 1) := by decide +kernel
theorem dX9_isOver_23 : decode cX9_isOver 23 = .ok (.ireturn, 1) := by decide +kernel
theorem dX9_nextCard_0 : decode cX9_nextCard 0 = .ok (.iconst (-1), 1) := by decide +kernel
theorem dX9_nextCard_1 : decode cX9_nextCard 1 = .ok (.istore_n 3, 1) := by decide +kernel
theorem dX9_nextCard_2 : decode cX9_nextCard 2 = .ok (.iconst 0, 1) := by decide +kernel
theorem dX9_nextCard_3 : decode cX9_nextCard 3 = .ok (.istore 4, 2) := by decide +kernel
theorem dX9_nextCard_5 : decode cX9_nextCard 5 = .ok (.iload 4, 2) := by decide +kernel
theorem dX9_nextCard_7 : decode cX9_nextCard 7 = .ok (.aload_n 0, 1) := by decide +kernel
theorem dX9_nextCard_8 : decode cX9_nextCard 8 = .ok (.getfield 72, 3) := by decide +kernel
theorem dX9_nextCard_11 : decode cX9_nextCard 11 = .ok (.if_icmp .ge 107, 3) := by decide +kernel
theorem dX9_nextCard_14 : decode cX9_nextCard 14 = .ok (.aload_n 0, 1) := by decide +kernel
theorem dX9_nextCard_15 : decode cX9_nextCard 15 = .ok (.getfield 47, 3) := by decide +kernel
theorem dX9_nextCard_18 : decode cX9_nextCard 18 = .ok (.bipush 12, 2) := by decide +kernel
theorem dX9_nextCard_20 : decode cX9_nextCard 20 = .ok (.iload_n 1, 1) := by decide +kernel
theorem dX9_nextCard_21 : decode cX9_nextCard 21 = .ok (.imul, 1) := by decide +kernel
theorem dX9_nextCard_22 : decode cX9_nextCard 22 = .ok (.iload 4, 2) := by decide +kernel
theorem dX9_nextCard_24 : decode cX9_nextCard 24 = .ok (.iadd, 1) := by decide +kernel
theorem dX9_nextCard_25 : decode cX9_nextCard 25 = .ok (.iaload, 1) := by decide +kernel
theorem dX9_nextCard_26 : decode cX9_nextCard 26 = .ok (.ifCond .le 86, 3) := by decide +kernel
theorem dX9_nextCard_29 : decode cX9_nextCard 29 = .ok (.aload_n 0, 1) := by decide +kernel
theorem dX9_nextCard_30 : decode cX9_nextCard 30 = .ok (.getfield 13, 3) := by decide +kernel
theorem dX9_nextCard_33 : decode cX9_nextCard 33 = .ok (.iload 4, 2) := by decide +kernel
theorem dX9_nextCard_35 : decode cX9_nextCard 35 = .ok (.iaload, 1) := by decide +kernel
theorem dX9_nextCard_36 : decode cX9_nextCard 36 = .ok (.iload_n 2, 1) := by decide +kernel
theorem dX9_nextCard_37 : decode cX9_nextCard 37 = .ok (.if_icmp .gt 75, 3) := by decide +kernel
theorem dX9_nextCard_40 : decode cX9_nextCard 40 = .ok (.iload_n 3, 1) := by decide +kernel
theorem dX9_nextCard_41 : decode cX9_nextCard 41 = .ok (.iconst (-1), 1) := by decide +kernel
theorem dX9_nextCard_42 : decode cX9_nextCard 42 = .ok (.if_icmp .eq 51, 3) := by decide +kernel
theorem dX9_nextCard_45 : decode cX9_nextCard 45 = .ok (.aload_n 0, 1) := by decide +kernel
theorem dX9_nextCard_46 : decode cX9_nextCard 46 = .ok (.getfield 13, 3) := by decide +kernel
theorem dX9_nextCard_49 : decode cX9_nextCard 49 = .ok (.iload 4, 2) := by decide +kernel
theorem dX9_nextCard_51 : decode cX9_nextCard 51 = .ok (.iaload, 1) := by decide +kernel
theorem dX9_nextCard_52 : decode cX9_nextCard 52 = .ok (.aload_n 0, 1) := by decide +kernel
theorem dX9_nextCard_53 : decode cX9_nextCard 53 = .ok (.getfield 13, 3) := by decide +kernel
theorem dX9_nextCard_56 : decode cX9_nextCard 56 = .ok (.iload_n 3, 1) := by decide +kernel
theorem dX9_nextCard_57 : decode cX9_nextCard 57 = .ok (.iaload, 1) := by decide +kernel
theorem dX9_nextCard_58 : decode cX9_nextCard 58 = .ok (.if_icmp .gt 35, 3) := by decide +kernel
theorem dX9_nextCard_61 : decode cX9_nextCard 61 = .ok (.aload_n 0, 1) := by decide +kernel
theorem dX9_nextCard_62 : decode cX9_nextCard 62 = .ok (.getfield 13, 3) := by decide +kernel
theorem dX9_nextCard_65 : decode cX9_nextCard 65 = .ok (.iload 4, 2) := by decide +kernel
theorem dX9_nextCard_67 : decode cX9_nextCard 67 = .ok (.iaload, 1) := by decide +kernel
theorem dX9_nextCard_68 : decode cX9_nextCard 68 = .ok (.aload_n 0, 1) := by decide +kernel
theorem dX9_nextCard_69 : decode cX9_nextCard 69 = .ok (.getfield 13, 3) := by decide +kernel
theorem dX9_nextCard_72 : decode cX9_nextCard 72 = .ok (.iload_n 3, 1) := by decide +kernel
theorem dX9_nextCard_73 : decode cX9_nextCard 73 = .ok (.iaload, 1) := by decide +kernel
theorem dX9_nextCard_74 : decode cX9_nextCard 74 = .ok (.if_icmp .ne 23, 3) := by decide +kernel
theorem dX9_nextCard_77 : decode cX9_nextCard 77 = .ok (.aload_n 0, 1) := by decide +kernel
theorem dX9_nextCard_78 : decode cX9_nextCard 78 = .ok (.getfield 16, 3) := by decide +kernel
theorem dX9_nextCard_81 : decode cX9_nextCard 81 = .ok (.iload 4, 2) := by decide +kernel
theorem dX9_nextCard_83 : decode cX9_nextCard 83 = .ok (.iaload, 1) := by decide +kernel
theorem dX9_nextCard_84 : decode cX9_nextCard 84 = .ok (.aload_n 0, 1) := by decide +kernel
theorem dX9_nextCard_85 : decode cX9_nextCard 85 = .ok (.getfield 16, 3) := by decide +kernel
theorem dX9_nextCard_88 : decode cX9_nextCard 88 = .ok (.iload_n 3, 1) := by decide +kernel
theorem dX9_nextCard_89 : decode cX9_nextCard 89 = .ok (.iaload, 1) := by decide +kernel
theorem dX9_nextCard_90 : decode cX9_nextCard 90 = .ok (.if_icmp .le 7, 3) := by decide +kernel
theorem dX9_nextCard_93 : decode cX9_nextCard 93 = .ok (.iconst 1, 1) := by decide +kernel
theorem dX9_nextCard_94 : decode cX9_nextCard 94 = .ok (.goto 4, 3) := by decide +kernel
theorem dX9_nextCard_97 : decode cX9_nextCard 97 = .ok (.iconst 0, 1) := by decide +kernel
theorem dX9_nextCard_98 : decode cX9_nextCard 98 = .ok (.istore 5, 2) := by decide +kernel
theorem dX9_nextCard_100 : decode cX9_nextCard 100 = .ok (.iload 5, 2) := by decide +kernel
theorem dX9_nextCard_102 : decode cX9_nextCard 102 = .ok (.ifCond .eq 8, 3) := by decide +kernel
theorem dX9_nextCard_105 : decode cX9_nextCard 105 = .ok (.iload 4, 2) := by decide +kernel
theorem dX9_nextCard_107 : decode cX9_nextCard 107 = .ok (.goto 4, 3) := by decide +kernel
theorem dX9_nextCard_110 : decode cX9_nextCard 110 = .ok (.iload_n 3, 1) := by decide +kernel
theorem dX9_nextCard_111 : decode cX9_nextCard 111 = .ok (.istore_n 3, 1) := by decide +kernel
theorem dX9_nextCard_112 : decode cX9_nextCard 112 = .ok (.iinc 4 1, 3) := by decide +kernel
theorem dX9_nextCard_115 : decode cX9_nextCard 115 = .ok (.goto (-110), 3) := by decide +kernel
theorem dX9_nextCard_118 : decode cX9_nextCard 118 = .ok (.iload_n 3, 1) := by decide +kernel
theorem dX9_nextCard_119 : decode cX9_nextCard 119 = .ok (.ireturn, 1) := by decide +kernel
theorem dX9_playCard_0 : decode cX9_playCard 0 = .ok (.aload_n 0, 1) := by decide +kernel
theorem dX9_playCard_1 : decode cX9_playCard 1 = .ok (.getfield 47, 3) := by decide +kernel
theorem dX9_playCard_4 : decode cX9_playCard 4 = .ok (.bipush 12, 2) := by decide +kernel
theorem dX9_playCard_6 : decode cX9_playCard 6 = .ok (.iload_n 1, 1) := by decide +kernel
theorem dX9_playCard_7 : decode cX9_playCard 7 = .ok (.imul, 1) := by decide +kernel
theorem dX9_playCard_8 : decode cX9_playCard 8 = .ok (.iload_n 2, 1) := by decide +kernel
theorem dX9_playCard_9 : decode cX9_playCard 9 = .ok (.iadd, 1) := by decide +kernel
theorem dX9_playCard_10 : decode cX9_playCard 10 = .ok (.dup2, 1) := by decide +kernel
theorem dX9_playCard_11 : decode cX9_playCard 11 = .ok (.iaload, 1) := by decide +kernel
theorem dX9_playCard_12 : decode cX9_playCard 12 = .ok (.iconst 1, 1) := by decide +kernel
theorem dX9_playCard_13 : decode cX9_playCard 13 = .ok (.isub, 1) := by decide +kernel
theorem dX9_playCard_14 : decode cX9_playCard 14 = .ok (.iastore, 1) := by decide +kernel
theorem dX9_playCard_15 : decode cX9_playCard 15 = .ok (.aload_n 0, 1) := by decide +kernel
theorem dX9_playCard_16 : decode cX9_playCard 16 = .ok (.getfield 44, 3) := by decide +kernel
theorem dX9_playCard_19 : decode cX9_playCard 19 = .ok (.iload_n 1, 1) := by decide +kernel
theorem dX9_playCard_20 : decode cX9_playCard 20 = .ok (.dup2, 1) := by decide +kernel
theorem dX9_playCard_21 : decode cX9_playCard 21 = .ok (.iaload, 1) := by decide +kernel
theorem dX9_playCard_22 : decode cX9_playCard 22 = .ok (.iconst 1, 1) := by decide +kernel
theorem dX9_playCard_23 : decode cX9_playCard 23 = .ok (.iadd, 1) := by decide +kernel
theorem dX9_playCard_24 : decode cX9_playCard 24 = .ok (.iastore, 1) := by decide +kernel
theorem dX9_playCard_25 : decode cX9_playCard 25 = .ok (.aload_n 0, 1) := by decide +kernel
theorem dX9_playCard_26 : decode cX9_playCard 26 = .ok (.getfield 7, 3) := by decide +kernel
theorem dX9_playCard_29 : decode cX9_playCard 29 = .ok (.iload_n 2, 1) := by decide +kernel
theorem dX9_playCard_30 : decode cX9_playCard 30 = .ok (.iaload, 1) := by decide +kernel
theorem dX9_playCard_31 : decode cX9_playCard 31 = .ok (.ifCond .ne 21, 3) := by decide +kernel
theorem dX9_playCard_34 : decode cX9_playCard 34 = .ok (.aload_n 0, 1) := by decide +kernel
theorem dX9_playCard_35 : decode cX9_playCard 35 = .ok (.getfield 38, 3) := by decide +kernel
theorem dX9_playCard_38 : decode cX9_playCard 38 = .ok (.iload_n 1, 1) := by decide +kernel
theorem dX9_playCard_39 : decode cX9_playCard 39 = .ok (.dup2, 1) := by decide +kernel
theorem dX9_playCard_40 : decode cX9_playCard 40 = .ok (.iaload, 1) := by decide +kernel
theorem dX9_playCard_41 : decode cX9_playCard 41 = .ok (.aload_n 0, 1) := by decide +kernel
theorem dX9_playCard_42 : decode cX9_playCard 42 = .ok (.getfield 16, 3) := by decide +kernel
theorem dX9_playCard_45 : decode cX9_playCard 45 = .ok (.iload_n 2, 1) := by decide +kernel
theorem dX9_playCard_46 : decode cX9_playCard 46 = .ok (.iaload, 1) := by decide +kernel
theorem dX9_playCard_47 : decode cX9_playCard 47 = .ok (.iadd, 1) := by decide +kernel
theorem dX9_playCard_48 : decode cX9_playCard 48 = .ok (.iastore, 1) := by decide +kernel
theorem dX9_playCard_49 : decode cX9_playCard 49 = .ok (.goto 48, 3) := by decide +kernel
theorem dX9_playCard_52 : decode cX9_playCard 52 = .ok (.aload_n 0, 1) := by decide +kernel
theorem dX9_playCard_53 : decode cX9_playCard 53 = .ok (.getfield 7, 3) := by decide +kernel
theorem dX9_playCard_56 : decode cX9_playCard 56 = .ok (.iload_n 2, 1) := by decide +kernel
theorem dX9_playCard_57 : decode cX9_playCard 57 = .ok (.iaload, 1) := by decide +kernel
theorem dX9_playCard_58 : decode cX9_playCard 58 = .ok (.iconst 1, 1) := by decide +kernel
theorem dX9_playCard_59 : decode cX9_playCard 59 = .ok (.if_icmp .ne 23, 3) := by decide +kernel
theorem dX9_playCard_62 : decode cX9_playCard 62 = .ok (.aload_n 0, 1) := by decide +kernel
theorem dX9_playCard_63 : decode cX9_playCard 63 = .ok (.getfield 32, 3) := by decide +kernel
theorem dX9_playCard_66 : decode cX9_playCard 66 = .ok (.iconst 1, 1) := by decide +kernel
theorem dX9_playCard_67 : decode cX9_playCard 67 = .ok (.iload_n 1, 1) := by decide +kernel
theorem dX9_playCard_68 : decode cX9_playCard 68 = .ok (.isub, 1) := by decide +kernel
theorem dX9_playCard_69 : decode cX9_playCard 69 = .ok (.dup2, 1) := by decide +kernel
theorem dX9_playCard_70 : decode cX9_playCard 70 = .ok (.iaload, 1) := by decide +kernel
theorem dX9_playCard_71 : decode cX9_playCard 71 = .ok (.aload_n 0, 1) := by decide +kernel
theorem dX9_playCard_72 : decode cX9_playCard 72 = .ok (.getfield 16, 3) := by decide +kernel
theorem dX9_playCard_75 : decode cX9_playCard 75 = .ok (.iload_n 2, 1) := by decide +kernel
theorem dX9_playCard_76 : decode cX9_playCard 76 = .ok (.iaload, 1) := by decide +kernel
theorem dX9_playCard_77 : decode cX9_playCard 77 = .ok (.isub, 1) := by decide +kernel
theorem dX9_playCard_78 : decode cX9_playCard 78 = .ok (.iastore, 1) := by decide +kernel
theorem dX9_playCard_79 : decode cX9_playCard 79 = .ok (.goto 18, 3) := by decide +kernel
theorem dX9_playCard_82 : decode cX9_playCard 82 = .ok (.aload_n 0, 1) := by decide +kernel
theorem dX9_playCard_83 : decode cX9_playCard 83 = .ok (.getfield 41, 3) := by decide +kernel
theorem dX9_playCard_86 : decode cX9_playCard 86 = .ok (.iload_n 1, 1) := by decide +kernel
theorem dX9_playCard_87 : decode cX9_playCard 87 = .ok (.dup2, 1) := by decide +kernel
theorem dX9_playCard_88 : decode cX9_playCard 88 = .ok (.iaload, 1) := by decide +kernel
theorem dX9_playCard_89 : decode cX9_playCard 89 = .ok (.aload_n 0, 1) := by decide +kernel
theorem dX9_playCard_90 : decode cX9_playCard 90 = .ok (.getfield 16, 3) := by decide +kernel
theorem dX9_playCard_93 : decode cX9_playCard 93 = .ok (.iload_n 2, 1) := by decide +kernel
theorem dX9_playCard_94 : decode cX9_playCard 94 = .ok (.iaload, 1) := by decide +kernel
theorem dX9_playCard_95 : decode cX9_playCard 95 = .ok (.iadd, 1) := by decide +kernel
theorem dX9_playCard_96 : decode cX9_playCard 96 = .ok (.iastore, 1) := by decide +kernel
theorem dX9_playCard_97 : decode cX9_playCard 97 = .ok (.return_, 1) := by decide +kernel
theorem dX9_move_0 : decode cX9_move 0 = .ok (.aload_n 0, 1) := by decide +kernel
theorem dX9_move_1 : decode cX9_move 1 = .ok (.getfield 29, 3) := by decide +kernel
theorem dX9_move_4 : decode cX9_move 4 = .ok (.iload_n 1, 1) := by decide +kernel
theorem dX9_move_5 : decode cX9_move 5 = .ok (.iaload, 1) := by decide +kernel
theorem dX9_move_6 : decode cX9_move 6 = .ok (.istore_n 2, 1) := by decide +kernel
theorem dX9_move_7 : decode cX9_move 7 = .ok (.aload_n 0, 1) := by decide +kernel
theorem dX9_move_8 : decode cX9_move 8 = .ok (.getfield 97, 3) := by decide +kernel
theorem dX9_move_11 : decode cX9_move 11 = .ok (.iconst 1, 1) := by decide +kernel
theorem dX9_move_12 : decode cX9_move 12 = .ok (.if_icmp .ne 7, 3) := by decide +kernel
theorem dX9_move_15 : decode cX9_move 15 = .ok (.iconst 2, 1) := by decide +kernel
theorem dX9_move_16 : decode cX9_move 16 = .ok (.goto 4, 3) := by decide +kernel
theorem dX9_move_19 : decode cX9_move 19 = .ok (.iconst 1, 1) := by decide +kernel
theorem dX9_move_20 : decode cX9_move 20 = .ok (.istore_n 3, 1) := by decide +kernel
theorem dX9_move_21 : decode cX9_move 21 = .ok (.iload_n 3, 1) := by decide +kernel
theorem dX9_move_22 : decode cX9_move 22 = .ok (.ifCond .le 64, 3) := by decide +kernel
theorem dX9_move_25 : decode cX9_move 25 = .ok (.aload_n 0, 1) := by decide +kernel
theorem dX9_move_26 : decode cX9_move 26 = .ok (.getfield 35, 3) := by decide +kernel
theorem dX9_move_29 : decode cX9_move 29 = .ok (.iload_n 1, 1) := by decide +kernel
theorem dX9_move_30 : decode cX9_move 30 = .ok (.iaload, 1) := by decide +kernel
theorem dX9_move_31 : decode cX9_move 31 = .ok (.aload_n 0, 1) := by decide +kernel
theorem dX9_move_32 : decode cX9_move 32 = .ok (.getfield 19, 3) := by decide +kernel
theorem dX9_move_35 : decode cX9_move 35 = .ok (.iload_n 2, 1) := by decide +kernel
theorem dX9_move_36 : decode cX9_move 36 = .ok (.iaload, 1) := by decide +kernel
theorem dX9_move_37 : decode cX9_move 37 = .ok (.if_icmp .ge 49, 3) := by decide +kernel
theorem dX9_move_40 : decode cX9_move 40 = .ok (.aload_n 0, 1) := by decide +kernel
theorem dX9_move_41 : decode cX9_move 41 = .ok (.getfield 47, 3) := by decide +kernel
theorem dX9_move_44 : decode cX9_move 44 = .ok (.bipush 12, 2) := by decide +kernel
theorem dX9_move_46 : decode cX9_move 46 = .ok (.iload_n 1, 1) := by decide +kernel
theorem dX9_move_47 : decode cX9_move 47 = .ok (.imul, 1) := by decide +kernel
theorem dX9_move_48 : decode cX9_move 48 = .ok (.aload_n 0, 1) := by decide +kernel
theorem dX9_move_49 : decode cX9_move 49 = .ok (.getfield 22, 3) := by decide +kernel
theorem dX9_move_52 : decode cX9_move 52 = .ok (.bipush 10, 2) := by decide +kernel
theorem dX9_move_54 : decode cX9_move 54 = .ok (.iload_n 2, 1) := by decide +kernel
theorem dX9_move_55 : decode cX9_move 55 = .ok (.imul, 1) := by decide +kernel
theorem dX9_move_56 : decode cX9_move 56 = .ok (.aload_n 0, 1) := by decide +kernel
theorem dX9_move_57 : decode cX9_move 57 = .ok (.getfield 35, 3) := by decide +kernel
theorem dX9_move_60 : decode cX9_move 60 = .ok (.iload_n 1, 1) := by decide +kernel
theorem dX9_move_61 : decode cX9_move 61 = .ok (.iaload, 1) := by decide +kernel
theorem dX9_move_62 : decode cX9_move 62 = .ok (.iadd, 1) := by decide +kernel
theorem dX9_move_63 : decode cX9_move 63 = .ok (.iaload, 1) := by decide +kernel
theorem dX9_move_64 : decode cX9_move 64 = .ok (.iadd, 1) := by decide +kernel
theorem dX9_move_65 : decode cX9_move 65 = .ok (.dup2, 1) := by decide +kernel
theorem dX9_move_66 : decode cX9_move 66 = .ok (.iaload, 1) := by decide +kernel
theorem dX9_move_67 : decode cX9_move 67 = .ok (.iconst 1, 1) := by decide +kernel
theorem dX9_move_68 : decode cX9_move 68 = .ok (.iadd, 1) := by decide +kernel
theorem dX9_move_69 : decode cX9_move 69 = .ok (.iastore, 1) := by decide +kernel
theorem dX9_move_70 : decode cX9_move 70 = .ok (.aload_n 0, 1) := by decide +kernel
theorem dX9_move_71 : decode cX9_move 71 = .ok (.getfield 35, 3) := by decide +kernel
theorem dX9_move_74 : decode cX9_move 74 = .ok (.iload_n 1, 1) := by decide +kernel
theorem dX9_move_75 : decode cX9_move 75 = .ok (.dup2, 1) := by decide +kernel
theorem dX9_move_76 : decode cX9_move 76 = .ok (.iaload, 1) := by decide +kernel
theorem dX9_move_77 : decode cX9_move 77 = .ok (.iconst 1, 1) := by decide +kernel
theorem dX9_move_78 : decode cX9_move 78 = .ok (.iadd, 1) := by decide +kernel
theorem dX9_move_79 : decode cX9_move 79 = .ok (.iastore, 1) := by decide +kernel
theorem dX9_move_80 : decode cX9_move 80 = .ok (.iinc 3 (-1), 3) := by decide +kernel
theorem dX9_move_83 : decode cX9_move 83 = .ok (.goto (-62), 3) := by decide +kernel
theorem dX9_move_86 : decode cX9_move 86 = .ok (.aload_n 0, 1) := by decide +kernel
theorem dX9_move_87 : decode cX9_move 87 = .ok (.getfield 38, 3) := by decide +kernel
theorem dX9_move_90 : decode cX9_move 90 = .ok (.iload_n 1, 1) := by decide +kernel
theorem dX9_move_91 : decode cX9_move 91 = .ok (.iaload, 1) := by decide +kernel
theorem dX9_move_92 : decode cX9_move 92 = .ok (.aload_n 0, 1) := by decide +kernel
theorem dX9_move_93 : decode cX9_move 93 = .ok (.getfield 41, 3) := by decide +kernel
theorem dX9_move_96 : decode cX9_move 96 = .ok (.iconst 1, 1) := by decide +kernel
theorem dX9_move_97 : decode cX9_move 97 = .ok (.iload_n 1, 1) := by decide +kernel
theorem dX9_move_98 : decode cX9_move 98 = .ok (.isub, 1) := by decide +kernel
theorem dX9_move_99 : decode cX9_move 99 = .ok (.iaload, 1) := by decide +kernel
theorem dX9_move_100 : decode cX9_move 100 = .ok (.isub, 1) := by decide +kernel
theorem dX9_move_101 : decode cX9_move 101 = .ok (.istore_n 3, 1) := by decide +kernel
theorem dX9_move_102 : decode cX9_move 102 = .ok (.aload_n 0, 1) := by decide +kernel
theorem dX9_move_103 : decode cX9_move 103 = .ok (.getfield 32, 3) := by decide +kernel
theorem dX9_move_106 : decode cX9_move 106 = .ok (.iconst 1, 1) := by decide +kernel
theorem dX9_move_107 : decode cX9_move 107 = .ok (.iload_n 1, 1) := by decide +kernel
theorem dX9_move_108 : decode cX9_move 108 = .ok (.isub, 1) := by decide +kernel
theorem dX9_move_109 : decode cX9_move 109 = .ok (.dup2, 1) := by decide +kernel
theorem dX9_move_110 : decode cX9_move 110 = .ok (.iaload, 1) := by decide +kernel
theorem dX9_move_111 : decode cX9_move 111 = .ok (.iload_n 3, 1) := by decide +kernel
theorem dX9_move_112 : decode cX9_move 112 = .ok (.ifCond .le 7, 3) := by decide +kernel
theorem dX9_move_115 : decode cX9_move 115 = .ok (.iload_n 3, 1) := by decide +kernel
theorem dX9_move_116 : decode cX9_move 116 = .ok (.goto 4, 3) := by decide +kernel
theorem dX9_move_119 : decode cX9_move 119 = .ok (.iconst 0, 1) := by decide +kernel
theorem dX9_move_120 : decode cX9_move 120 = .ok (.isub, 1) := by decide +kernel
theorem dX9_move_121 : decode cX9_move 121 = .ok (.iastore, 1) := by decide +kernel
theorem dX9_move_122 : decode cX9_move 122 = .ok (.aload_n 0, 1) := by decide +kernel
theorem dX9_move_123 : decode cX9_move 123 = .ok (.getfield 97, 3) := by decide +kernel
theorem dX9_move_126 : decode cX9_move 126 = .ok (.bipush 6, 2) := by decide +kernel
theorem dX9_move_128 : decode cX9_move 128 = .ok (.if_icmp .ge 10, 3) := by decide +kernel
theorem dX9_move_131 : decode cX9_move 131 = .ok (.aload_n 0, 1) := by decide +kernel
theorem dX9_move_132 : decode cX9_move 132 = .ok (.getfield 97, 3) := by decide +kernel
theorem dX9_move_135 : decode cX9_move 135 = .ok (.goto 5, 3) := by decide +kernel
theorem dX9_move_138 : decode cX9_move 138 = .ok (.bipush 6, 2) := by decide +kernel
theorem dX9_move_140 : decode cX9_move 140 = .ok (.istore 4, 2) := by decide +kernel
theorem dX9_move_142 : decode cX9_move 142 = .ok (.aload_n 0, 1) := by decide +kernel
theorem dX9_move_143 : decode cX9_move 143 = .ok (.iload_n 1, 1) := by decide +kernel
theorem dX9_move_144 : decode cX9_move 144 = .ok (.iload 4, 2) := by decide +kernel
theorem dX9_move_146 : decode cX9_move 146 = .ok (.invokevirtual 100, 3) := by decide +kernel
theorem dX9_move_149 : decode cX9_move 149 = .ok (.istore 5, 2) := by decide +kernel
theorem dX9_move_151 : decode cX9_move 151 = .ok (.aload_n 0, 1) := by decide +kernel
theorem dX9_move_152 : decode cX9_move 152 = .ok (.invokevirtual 104, 3) := by decide +kernel
theorem dX9_move_155 : decode cX9_move 155 = .ok (.ifCond .ne 40, 3) := by decide +kernel
theorem dX9_move_158 : decode cX9_move 158 = .ok (.iload 5, 2) := by decide +kernel
theorem dX9_move_160 : decode cX9_move 160 = .ok (.iconst (-1), 1) := by decide +kernel
theorem dX9_move_161 : decode cX9_move 161 = .ok (.if_icmp .eq 34, 3) := by decide +kernel
theorem dX9_move_164 : decode cX9_move 164 = .ok (.aload_n 0, 1) := by decide +kernel
theorem dX9_move_165 : decode cX9_move 165 = .ok (.iload_n 1, 1) := by decide +kernel
theorem dX9_move_166 : decode cX9_move 166 = .ok (.iload 5, 2) := by decide +kernel
theorem dX9_move_168 : decode cX9_move 168 = .ok (.invokevirtual 108, 3) := by decide +kernel
theorem dX9_move_171 : decode cX9_move 171 = .ok (.iload 4, 2) := by decide +kernel
theorem dX9_move_173 : decode cX9_move 173 = .ok (.aload_n 0, 1) := by decide +kernel
theorem dX9_move_174 : decode cX9_move 174 = .ok (.getfield 13, 3) := by decide +kernel
theorem dX9_move_177 : decode cX9_move 177 = .ok (.iload 5, 2) := by decide +kernel
theorem dX9_move_179 : decode cX9_move 179 = .ok (.iaload, 1) := by decide +kernel
theorem dX9_move_180 : decode cX9_move 180 = .ok (.isub, 1) := by decide +kernel
theorem dX9_move_181 : decode cX9_move 181 = .ok (.istore 4, 2) := by decide +kernel
theorem dX9_move_183 : decode cX9_move 183 = .ok (.aload_n 0, 1) := by decide +kernel
theorem dX9_move_184 : decode cX9_move 184 = .ok (.iload_n 1, 1) := by decide +kernel
theorem dX9_move_185 : decode cX9_move 185 = .ok (.iload 4, 2) := by decide +kernel
theorem dX9_move_187 : decode cX9_move 187 = .ok (.invokevirtual 100, 3) := by decide +kernel
theorem dX9_move_190 : decode cX9_move 190 = .ok (.istore 5, 2) := by decide +kernel
theorem dX9_move_192 : decode cX9_move 192 = .ok (.goto (-41), 3) := by decide +kernel
theorem dX9_move_195 : decode cX9_move 195 = .ok (.return_, 1) := by decide +kernel
theorem dX9_game_0 : decode cX9_game 0 = .ok (.aload_n 0, 1) := by decide +kernel
theorem dX9_game_1 : decode cX9_game 1 = .ok (.getfield 29, 3) := by decide +kernel
theorem dX9_game_4 : decode cX9_game 4 = .ok (.iconst 0, 1) := by decide +kernel
theorem dX9_game_5 : decode cX9_game 5 = .ok (.iload_n 1, 1) := by decide +kernel
theorem dX9_game_6 : decode cX9_game 6 = .ok (.iastore, 1) := by decide +kernel
theorem dX9_game_7 : decode cX9_game 7 = .ok (.aload_n 0, 1) := by decide +kernel
theorem dX9_game_8 : decode cX9_game 8 = .ok (.getfield 29, 3) := by decide +kernel
theorem dX9_game_11 : decode cX9_game 11 = .ok (.iconst 1, 1) := by decide +kernel
theorem dX9_game_12 : decode cX9_game 12 = .ok (.iload_n 2, 1) := by decide +kernel
theorem dX9_game_13 : decode cX9_game 13 = .ok (.iastore, 1) := by decide +kernel
theorem dX9_game_14 : decode cX9_game 14 = .ok (.iconst 0, 1) := by decide +kernel
theorem dX9_game_15 : decode cX9_game 15 = .ok (.istore_n 3, 1) := by decide +kernel
theorem dX9_game_16 : decode cX9_game 16 = .ok (.iload_n 3, 1) := by decide +kernel
theorem dX9_game_17 : decode cX9_game 17 = .ok (.bipush 24, 2) := by decide +kernel
theorem dX9_game_19 : decode cX9_game 19 = .ok (.if_icmp .ge 16, 3) := by decide +kernel
theorem dX9_game_22 : decode cX9_game 22 = .ok (.aload_n 0, 1) := by decide +kernel
theorem dX9_game_23 : decode cX9_game 23 = .ok (.getfield 47, 3) := by decide +kernel
theorem dX9_game_26 : decode cX9_game 26 = .ok (.iload_n 3, 1) := by decide +kernel
theorem dX9_game_27 : decode cX9_game 27 = .ok (.iconst 0, 1) := by decide +kernel
theorem dX9_game_28 : decode cX9_game 28 = .ok (.iastore, 1) := by decide +kernel
theorem dX9_game_29 : decode cX9_game 29 = .ok (.iinc 3 1, 3) := by decide +kernel
theorem dX9_game_32 : decode cX9_game 32 = .ok (.goto (-16), 3) := by decide +kernel
