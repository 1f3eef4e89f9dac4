theorem dX8_init_0 : decode cX8_init 0 = .ok (.aload_n 0, 1) := by decide +kernel
theorem dX8_init_1 : decode cX8_init 1 = .ok (.invokespecial 1, 3) := by decide +kernel
theorem dX8_init_4 : decode cX8_init 4 = .ok (.aload_n 0, 1) := by decide +kernel
theorem dX8_init_5 : decode cX8_init 5 = .ok (.new 7, 3) := by decide +kernel
theorem dX8_init_8 : decode cX8_init 8 = .ok (.dup, 1) := by decide +kernel
theorem dX8_init_9 : decode cX8_init 9 = .ok (.invokespecial 9, 3) := by decide +kernel
theorem dX8_init_12 : decode cX8_init 12 = .ok (.putfield 10, 3) := by decide +kernel
theorem dX8_init_15 : decode cX8_init 15 = .ok (.aload_n 0, 1) := by decide +kernel
theorem dX8_init_16 : decode cX8_init 16 = .ok (.iconst 5, 1) := by decide +kernel
theorem dX8_init_17 : decode cX8_init 17 = .ok (.anewarray 16, 3) := by decide +kernel
theorem dX8_init_20 : decode cX8_init 20 = .ok (.putfield 18, 3) := by decide +kernel
theorem dX8_init_23 : decode cX8_init 23 = .ok (.iconst 0, 1) := by decide +kernel
theorem dX8_init_24 : decode cX8_init 24 = .ok (.istore_n 1, 1) := by decide +kernel
theorem dX8_init_25 : decode cX8_init 25 = .ok (.iload_n 1, 1) := by decide +kernel
theorem dX8_init_26 : decode cX8_init 26 = .ok (.iconst 5, 1) := by decide +kernel
theorem dX8_init_27 : decode cX8_init 27 = .ok (.if_icmp .ge 22, 3) := by decide +kernel
theorem dX8_init_30 : decode cX8_init 30 = .ok (.aload_n 0, 1) := by decide +kernel
theorem dX8_init_31 : decode cX8_init 31 = .ok (.getfield 18, 3) := by decide +kernel
theorem dX8_init_34 : decode cX8_init 34 = .ok (.iload_n 1, 1) := by decide +kernel
theorem dX8_init_35 : decode cX8_init 35 = .ok (.new 16, 3) := by decide +kernel
theorem dX8_init_38 : decode cX8_init 38 = .ok (.dup, 1) := by decide +kernel
theorem dX8_init_39 : decode cX8_init 39 = .ok (.invokespecial 22, 3) := by decide +kernel
theorem dX8_init_42 : decode cX8_init 42 = .ok (.aastore, 1) := by decide +kernel
theorem dX8_init_43 : decode cX8_init 43 = .ok (.iinc 1 1, 3) := by decide +kernel
theorem dX8_init_46 : decode cX8_init 46 = .ok (.goto (-21), 3) := by decide +kernel
theorem dX8_init_49 : decode cX8_init 49 = .ok (.aload_n 0, 1) := by decide +kernel
theorem dX8_init_50 : decode cX8_init 50 = .ok (.new 23, 3) := by decide +kernel
theorem dX8_init_53 : decode cX8_init 53 = .ok (.dup, 1) := by decide +kernel
theorem dX8_init_54 : decode cX8_init 54 = .ok (.aload_n 0, 1) := by decide +kernel
theorem dX8_init_55 : decode cX8_init 55 = .ok (.getfield 10, 3) := by decide +kernel
theorem dX8_init_58 : decode cX8_init 58 = .ok (.invokespecial 25, 3) := by decide +kernel
theorem dX8_init_61 : decode cX8_init 61 = .ok (.putfield 28, 3) := by decide +kernel
theorem dX8_init_64 : decode cX8_init 64 = .ok (.aload_n 0, 1) := by decide +kernel
theorem dX8_init_65 : decode cX8_init 65 = .ok (.new 32, 3) := by decide +kernel
theorem dX8_init_68 : decode cX8_init 68 = .ok (.dup, 1) := by decide +kernel
theorem dX8_init_69 : decode cX8_init 69 = .ok (.invokespecial 34, 3) := by decide +kernel
theorem dX8_init_72 : decode cX8_init 72 = .ok (.putfield 35, 3) := by decide +kernel
theorem dX8_init_75 : decode cX8_init 75 = .ok (.aload_n 0, 1) := by decide +kernel
theorem dX8_init_76 : decode cX8_init 76 = .ok (.new 32, 3) := by decide +kernel
theorem dX8_init_79 : decode cX8_init 79 = .ok (.dup, 1) := by decide +kernel
theorem dX8_init_80 : decode cX8_init 80 = .ok (.invokespecial 34, 3) := by decide +kernel
theorem dX8_init_83 : decode cX8_init 83 = .ok (.putfield 39, 3) := by decide +kernel
theorem dX8_init_86 : decode cX8_init 86 = .ok (.aload_n 0, 1) := by decide +kernel
theorem dX8_init_87 : decode cX8_init 87 = .ok (.new 42, 3) := by decide +kernel
theorem dX8_init_90 : decode cX8_init 90 = .ok (.dup, 1) := by decide +kernel
theorem dX8_init_91 : decode cX8_init 91 = .ok (.invokespecial 44, 3) := by decide +kernel
theorem dX8_init_94 : decode cX8_init 94 = .ok (.putfield 45, 3) := by decide +kernel
theorem dX8_init_97 : decode cX8_init 97 = .ok (.aload_n 0, 1) := by decide +kernel
theorem dX8_init_98 : decode cX8_init 98 = .ok (.new 49, 3) := by decide +kernel
theorem dX8_init_101 : decode cX8_init 101 = .ok (.dup, 1) := by decide +kernel
theorem dX8_init_102 : decode cX8_init 102 = .ok (.invokespecial 51, 3) := by decide +kernel
theorem dX8_init_105 : decode cX8_init 105 = .ok (.putfield 52, 3) := by decide +kernel
theorem dX8_init_108 : decode cX8_init 108 = .ok (.aload_n 0, 1) := by decide +kernel
theorem dX8_init_109 : decode cX8_init 109 = .ok (.iconst 5, 1) := by decide +kernel
theorem dX8_init_110 : decode cX8_init 110 = .ok (.newarray .int, 2) := by decide +kernel
theorem dX8_init_112 : decode cX8_init 112 = .ok (.putfield 56, 3) := by decide +kernel
theorem dX8_init_115 : decode cX8_init 115 = .ok (.aload_n 0, 1) := by decide +kernel
theorem dX8_init_116 : decode cX8_init 116 = .ok (.bipush 12, 2) := by decide +kernel
theorem dX8_init_118 : decode cX8_init 118 = .ok (.putfield 60, 3) := by decide +kernel
theorem dX8_init_121 : decode cX8_init 121 = .ok (.return_, 1) := by decide +kernel
theorem dX8_card_0 : decode cX8_card 0 = .ok (.iload_n 1, 1) := by decide +kernel
theorem dX8_card_1 : decode cX8_card 1 = .ok (.iconst 0, 1) := by decide +kernel
theorem dX8_card_2 : decode cX8_card 2 = .ok (.iconst 2, 1) := by decide +kernel
theorem dX8_card_3 : decode cX8_card 3 = .ok (.invokestatic 64, 3) := by decide +kernel
theorem dX8_card_6 : decode cX8_card 6 = .ok (.ifCond .ne 22, 3) := by decide +kernel
theorem dX8_card_9 : decode cX8_card 9 = .ok (.iload_n 2, 1) := by decide +kernel
theorem dX8_card_10 : decode cX8_card 10 = .ok (.iconst 0, 1) := by decide +kernel
theorem dX8_card_11 : decode cX8_card 11 = .ok (.iconst 5, 1) := by decide +kernel
theorem dX8_card_12 : decode cX8_card 12 = .ok (.invokestatic 64, 3) := by decide +kernel
theorem dX8_card_15 : decode cX8_card 15 = .ok (.ifCond .ne 13, 3) := by decide +kernel
theorem dX8_card_18 : decode cX8_card 18 = .ok (.iload_n 3, 1) := by decide +kernel
theorem dX8_card_19 : decode cX8_card 19 = .ok (.iconst 0, 1) := by decide +kernel
theorem dX8_card_20 : decode cX8_card 20 = .ok (.bipush 9, 2) := by decide +kernel
theorem dX8_card_22 : decode cX8_card 22 = .ok (.invokestatic 64, 3) := by decide +kernel
theorem dX8_card_25 : decode cX8_card 25 = .ok (.ifCond .eq 6, 3) := by decide +kernel
theorem dX8_card_28 : decode cX8_card 28 = .ok (.bipush (-2), 2) := by decide +kernel
theorem dX8_card_30 : decode cX8_card 30 = .ok (.ireturn, 1) := by decide +kernel
theorem dX8_card_31 : decode cX8_card 31 = .ok (.aload_n 0, 1) := by decide +kernel
theorem dX8_card_32 : decode cX8_card 32 = .ok (.getfield 10, 3) := by decide +kernel
theorem dX8_card_35 : decode cX8_card 35 = .ok (.iload_n 1, 1) := by decide +kernel
theorem dX8_card_36 : decode cX8_card 36 = .ok (.iload_n 2, 1) := by decide +kernel
theorem dX8_card_37 : decode cX8_card 37 = .ok (.iload_n 3, 1) := by decide +kernel
theorem dX8_card_38 : decode cX8_card 38 = .ok (.invokevirtual 68, 3) := by decide +kernel
theorem dX8_card_41 : decode cX8_card 41 = .ok (.ireturn, 1) := by decide +kernel
theorem dX8_power_0 : decode cX8_power 0 = .ok (.aload_n 0, 1) := by decide +kernel
theorem dX8_power_1 : decode cX8_power 1 = .ok (.iload_n 1, 1) := by decide +kernel
theorem dX8_power_2 : decode cX8_power 2 = .ok (.invokevirtual 72, 3) := by decide +kernel
theorem dX8_power_5 : decode cX8_power 5 = .ok (.ifCond .ne 13, 3) := by decide +kernel
theorem dX8_power_8 : decode cX8_power 8 = .ok (.iload_n 2, 1) := by decide +kernel
theorem dX8_power_9 : decode cX8_power 9 = .ok (.iconst 0, 1) := by decide +kernel
theorem dX8_power_10 : decode cX8_power 10 = .ok (.bipush 9, 2) := by decide +kernel
theorem dX8_power_12 : decode cX8_power 12 = .ok (.invokestatic 64, 3) := by decide +kernel
theorem dX8_power_15 : decode cX8_power 15 = .ok (.ifCond .eq 6, 3) := by decide +kernel
theorem dX8_power_18 : decode cX8_power 18 = .ok (.bipush (-2), 2) := by decide +kernel
theorem dX8_power_20 : decode cX8_power 20 = .ok (.ireturn, 1) := by decide +kernel
theorem dX8_power_21 : decode cX8_power 21 = .ok (.aload_n 0, 1) := by decide +kernel
theorem dX8_power_22 : decode cX8_power 22 = .ok (.getfield 10, 3) := by decide +kernel
theorem dX8_power_25 : decode cX8_power 25 = .ok (.getfield 76, 3) := by decide +kernel
theorem dX8_power_28 : decode cX8_power 28 = .ok (.iload_n 1, 1) := by decide +kernel
theorem dX8_power_29 : decode cX8_power 29 = .ok (.iaload, 1) := by decide +kernel
theorem dX8_power_30 : decode cX8_power 30 = .ok (.istore_n 3, 1) := by decide +kernel
theorem dX8_power_31 : decode cX8_power 31 = .ok (.aload_n 0, 1) := by decide +kernel
theorem dX8_power_32 : decode cX8_power 32 = .ok (.getfield 10, 3) := by decide +kernel
theorem dX8_power_35 : decode cX8_power 35 = .ok (.getfield 76, 3) := by decide +kernel
theorem dX8_power_38 : decode cX8_power 38 = .ok (.iload_n 1, 1) := by decide +kernel
theorem dX8_power_39 : decode cX8_power 39 = .ok (.iload_n 2, 1) := by decide +kernel
theorem dX8_power_40 : decode cX8_power 40 = .ok (.iastore, 1) := by decide +kernel
theorem dX8_power_41 : decode cX8_power 41 = .ok (.aload_n 0, 1) := by decide +kernel
theorem dX8_power_42 : decode cX8_power 42 = .ok (.invokevirtual 79, 3) := by decide +kernel
theorem dX8_power_45 : decode cX8_power 45 = .ok (.iload_n 3, 1) := by decide +kernel
theorem dX8_power_46 : decode cX8_power 46 = .ok (.ireturn, 1) := by decide +kernel
theorem dX8_deck_0 : decode cX8_deck 0 = .ok (.aload_n 0, 1) := by decide +kernel
theorem dX8_deck_1 : decode cX8_deck 1 = .ok (.getfield 82, 3) := by decide +kernel
theorem dX8_deck_4 : decode cX8_deck 4 = .ok (.iconst 5, 1) := by decide +kernel
theorem dX8_deck_5 : decode cX8_deck 5 = .ok (.if_icmp .lt 6, 3) := by decide +kernel
theorem dX8_deck_8 : decode cX8_deck 8 = .ok (.bipush (-4), 2) := by decide +kernel
theorem dX8_deck_10 : decode cX8_deck 10 = .ok (.ireturn, 1) := by decide +kernel
theorem dX8_deck_11 : decode cX8_deck 11 = .ok (.aload_n 0, 1) := by decide +kernel
theorem dX8_deck_12 : decode cX8_deck 12 = .ok (.dup, 1) := by decide +kernel
theorem dX8_deck_13 : decode cX8_deck 13 = .ok (.getfield 82, 3) := by decide +kernel
theorem dX8_deck_16 : decode cX8_deck 16 = .ok (.iconst 1, 1) := by decide +kernel
theorem dX8_deck_17 : decode cX8_deck 17 = .ok (.iadd, 1) := by decide +kernel
theorem dX8_deck_18 : decode cX8_deck 18 = .ok (.putfield 82, 3) := by decide +kernel
theorem dX8_deck_21 : decode cX8_deck 21 = .ok (.aload_n 0, 1) := by decide +kernel
theorem dX8_deck_22 : decode cX8_deck 22 = .ok (.invokevirtual 79, 3) := by decide +kernel
theorem dX8_deck_25 : decode cX8_deck 25 = .ok (.aload_n 0, 1) := by decide +kernel
theorem dX8_deck_26 : decode cX8_deck 26 = .ok (.getfield 82, 3) := by decide +kernel
theorem dX8_deck_29 : decode cX8_deck 29 = .ok (.iconst 1, 1) := by decide +kernel
theorem dX8_deck_30 : decode cX8_deck 30 = .ok (.isub, 1) := by decide +kernel
theorem dX8_deck_31 : decode cX8_deck 31 = .ok (.ireturn, 1) := by decide +kernel
theorem dX8_add_0 : decode cX8_add 0 = .ok (.aload_n 0, 1) := by decide +kernel
theorem dX8_add_1 : decode cX8_add 1 = .ok (.iload_n 1, 1) := by decide +kernel
theorem dX8_add_2 : decode cX8_add 2 = .ok (.invokevirtual 85, 3) := by decide +kernel
theorem dX8_add_5 : decode cX8_add 5 = .ok (.ifCond .ne 11, 3) := by decide +kernel
theorem dX8_add_8 : decode cX8_add 8 = .ok (.aload_n 0, 1) := by decide +kernel
theorem dX8_add_9 : decode cX8_add 9 = .ok (.iload_n 2, 1) := by decide +kernel
theorem dX8_add_10 : decode cX8_add 10 = .ok (.invokevirtual 72, 3) := by decide +kernel
theorem dX8_add_13 : decode cX8_add 13 = .ok (.ifCond .eq 6, 3) := by decide +kernel
theorem dX8_add_16 : decode cX8_add 16 = .ok (.bipush (-2), 2) := by decide +kernel
theorem dX8_add_18 : decode cX8_add 18 = .ok (.ireturn, 1) := by decide +kernel
theorem dX8_add_19 : decode cX8_add 19 = .ok (.aload_n 0, 1) := by decide +kernel
theorem dX8_add_20 : decode cX8_add 20 = .ok (.getfield 18, 3) := by decide +kernel
theorem dX8_add_23 : decode cX8_add 23 = .ok (.iload_n 1, 1) := by decide +kernel
theorem dX8_add_24 : decode cX8_add 24 = .ok (.aaload, 1) := by decide +kernel
theorem dX8_add_25 : decode cX8_add 25 = .ok (.iload_n 2, 1) := by decide +kernel
theorem dX8_add_26 : decode cX8_add 26 = .ok (.invokevirtual 88, 3) := by decide +kernel
theorem dX8_add_29 : decode cX8_add 29 = .ok (.istore_n 3, 1) := by decide +kernel
theorem dX8_add_30 : decode cX8_add 30 = .ok (.iload_n 3, 1) := by decide +kernel
theorem dX8_add_31 : decode cX8_add 31 = .ok (.bipush (-4), 2) := by decide +kernel
theorem dX8_add_33 : decode cX8_add 33 = .ok (.if_icmp .eq 7, 3) := by decide +kernel
theorem dX8_add_36 : decode cX8_add 36 = .ok (.aload_n 0, 1) := by decide +kernel
theorem dX8_add_37 : decode cX8_add 37 = .ok (.invokevirtual 79, 3) := by decide +kernel
theorem dX8_add_40 : decode cX8_add 40 = .ok (.iload_n 3, 1) := by decide +kernel
theorem dX8_add_41 : decode cX8_add 41 = .ok (.ireturn, 1) := by decide +kernel
theorem dX8_drop_0 : decode cX8_drop 0 = .ok (.aload_n 0, 1) := by decide +kernel
theorem dX8_drop_1 : decode cX8_drop 1 = .ok (.iload_n 1, 1) := by decide +kernel
theorem dX8_drop_2 : decode cX8_drop 2 = .ok (.invokevirtual 85, 3) := by decide +kernel
theorem dX8_drop_5 : decode cX8_drop 5 = .ok (.ifCond .ne 12, 3) := by decide +kernel
theorem dX8_drop_8 : decode cX8_drop 8 = .ok (.aload_n 0, 1) := by decide +kernel
theorem dX8_drop_9 : decode cX8_drop 9 = .ok (.iload_n 1, 1) := by decide +kernel
theorem dX8_drop_10 : decode cX8_drop 10 = .ok (.iload_n 2, 1) := by decide +kernel
theorem dX8_drop_11 : decode cX8_drop 11 = .ok (.invokevirtual 92, 3) := by decide +kernel
theorem dX8_drop_14 : decode cX8_drop 14 = .ok (.ifCond .eq 6, 3) := by decide +kernel
theorem dX8_drop_17 : decode cX8_drop 17 = .ok (.bipush (-2), 2) := by decide +kernel
theorem dX8_drop_19 : decode cX8_drop 19 = .ok (.ireturn, 1) := by decide +kernel
theorem dX8_drop_20 : decode cX8_drop 20 = .ok (.aload_n 0, 1) := by decide +kernel
theorem dX8_drop_21 : decode cX8_drop 21 = .ok (.getfield 18, 3) := by decide +kernel
theorem dX8_drop_24 : decode cX8_drop 24 = .ok (.iload_n 1, 1) := by decide +kernel
theorem dX8_drop_25 : decode cX8_drop 25 = .ok (.aaload, 1) := by decide +kernel
theorem dX8_drop_26 : decode cX8_drop 26 = .ok (.iload_n 2, 1) := by decide +kernel
theorem dX8_drop_27 : decode cX8_drop 27 = .ok (.invokevirtual 96, 3) := by decide +kernel
theorem dX8_drop_30 : decode cX8_drop 30 = .ok (.istore_n 3, 1) := by decide +kernel
theorem dX8_drop_31 : decode cX8_drop 31 = .ok (.aload_n 0, 1) := by decide +kernel
theorem dX8_drop_32 : decode cX8_drop 32 = .ok (.invokevirtual 79, 3) := by decide +kernel
theorem dX8_drop_35 : decode cX8_drop 35 = .ok (.iload_n 3, 1) := by decide +kernel
theorem dX8_drop_36 : decode cX8_drop 36 = .ok (.ireturn, 1) := by decide +kernel
theorem dX8_swap_0 : decode cX8_swap 0 = .ok (.aload_n 0, 1) := by decide +kernel
theorem dX8_swap_1 : decode cX8_swap 1 = .ok (.iload_n 1, 1) := by decide +kernel
theorem dX8_swap_2 : decode cX8_swap 2 = .ok (.invokevirtual 85, 3) := by decide +kernel
theorem dX8_swap_5 : decode cX8_swap 5 = .ok (.ifCond .ne 21, 3) := by decide +kernel
theorem dX8_swap_8 : decode cX8_swap 8 = .ok (.aload_n 0, 1) := by decide +kernel
theorem dX8_swap_9 : decode cX8_swap 9 = .ok (.iload_n 1, 1) := by decide +kernel
theorem dX8_swap_10 : decode cX8_swap 10 = .ok (.iload_n 2, 1) := by decide +kernel
theorem dX8_swap_11 : decode cX8_swap 11 = .ok (.invokevirtual 92, 3) := by decide +kernel
theorem dX8_swap_14 : decode cX8_swap 14 = .ok (.ifCond .ne 12, 3) := by decide +kernel
theorem dX8_swap_17 : decode cX8_swap 17 = .ok (.aload_n 0, 1) := by decide +kernel
theorem dX8_swap_18 : decode cX8_swap 18 = .ok (.iload_n 1, 1) := by decide +kernel
theorem dX8_swap_19 : decode cX8_swap 19 = .ok (.iload_n 3, 1) := by decide +kernel
theorem dX8_swap_20 : decode cX8_swap 20 = .ok (.invokevirtual 92, 3) := by decide +kernel
theorem dX8_swap_23 : decode cX8_swap 23 = .ok (.ifCond .eq 6, 3) := by decide +kernel
theorem dX8_swap_26 : decode cX8_swap 26 = .ok (.bipush (-2), 2) := by decide +kernel
theorem dX8_swap_28 : decode cX8_swap 28 = .ok (.ireturn, 1) := by decide +kernel
theorem dX8_swap_29 : decode cX8_swap 29 = .ok (.aload_n 0, 1) := by decide +kernel
theorem dX8_swap_30 : decode cX8_swap 30 = .ok (.getfield 18, 3) := by decide +kernel
theorem dX8_swap_33 : decode cX8_swap 33 = .ok (.iload_n 1, 1) := by decide +kernel
theorem dX8_swap_34 : decode cX8_swap 34 = .ok (.aaload, 1) := by decide +kernel
theorem dX8_swap_35 : decode cX8_swap 35 = .ok (.iload_n 2, 1) := by decide +kernel
theorem dX8_swap_36 : decode cX8_swap 36 = .ok (.iload_n 3, 1) := by decide +kernel
theorem dX8_swap_37 : decode cX8_swap 37 = .ok (.invokevirtual 99, 3) := by decide +kernel
theorem dX8_swap_40 : decode cX8_swap 40 = .ok (.aload_n 0, 1) := by decide +kernel
theorem dX8_swap_41 : decode cX8_swap 41 = .ok (.invokevirtual 79, 3) := by decide +kernel
theorem dX8_swap_44 : decode cX8_swap 44 = .ok (.iconst 1, 1) := by decide +kernel
theorem dX8_swap_45 : decode cX8_swap 45 = .ok (.ireturn, 1) := by decide +kernel
theorem dX8_at_0 : decode cX8_at 0 = .ok (.aload_n 0, 1) := by decide +kernel
theorem dX8_at_1 : decode cX8_at 1 = .ok (.iload_n 1, 1) := by decide +kernel
theorem dX8_at_2 : decode cX8_at 2 = .ok (.invokevirtual 85, 3) := by decide +kernel
theorem dX8_at_5 : decode cX8_at 5 = .ok (.ifCond .ne 7, 3) := by decide +kernel
theorem dX8_at_8 : decode cX8_at 8 = .ok (.iload_n 2, 1) := by decide +kernel
theorem dX8_at_9 : decode cX8_at 9 = .ok (.ifCond .ge 6, 3) := by decide +kernel
theorem dX8_at_12 : decode cX8_at 12 = .ok (.bipush (-2), 2) := by decide +kernel
theorem dX8_at_14 : decode cX8_at 14 = .ok (.ireturn, 1) := by decide +kernel
theorem dX8_at_15 : decode cX8_at 15 = .ok (.aload_n 0, 1) := by decide +kernel
theorem dX8_at_16 : decode cX8_at 16 = .ok (.iload_n 1, 1) := by decide +kernel
theorem dX8_at_17 : decode cX8_at 17 = .ok (.iload_n 2, 1) := by decide +kernel
theorem dX8_at_18 : decode cX8_at 18 = .ok (.invokevirtual 92, 3) := by decide +kernel
theorem dX8_at_21 : decode cX8_at 21 = .ok (.ifCond .eq 7, 3) := by decide +kernel
theorem dX8_at_24 : decode cX8_at 24 = .ok (.iconst (-1), 1) := by decide +kernel
theorem dX8_at_25 : decode cX8_at 25 = .ok (.goto 14, 3) := by decide +kernel
theorem dX8_at_28 : decode cX8_at 28 = .ok (.aload_n 0, 1) := by decide +kernel
theorem dX8_at_29 : decode cX8_at 29 = .ok (.getfield 18, 3) := by decide +kernel
theorem dX8_at_32 : decode cX8_at 32 = .ok (.iload_n 1, 1) := by decide +kernel
theorem dX8_at_33 : decode cX8_at 33 = .ok (.aaload, 1) := by decide +kernel
theorem dX8_at_34 : decode cX8_at 34 = .ok (.getfield 103, 3) := by decide +kernel
theorem dX8_at_37 : decode cX8_at 37 = .ok (.iload_n 2, 1) := by decide +kernel
theorem dX8_at_38 : decode cX8_at 38 = .ok (.iaload, 1) := by decide +kernel
theorem dX8_at_39 : decode cX8_at 39 = .ok (.ireturn, 1) := by decide +kernel
theorem dX8_life_0 : decode cX8_life 0 = .ok (.iload_n 1, 1) := by decide +kernel
theorem dX8_life_1 : decode cX8_life 1 = .ok (.iconst 5, 1) := by decide +kernel
theorem dX8_life_2 : decode cX8_life 2 = .ok (.bipush 40, 2) := by decide +kernel
theorem dX8_life_4 : decode cX8_life 4 = .ok (.invokestatic 64, 3) := by decide +kernel
theorem dX8_life_7 : decode cX8_life 7 = .ok (.ifCond .eq 6, 3) := by decide +kernel
theorem dX8_life_10 : decode cX8_life 10 = .ok (.bipush (-2), 2) := by decide +kernel
theorem dX8_life_12 : decode cX8_life 12 = .ok (.ireturn, 1) := by decide +kernel
theorem dX8_life_13 : decode cX8_life 13 = .ok (.aload_n 0, 1) := by decide +kernel
theorem dX8_life_14 : decode cX8_life 14 = .ok (.getfield 60, 3) := by decide +kernel
theorem dX8_life_17 : decode cX8_life 17 = .ok (.istore_n 2, 1) := by decide +kernel
theorem dX8_life_18 : decode cX8_life 18 = .ok (.aload_n 0, 1) := by decide +kernel
theorem dX8_life_19 : decode cX8_life 19 = .ok (.iload_n 1, 1) := by decide +kernel
theorem dX8_life_20 : decode cX8_life 20 = .ok (.putfield 60, 3) := by decide +kernel
theorem dX8_life_23 : decode cX8_life 23 = .ok (.aload_n 0, 1) := by decide +kernel
theorem dX8_life_24 : decode cX8_life 24 = .ok (.invokevirtual 79, 3) := by decide +kernel
theorem dX8_life_27 : decode cX8_life 27 = .ok (.iload_n 2, 1) := by decide +kernel
theorem dX8_life_28 : decode cX8_life 28 = .ok (.ireturn, 1) := by decide +kernel
theorem dX8_play_0 : decode cX8_play 0 = .ok (.aload_n 0, 1) := by decide +kernel
theorem dX8_play_1 : decode cX8_play 1 = .ok (.iload_n 1, 1) := by decide +kernel
theorem dX8_play_2 : decode cX8_play 2 = .ok (.invokevirtual 85, 3) := by decide +kernel
theorem dX8_play_5 : decode cX8_play 5 = .ok (.ifCond .ne 11, 3) := by decide +kernel
theorem dX8_play_8 : decode cX8_play 8 = .ok (.aload_n 0, 1) := by decide +kernel
theorem dX8_play_9 : decode cX8_play 9 = .ok (.iload_n 2, 1) := by decide +kernel
theorem dX8_play_10 : decode cX8_play 10 = .ok (.invokevirtual 85, 3) := by decide +kernel
theorem dX8_play_13 : decode cX8_play 13 = .ok (.ifCond .eq 6, 3) := by decide +kernel
theorem dX8_play_16 : decode cX8_play 16 = .ok (.bipush (-2), 2) := by decide +kernel
theorem dX8_play_18 : decode cX8_play 18 = .ok (.ireturn, 1) := by decide +kernel
theorem dX8_play_19 : decode cX8_play 19 = .ok (.aload_n 0, 1) := by decide +kernel
theorem dX8_play_20 : decode cX8_play 20 = .ok (.invokevirtual 106, 3) := by decide +kernel
theorem dX8_play_23 : decode cX8_play 23 = .ok (.aload_n 0, 1) := by decide +kernel
theorem dX8_play_24 : decode cX8_play 24 = .ok (.getfield 28, 3) := by decide +kernel
theorem dX8_play_27 : decode cX8_play 27 = .ok (.aload_n 0, 1) := by decide +kernel
theorem dX8_play_28 : decode cX8_play 28 = .ok (.getfield 35, 3) := by decide +kernel
theorem dX8_play_31 : decode cX8_play 31 = .ok (.getfield 109, 3) := by decide +kernel
theorem dX8_play_34 : decode cX8_play 34 = .ok (.iload_n 1, 1) := by decide +kernel
theorem dX8_play_35 : decode cX8_play 35 = .ok (.aaload, 1) := by decide +kernel
theorem dX8_play_36 : decode cX8_play 36 = .ok (.aload_n 0, 1) := by decide +kernel
theorem dX8_play_37 : decode cX8_play 37 = .ok (.getfield 35, 3) := by decide +kernel
theorem dX8_play_40 : decode cX8_play 40 = .ok (.getfield 109, 3) := by decide +kernel
theorem dX8_play_43 : decode cX8_play 43 = .ok (.iload_n 2, 1) := by decide +kernel
theorem dX8_play_44 : decode cX8_play 44 = .ok (.aaload, 1) := by decide +kernel
theorem dX8_play_45 : decode cX8_play 45 = .ok (.aload_n 0, 1) := by decide +kernel
theorem dX8_play_46 : decode cX8_play 46 = .ok (.getfield 60, 3) := by decide +kernel
theorem dX8_play_49 : decode cX8_play 49 = .ok (.invokevirtual 113, 3) := by decide +kernel
theorem dX8_play_52 : decode cX8_play 52 = .ok (.ireturn, 1) := by decide +kernel
theorem dX8_told_0 : decode cX8_told 0 = .ok (.aload_n 0, 1) := by decide +kernel
theorem dX8_told_1 : decode cX8_told 1 = .ok (.iload_n 1, 1) := by decide +kernel
theorem dX8_told_2 : decode cX8_told 2 = .ok (.invokevirtual 85, 3) := by decide +kernel
theorem dX8_told_5 : decode cX8_told 5 = .ok (.ifCond .ne 20, 3) := by decide +kernel
theorem dX8_told_8 : decode cX8_told 8 = .ok (.aload_n 0, 1) := by decide +kernel
theorem dX8_told_9 : decode cX8_told 9 = .ok (.iload_n 2, 1) := by decide +kernel
theorem dX8_told_10 : decode cX8_told 10 = .ok (.invokevirtual 85, 3) := by decide +kernel
theorem dX8_told_13 : decode cX8_told 13 = .ok (.ifCond .ne 12, 3) := by decide +kernel
theorem dX8_told_16 : decode cX8_told 16 = .ok (.iload_n 3, 1) := by decide +kernel
theorem dX8_told_17 : decode cX8_told 17 = .ok (.iconst 0, 1) := by decide +kernel
theorem dX8_told_18 : decode cX8_told 18 = .ok (.iconst 4, 1) := by decide +kernel
theorem dX8_told_19 : decode cX8_told 19 = .ok (.invokestatic 64, 3) := by decide +kernel
theorem dX8_told_22 : decode cX8_told 22 = .ok (.ifCond .eq 6, 3) := by decide +kernel
theorem dX8_told_25 : decode cX8_told 25 = .ok (.ldc 117, 2) := by decide +kernel
theorem dX8_told_27 : decode cX8_told 27 = .ok (.ireturn, 1) := by decide +kernel
theorem dX8_told_28 : decode cX8_told 28 = .ok (.aload_n 0, 1) := by decide +kernel
theorem dX8_told_29 : decode cX8_told 29 = .ok (.invokevirtual 106, 3) := by decide +kernel
theorem dX8_told_32 : decode cX8_told 32 = .ok (.aload_n 0, 1) := by decide +kernel
theorem dX8_told_33 : decode cX8_told 33 = .ok (.getfield 28, 3) := by decide +kernel
theorem dX8_told_36 : decode cX8_told 36 = .ok (.aload_n 0, 1) := by decide +kernel
theorem dX8_told_37 : decode cX8_told 37 = .ok (.getfield 35, 3) := by decide +kernel
theorem dX8_told_40 : decode cX8_told 40 = .ok (.getfield 109, 3) := by decide +kernel
theorem dX8_told_43 : decode cX8_told 43 = .ok (.iload_n 1, 1) := by decide +kernel
theorem dX8_told_44 : decode cX8_told 44 = .ok (.aaload, 1) := by decide +kernel
theorem dX8_told_45 : decode cX8_told 45 = .ok (.aload_n 0, 1) := by decide +kernel
theorem dX8_told_46 : decode cX8_told 46 = .ok (.getfield 35, 3) := by decide +kernel
theorem dX8_told_49 : decode cX8_told 49 = .ok (.getfield 109, 3) := by decide +kernel
theorem dX8_told_52 : decode cX8_told 52 = .ok (.iload_n 2, 1) := by decide +kernel
theorem dX8_told_53 : decode cX8_told 53 = .ok (.aaload, 1) := by decide +kernel
theorem dX8_told_54 : decode cX8_told 54 = .ok (.aload_n 0, 1) := by decide +kernel
theorem dX8_told_55 : decode cX8_told 55 = .ok (.getfield 60, 3) := by decide +kernel
theorem dX8_told_58 : decode cX8_told 58 = .ok (.invokevirtual 113, 3) := by decide +kernel
theorem dX8_told_61 : decode cX8_told 61 = .ok (.pop, 1) := by decide +kernel
theorem dX8_told_62 : decode cX8_told 62 = .ok (.iload_n 3, 1) := by decide +kernel
theorem dX8_told_63 : decode cX8_told 63 = .ok (.tableswitch 70 0 3 #[29, 37, 48, 59], 29) := by decide +kernel
theorem dX8_told_92 : decode cX8_told 92 = .ok (.aload_n 0, 1) := by decide +kernel
theorem dX8_told_93 : decode cX8_told 93 = .ok (.getfield 28, 3) := by decide +kernel
theorem dX8_told_96 : decode cX8_told 96 = .ok (.getfield 118, 3) := by decide +kernel
theorem dX8_told_99 : decode cX8_told 99 = .ok (.ireturn, 1) := by decide +kernel
theorem dX8_told_100 : decode cX8_told 100 = .ok (.aload_n 0, 1) := by decide +kernel
theorem dX8_told_101 : decode cX8_told 101 = .ok (.getfield 28, 3) := by decide +kernel
theorem dX8_told_104 : decode cX8_told 104 = .ok (.getfield 121, 3) := by decide +kernel
theorem dX8_told_107 : decode cX8_told 107 = .ok (.getfield 125, 3) := by decide +kernel
theorem dX8_told_110 : decode cX8_told 110 = .ok (.ireturn, 1) := by decide +kernel
theorem dX8_told_111 : decode cX8_told 111 = .ok (.aload_n 0, 1) := by decide +kernel
theorem dX8_told_112 : decode cX8_told 112 = .ok (.getfield 28, 3) := by decide +kernel
theorem dX8_told_115 : decode cX8_told 115 = .ok (.getfield 130, 3) := by decide +kernel
theorem dX8_told_118 : decode cX8_told 118 = .ok (.getfield 125, 3) := by decide +kernel
theorem dX8_told_121 : decode cX8_told 121 = .ok (.ireturn, 1) := by decide +kernel
theorem dX8_told_122 : decode cX8_told 122 = .ok (.aload_n 0, 1) := by decide +kernel
theorem dX8_told_123 : decode cX8_told 123 = .ok (.getfield 28, 3) := by decide +kernel
theorem dX8_told_126 : decode cX8_told 126 = .ok (.getfield 121, 3) := by decide +kernel
theorem dX8_told_129 : decode cX8_told 129 = .ok (.getfield 133, 3) := by decide +kernel
theorem dX8_told_132 : decode cX8_told 132 = .ok (.ireturn, 1) := by decide +kernel
theorem dX8_told_133 : decode cX8_told 133 = .ok (.aload_n 0, 1) := by decide +kernel
theorem dX8_told_134 : decode cX8_told 134 = .ok (.getfield 28, 3) := by decide +kernel
theorem dX8_told_137 : decode cX8_told 137 = .ok (.getfield 130, 3) := by decide +kernel
theorem dX8_told_140 : decode cX8_told 140 = .ok (.getfield 133, 3) := by decide +kernel
theorem dX8_told_143 : decode cX8_told 143 = .ok (.ireturn, 1) := by decide +kernel
theorem dX8_table_0 : decode cX8_table 0 = .ok (.aload_n 0, 1) := by decide +kernel
theorem dX8_table_1 : decode cX8_table 1 = .ok (.iload_n 1, 1) := by decide +kernel
theorem dX8_table_2 : decode cX8_table 2 = .ok (.invokevirtual 85, 3) := by decide +kernel
theorem dX8_table_5 : decode cX8_table 5 = .ok (.ifCond .ne 11, 3) := by decide +kernel
theorem dX8_table_8 : decode cX8_table 8 = .ok (.aload_n 0, 1) := by decide +kernel
theorem dX8_table_9 : decode cX8_table 9 = .ok (.iload_n 2, 1) := by decide +kernel
theorem dX8_table_10 : decode cX8_table 10 = .ok (.invokevirtual 85, 3) := by decide +kernel
theorem dX8_table_13 : decode cX8_table 13 = .ok (.ifCond .eq 6, 3) := by decide +kernel
theorem dX8_table_16 : decode cX8_table 16 = .ok (.ldc 117, 2) := by decide +kernel
theorem dX8_table_18 : decode cX8_table 18 = .ok (.ireturn, 1) := by decide +kernel
theorem dX8_table_19 : decode cX8_table 19 = .ok (.aload_n 0, 1) := by decide +kernel
theorem dX8_table_20 : decode cX8_table 20 = .ok (.invokevirtual 106, 3) := by decide +kernel
theorem dX8_table_23 : decode cX8_table 23 = .ok (.aload_n 0, 1) := by decide +kernel
theorem dX8_table_24 : decode cX8_table 24 = .ok (.getfield 35, 3) := by decide +kernel
theorem dX8_table_27 : decode cX8_table 27 = .ok (.getfield 136, 3) := by decide +kernel
theorem dX8_table_30 : decode cX8_table 30 = .ok (.iload_n 1, 1) := by decide +kernel
theorem dX8_table_31 : decode cX8_table 31 = .ok (.aaload, 1) := by decide +kernel
theorem dX8_table_32 : decode cX8_table 32 = .ok (.iload_n 2, 1) := by decide +kernel
theorem dX8_table_33 : decode cX8_table 33 = .ok (.iaload, 1) := by decide +kernel
theorem dX8_table_34 : decode cX8_table 34 = .ok (.ireturn, 1) := by decide +kernel
theorem dX8_rings_0 : decode cX8_rings 0 = .ok (.aload_n 0, 1) := by decide +kernel
theorem dX8_rings_1 : decode cX8_rings 1 = .ok (.invokevirtual 106, 3) := by decide +kernel
theorem dX8_rings_4 : decode cX8_rings 4 = .ok (.aload_n 0, 1) := by decide +kernel
theorem dX8_rings_5 : decode cX8_rings 5 = .ok (.getfield 45, 3) := by decide +kernel
theorem dX8_rings_8 : decode cX8_rings 8 = .ok (.getfield 140, 3) := by decide +kernel
theorem dX8_rings_11 : decode cX8_rings 11 = .ok (.ireturn, 1) := by decide +kernel
theorem dX8_ring_0 : decode cX8_ring 0 = .ok (.aload_n 0, 1) := by decide +kernel
theorem dX8_ring_1 : decode cX8_ring 1 = .ok (.invokevirtual 106, 3) := by decide +kernel
theorem dX8_ring_4 : decode cX8_ring 4 = .ok (.iload_n 1, 1) := by decide +kernel
theorem dX8_ring_5 : decode cX8_ring 5 = .ok (.iconst 0, 1) := by decide +kernel
theorem dX8_ring_6 : decode cX8_ring 6 = .ok (.aload_n 0, 1) := by decide +kernel
theorem dX8_ring_7 : decode cX8_ring 7 = .ok (.getfield 45, 3) := by decide +kernel
theorem dX8_ring_10 : decode cX8_ring 10 = .ok (.getfield 140, 3) := by decide +kernel
theorem dX8_ring_13 : decode cX8_ring 13 = .ok (.iconst 1, 1) := by decide +kernel
theorem dX8_ring_14 : decode cX8_ring 14 = .ok (.isub, 1) := by decide +kernel
theorem dX8_ring_15 : decode cX8_ring 15 = .ok (.invokestatic 64, 3) := by decide +kernel
theorem dX8_ring_18 : decode cX8_ring 18 = .ok (.ifCond .ne 12, 3) := by decide +kernel
theorem dX8_ring_21 : decode cX8_ring 21 = .ok (.iload_n 2, 1) := by decide +kernel
theorem dX8_ring_22 : decode cX8_ring 22 = .ok (.iconst 0, 1) := by decide +kernel
theorem dX8_ring_23 : decode cX8_ring 23 = .ok (.iconst 2, 1) := by decide +kernel
theorem dX8_ring_24 : decode cX8_ring 24 = .ok (.invokestatic 64, 3) := by decide +kernel
theorem dX8_ring_27 : decode cX8_ring 27 = .ok (.ifCond .eq 6, 3) := by decide +kernel
theorem dX8_ring_30 : decode cX8_ring 30 = .ok (.bipush (-2), 2) := by decide +kernel
theorem dX8_ring_32 : decode cX8_ring 32 = .ok (.ireturn, 1) := by decide +kernel
theorem dX8_ring_33 : decode cX8_ring 33 = .ok (.aload_n 0, 1) := by decide +kernel
theorem dX8_ring_34 : decode cX8_ring 34 = .ok (.getfield 45, 3) := by decide +kernel
theorem dX8_ring_37 : decode cX8_ring 37 = .ok (.getfield 143, 3) := by decide +kernel
theorem dX8_ring_40 : decode cX8_ring 40 = .ok (.iconst 3, 1) := by decide +kernel
theorem dX8_ring_41 : decode cX8_ring 41 = .ok (.iload_n 1, 1) := by decide +kernel
theorem dX8_ring_42 : decode cX8_ring 42 = .ok (.imul, 1) := by decide +kernel
theorem dX8_ring_43 : decode cX8_ring 43 = .ok (.iload_n 2, 1) := by decide +kernel
theorem dX8_ring_44 : decode cX8_ring 44 = .ok (.iadd, 1) := by decide +kernel
theorem dX8_ring_45 : decode cX8_ring 45 = .ok (.iaload, 1) := by decide +kernel
theorem dX8_ring_46 : decode cX8_ring 46 = .ok (.ireturn, 1) := by decide +kernel
theorem dX8_share_0 : decode cX8_share 0 = .ok (.aload_n 0, 1) := by decide +kernel
theorem dX8_share_1 : decode cX8_share 1 = .ok (.iload_n 1, 1) := by decide +kernel
theorem dX8_share_2 : decode cX8_share 2 = .ok (.invokevirtual 85, 3) := by decide +kernel
theorem dX8_share_5 : decode cX8_share 5 = .ok (.ifCond .ne 12, 3) := by decide +kernel
theorem dX8_share_8 : decode cX8_share 8 = .ok (.iload_n 2, 1) := by decide +kernel
theorem dX8_share_9 : decode cX8_share 9 = .ok (.iconst 0, 1) := by decide +kernel
theorem dX8_share_10 : decode cX8_share 10 = .ok (.iconst 1, 1) := by decide +kernel
theorem dX8_share_11 : decode cX8_share 11 = .ok (.invokestatic 64, 3) := by decide +kernel
theorem dX8_share_14 : decode cX8_share 14 = .ok (.ifCond .eq 7, 3) := by decide +kernel
theorem dX8_share_17 : decode cX8_share 17 = .ok (.ldc2_w 145, 3) := by decide +kernel
theorem dX8_share_20 : decode cX8_share 20 = .ok (.lreturn, 1) := by decide +kernel
theorem dX8_share_21 : decode cX8_share 21 = .ok (.aload_n 0, 1) := by decide +kernel
theorem dX8_share_22 : decode cX8_share 22 = .ok (.invokevirtual 147, 3) := by decide +kernel
theorem dX8_share_25 : decode cX8_share 25 = .ok (.aload_n 0, 1) := by decide +kernel
theorem dX8_share_26 : decode cX8_share 26 = .ok (.getfield 35, 3) := by decide +kernel
theorem dX8_share_29 : decode cX8_share 29 = .ok (.getfield 150, 3) := by decide +kernel
theorem dX8_share_32 : decode cX8_share 32 = .ok (.getfield 154, 3) := by decide +kernel
theorem dX8_share_35 : decode cX8_share 35 = .ok (.iload_n 1, 1) := by decide +kernel
theorem dX8_share_36 : decode cX8_share 36 = .ok (.iaload, 1) := by decide +kernel
theorem dX8_share_37 : decode cX8_share 37 = .ok (.istore_n 3, 1) := by decide +kernel
theorem dX8_share_38 : decode cX8_share 38 = .ok (.aload_n 0, 1) := by decide +kernel
theorem dX8_share_39 : decode cX8_share 39 = .ok (.getfield 35, 3) := by decide +kernel
theorem dX8_share_42 : decode cX8_share 42 = .ok (.getfield 150, 3) := by decide +kernel
theorem dX8_share_45 : decode cX8_share 45 = .ok (.getfield 159, 3) := by decide +kernel
theorem dX8_share_48 : decode cX8_share 48 = .ok (.istore 4, 2) := by decide +kernel
theorem dX8_share_50 : decode cX8_share 50 = .ok (.iload_n 3, 1) := by decide +kernel
theorem dX8_share_51 : decode cX8_share 51 = .ok (.iload 4, 2) := by decide +kernel
theorem dX8_share_53 : decode cX8_share 53 = .ok (.invokestatic 162, 3) := by decide +kernel
theorem dX8_share_56 : decode cX8_share 56 = .ok (.istore 5, 2) := by decide +kernel
theorem dX8_share_58 : decode cX8_share 58 = .ok (.iload 5, 2) := by decide +kernel
theorem dX8_share_60 : decode cX8_share 60 = .ok (.ifCond .ne 7, 3) := by decide +kernel
theorem dX8_share_63 : decode cX8_share 63 = .ok (.ldc2_w 145, 3) := by decide +kernel
theorem dX8_share_66 : decode cX8_share 66 = .ok (.lreturn, 1) := by decide +kernel
theorem dX8_share_67 : decode cX8_share 67 = .ok (.iload_n 2, 1) := by decide +kernel
theorem dX8_share_68 : decode cX8_share 68 = .ok (.ifCond .ne 7, 3) := by decide +kernel
theorem dX8_share_71 : decode cX8_share 71 = .ok (.iload_n 3, 1) := by decide +kernel
theorem dX8_share_72 : decode cX8_share 72 = .ok (.goto 5, 3) := by decide +kernel
theorem dX8_share_75 : decode cX8_share 75 = .ok (.iload 4, 2) := by decide +kernel
theorem dX8_share_77 : decode cX8_share 77 = .ok (.iload 5, 2) := by decide +kernel
theorem dX8_share_79 : decode cX8_share 79 = .ok (.idiv, 1) := by decide +kernel
theorem dX8_share_80 : decode cX8_share 80 = .ok (.i2l, 1) := by decide +kernel
theorem dX8_share_81 : decode cX8_share 81 = .ok (.lreturn, 1) := by decide +kernel
theorem dX8_live_0 : decode cX8_live 0 = .ok (.aload_n 0, 1) := by decide +kernel
theorem dX8_live_1 : decode cX8_live 1 = .ok (.getfield 82, 3) := by decide +kernel
theorem dX8_live_4 : decode cX8_live 4 = .ok (.ifCond .ne 6, 3) := by decide +kernel
theorem dX8_live_7 : decode cX8_live 7 = .ok (.bipush (-3), 2) := by decide +kernel
theorem dX8_live_9 : decode cX8_live 9 = .ok (.ireturn, 1) := by decide +kernel
theorem dX8_live_10 : decode cX8_live 10 = .ok (.aload_n 0, 1) := by decide +kernel
theorem dX8_live_11 : decode cX8_live 11 = .ok (.invokevirtual 147, 3) := by decide +kernel
theorem dX8_live_14 : decode cX8_live 14 = .ok (.iconst 0, 1) := by decide +kernel
theorem dX8_live_15 : decode cX8_live 15 = .ok (.istore_n 1, 1) := by decide +kernel
theorem dX8_live_16 : decode cX8_live 16 = .ok (.iconst 0, 1) := by decide +kernel
theorem dX8_live_17 : decode cX8_live 17 = .ok (.istore_n 2, 1) := by decide +kernel
theorem dX8_live_18 : decode cX8_live 18 = .ok (.iload_n 2, 1) := by decide +kernel
theorem dX8_live_19 : decode cX8_live 19 = .ok (.aload_n 0, 1) := by decide +kernel
theorem dX8_live_20 : decode cX8_live 20 = .ok (.getfield 82, 3) := by decide +kernel
theorem dX8_live_23 : decode cX8_live 23 = .ok (.if_icmp .ge 27, 3) := by decide +kernel
theorem dX8_live_26 : decode cX8_live 26 = .ok (.aload_n 0, 1) := by decide +kernel
theorem dX8_live_27 : decode cX8_live 27 = .ok (.getfield 35, 3) := by decide +kernel
theorem dX8_live_30 : decode cX8_live 30 = .ok (.getfield 150, 3) := by decide +kernel
theorem dX8_live_33 : decode cX8_live 33 = .ok (.getfield 154, 3) := by decide +kernel
theorem dX8_live_36 : decode cX8_live 36 = .ok (.iload_n 2, 1) := by decide +kernel
theorem dX8_live_37 : decode cX8_live 37 = .ok (.iaload, 1) := by decide +kernel
theorem dX8_live_38 : decode cX8_live 38 = .ok (.ifCond .le 6, 3) := by decide +kernel
theorem dX8_live_41 : decode cX8_live 41 = .ok (.iinc 1 1, 3) := by decide +kernel
theorem dX8_live_44 : decode cX8_live 44 = .ok (.iinc 2 1, 3) := by decide +kernel
theorem dX8_live_47 : decode cX8_live 47 = .ok (.goto (-29), 3) := by decide +kernel
theorem dX8_live_50 : decode cX8_live 50 = .ok (.iload_n 1, 1) := by decide +kernel
theorem dX8_live_51 : decode cX8_live 51 = .ok (.ireturn, 1) := by decide +kernel
theorem dX8_standing_0 : decode cX8_standing 0 = .ok (.aload_n 0, 1) := by decide +kernel
theorem dX8_standing_1 : decode cX8_standing 1 = .ok (.iload_n 1, 1) := by decide +kernel
theorem dX8_standing_2 : decode cX8_standing 2 = .ok (.invokevirtual 85, 3) := by decide +kernel
theorem dX8_standing_5 : decode cX8_standing 5 = .ok (.ifCond .eq 6, 3) := by decide +kernel
theorem dX8_standing_8 : decode cX8_standing 8 = .ok (.ldc 117, 2) := by decide +kernel
theorem dX8_standing_10 : decode cX8_standing 10 = .ok (.ireturn, 1) := by decide +kernel
theorem dX8_standing_11 : decode cX8_standing 11 = .ok (.aload_n 0, 1) := by decide +kernel
theorem dX8_standing_12 : decode cX8_standing 12 = .ok (.invokevirtual 106, 3) := by decide +kernel
theorem dX8_standing_15 : decode cX8_standing 15 = .ok (.aload_n 0, 1) := by decide +kernel
theorem dX8_standing_16 : decode cX8_standing 16 = .ok (.aload_n 0, 1) := by decide +kernel
theorem dX8_standing_17 : decode cX8_standing 17 = .ok (.getfield 35, 3) := by decide +kernel
theorem dX8_standing_20 : decode cX8_standing 20 = .ok (.getfield 136, 3) := by decide +kernel
theorem dX8_standing_23 : decode cX8_standing 23 = .ok (.iload_n 1, 1) := by decide +kernel
theorem dX8_standing_24 : decode cX8_standing 24 = .ok (.aaload, 1) := by decide +kernel
theorem dX8_standing_25 : decode cX8_standing 25 = .ok (.invokevirtual 166, 3) := by decide +kernel
theorem dX8_standing_28 : decode cX8_standing 28 = .ok (.ireturn, 1) := by decide +kernel
theorem dX8_worth_0 : decode cX8_worth 0 = .ok (.aload_n 0, 1) := by decide +kernel
theorem dX8_worth_1 : decode cX8_worth 1 = .ok (.iload_n 1, 1) := by decide +kernel
theorem dX8_worth_2 : decode cX8_worth 2 = .ok (.invokevirtual 85, 3) := by decide +kernel
theorem dX8_worth_5 : decode cX8_worth 5 = .ok (.ifCond .ne 25, 3) := by decide +kernel
theorem dX8_worth_8 : decode cX8_worth 8 = .ok (.aload_n 0, 1) := by decide +kernel
theorem dX8_worth_9 : decode cX8_worth 9 = .ok (.iload_n 2, 1) := by decide +kernel
theorem dX8_worth_10 : decode cX8_worth 10 = .ok (.invokevirtual 72, 3) := by decide +kernel
theorem dX8_worth_13 : decode cX8_worth 13 = .ok (.ifCond .ne 17, 3) := by decide +kernel
theorem dX8_worth_16 : decode cX8_worth 16 = .ok (.aload_n 0, 1) := by decide +kernel
theorem dX8_worth_17 : decode cX8_worth 17 = .ok (.getfield 18, 3) := by decide +kernel
theorem dX8_worth_20 : decode cX8_worth 20 = .ok (.iload_n 1, 1) := by decide +kernel
theorem dX8_worth_21 : decode cX8_worth 21 = .ok (.aaload, 1) := by decide +kernel
theorem dX8_worth_22 : decode cX8_worth 22 = .ok (.iload_n 2, 1) := by decide +kernel
theorem dX8_worth_23 : decode cX8_worth 23 = .ok (.invokevirtual 170, 3) := by decide +kernel
theorem dX8_worth_26 : decode cX8_worth 26 = .ok (.iconst (-1), 1) := by decide +kernel
theorem dX8_worth_27 : decode cX8_worth 27 = .ok (.if_icmp .ne 6, 3) := by decide +kernel
theorem dX8_worth_30 : decode cX8_worth 30 = .ok (.ldc 117, 2) := by decide +kernel
theorem dX8_worth_32 : decode cX8_worth 32 = .ok (.ireturn, 1) := by decide +kernel
theorem dX8_worth_33 : decode cX8_worth 33 = .ok (.aload_n 0, 1) := by decide +kernel
theorem dX8_worth_34 : decode cX8_worth 34 = .ok (.invokevirtual 106, 3) := by decide +kernel
theorem dX8_worth_37 : decode cX8_worth 37 = .ok (.aload_n 0, 1) := by decide +kernel
theorem dX8_worth_38 : decode cX8_worth 38 = .ok (.iload_n 1, 1) := by decide +kernel
theorem dX8_worth_39 : decode cX8_worth 39 = .ok (.iload_n 2, 1) := by decide +kernel
theorem dX8_worth_40 : decode cX8_worth 40 = .ok (.invokevirtual 173, 3) := by decide +kernel
theorem dX8_worth_43 : decode cX8_worth 43 = .ok (.aload_n 0, 1) := by decide +kernel
theorem dX8_worth_44 : decode cX8_worth 44 = .ok (.aload_n 0, 1) := by decide +kernel
theorem dX8_worth_45 : decode cX8_worth 45 = .ok (.getfield 35, 3) := by decide +kernel
theorem dX8_worth_48 : decode cX8_worth 48 = .ok (.getfield 136, 3) := by decide +kernel
theorem dX8_worth_51 : decode cX8_worth 51 = .ok (.iload_n 1, 1) := by decide +kernel
theorem dX8_worth_52 : decode cX8_worth 52 = .ok (.aaload, 1) := by decide +kernel
theorem dX8_worth_53 : decode cX8_worth 53 = .ok (.invokevirtual 166, 3) := by decide +kernel
theorem dX8_worth_56 : decode cX8_worth 56 = .ok (.aload_n 0, 1) := by decide +kernel
theorem dX8_worth_57 : decode cX8_worth 57 = .ok (.aload_n 0, 1) := by decide +kernel
theorem dX8_worth_58 : decode cX8_worth 58 = .ok (.getfield 56, 3) := by decide +kernel
theorem dX8_worth_61 : decode cX8_worth 61 = .ok (.invokevirtual 166, 3) := by decide +kernel
theorem dX8_worth_64 : decode cX8_worth 64 = .ok (.isub, 1) := by decide +kernel
theorem dX8_worth_65 : decode cX8_worth 65 = .ok (.ireturn, 1) := by decide +kernel
theorem dX8_idle_0 : decode cX8_idle 0 = .ok (.aload_n 0, 1) := by decide +kernel
theorem dX8_idle_1 : decode cX8_idle 1 = .ok (.iload_n 1, 1) := by decide +kernel
theorem dX8_idle_2 : decode cX8_idle 2 = .ok (.invokevirtual 85, 3) := by decide +kernel
theorem dX8_idle_5 : decode cX8_idle 5 = .ok (.ifCond .ne 11, 3) := by decide +kernel
theorem dX8_idle_8 : decode cX8_idle 8 = .ok (.aload_n 0, 1) := by decide +kernel
theorem dX8_idle_9 : decode cX8_idle 9 = .ok (.iload_n 2, 1) := by decide +kernel
theorem dX8_idle_10 : decode cX8_idle 10 = .ok (.invokevirtual 72, 3) := by decide +kernel
theorem dX8_idle_13 : decode cX8_idle 13 = .ok (.ifCond .eq 6, 3) := by decide +kernel
theorem dX8_idle_16 : decode cX8_idle 16 = .ok (.bipush (-2), 2) := by decide +kernel
theorem dX8_idle_18 : decode cX8_idle 18 = .ok (.ireturn, 1) := by decide +kernel
theorem dX8_idle_19 : decode cX8_idle 19 = .ok (.aload_n 0, 1) := by decide +kernel
theorem dX8_idle_20 : decode cX8_idle 20 = .ok (.getfield 18, 3) := by decide +kernel
theorem dX8_idle_23 : decode cX8_idle 23 = .ok (.iload_n 1, 1) := by decide +kernel
theorem dX8_idle_24 : decode cX8_idle 24 = .ok (.aaload, 1) := by decide +kernel
theorem dX8_idle_25 : decode cX8_idle 25 = .ok (.iload_n 2, 1) := by decide +kernel
theorem dX8_idle_26 : decode cX8_idle 26 = .ok (.invokevirtual 170, 3) := by decide +kernel
theorem dX8_idle_29 : decode cX8_idle 29 = .ok (.iconst (-1), 1) := by decide +kernel
theorem dX8_idle_30 : decode cX8_idle 30 = .ok (.if_icmp .ne 6, 3) := by decide +kernel
theorem dX8_idle_33 : decode cX8_idle 33 = .ok (.bipush (-3), 2) := by decide +kernel
theorem dX8_idle_35 : decode cX8_idle 35 = .ok (.ireturn, 1) := by decide +kernel
theorem dX8_idle_36 : decode cX8_idle 36 = .ok (.aload_n 0, 1) := by decide +kernel
theorem dX8_idle_37 : decode cX8_idle 37 = .ok (.invokevirtual 106, 3) := by decide +kernel
theorem dX8_idle_40 : decode cX8_idle 40 = .ok (.aload_n 0, 1) := by decide +kernel
theorem dX8_idle_41 : decode cX8_idle 41 = .ok (.iload_n 1, 1) := by decide +kernel
theorem dX8_idle_42 : decode cX8_idle 42 = .ok (.iload_n 2, 1) := by decide +kernel
theorem dX8_idle_43 : decode cX8_idle 43 = .ok (.invokevirtual 173, 3) := by decide +kernel
theorem dX8_idle_46 : decode cX8_idle 46 = .ok (.iconst 0, 1) := by decide +kernel
theorem dX8_idle_47 : decode cX8_idle 47 = .ok (.istore_n 3, 1) := by decide +kernel
theorem dX8_idle_48 : decode cX8_idle 48 = .ok (.iload_n 3, 1) := by decide +kernel
theorem dX8_idle_49 : decode cX8_idle 49 = .ok (.aload_n 0, 1) := by decide +kernel
theorem dX8_idle_50 : decode cX8_idle 50 = .ok (.getfield 82, 3) := by decide +kernel
theorem dX8_idle_53 : decode cX8_idle 53 = .ok (.if_icmp .ge 31, 3) := by decide +kernel
theorem dX8_idle_56 : decode cX8_idle 56 = .ok (.aload_n 0, 1) := by decide +kernel
theorem dX8_idle_57 : decode cX8_idle 57 = .ok (.getfield 56, 3) := by decide +kernel
theorem dX8_idle_60 : decode cX8_idle 60 = .ok (.iload_n 3, 1) := by decide +kernel
theorem dX8_idle_61 : decode cX8_idle 61 = .ok (.iaload, 1) := by decide +kernel
theorem dX8_idle_62 : decode cX8_idle 62 = .ok (.aload_n 0, 1) := by decide +kernel
theorem dX8_idle_63 : decode cX8_idle 63 = .ok (.getfield 35, 3) := by decide +kernel
theorem dX8_idle_66 : decode cX8_idle 66 = .ok (.getfield 136, 3) := by decide +kernel
theorem dX8_idle_69 : decode cX8_idle 69 = .ok (.iload_n 1, 1) := by decide +kernel
theorem dX8_idle_70 : decode cX8_idle 70 = .ok (.aaload, 1) := by decide +kernel
theorem dX8_idle_71 : decode cX8_idle 71 = .ok (.iload_n 3, 1) := by decide +kernel
theorem dX8_idle_72 : decode cX8_idle 72 = .ok (.iaload, 1) := by decide +kernel
theorem dX8_idle_73 : decode cX8_idle 73 = .ok (.if_icmp .eq 5, 3) := by decide +kernel
theorem dX8_idle_76 : decode cX8_idle 76 = .ok (.iconst 0, 1) := by decide +kernel
theorem dX8_idle_77 : decode cX8_idle 77 = .ok (.ireturn, 1) := by decide +kernel
theorem dX8_idle_78 : decode cX8_idle 78 = .ok (.iinc 3 1, 3) := by decide +kernel
theorem dX8_idle_81 : decode cX8_idle 81 = .ok (.goto (-33), 3) := by decide +kernel
theorem dX8_idle_84 : decode cX8_idle 84 = .ok (.iconst 1, 1) := by decide +kernel
theorem dX8_idle_85 : decode cX8_idle 85 = .ok (.ireturn, 1) := by decide +kernel
theorem dX8_remedy_0 : decode cX8_remedy 0 = .ok (.iload_n 2, 1) := by decide +kernel
theorem dX8_remedy_1 : decode cX8_remedy 1 = .ok (.iconst 1, 1) := by decide +kernel
theorem dX8_remedy_2 : decode cX8_remedy 2 = .ok (.bipush 20, 2) := by decide +kernel
theorem dX8_remedy_4 : decode cX8_remedy 4 = .ok (.invokestatic 64, 3) := by decide +kernel
theorem dX8_remedy_7 : decode cX8_remedy 7 = .ok (.ifCond .ne 12, 3) := by decide +kernel
theorem dX8_remedy_10 : decode cX8_remedy 10 = .ok (.iload_n 1, 1) := by decide +kernel
theorem dX8_remedy_11 : decode cX8_remedy 11 = .ok (.iconst 1, 1) := by decide +kernel
theorem dX8_remedy_12 : decode cX8_remedy 12 = .ok (.iload_n 2, 1) := by decide +kernel
theorem dX8_remedy_13 : decode cX8_remedy 13 = .ok (.invokestatic 64, 3) := by decide +kernel
theorem dX8_remedy_16 : decode cX8_remedy 16 = .ok (.ifCond .eq 6, 3) := by decide +kernel
theorem dX8_remedy_19 : decode cX8_remedy 19 = .ok (.bipush (-2), 2) := by decide +kernel
theorem dX8_remedy_21 : decode cX8_remedy 21 = .ok (.ireturn, 1) := by decide +kernel
theorem dX8_remedy_22 : decode cX8_remedy 22 = .ok (.aload_n 0, 1) := by decide +kernel
theorem dX8_remedy_23 : decode cX8_remedy 23 = .ok (.getfield 82, 3) := by decide +kernel
theorem dX8_remedy_26 : decode cX8_remedy 26 = .ok (.ifCond .ne 6, 3) := by decide +kernel
theorem dX8_remedy_29 : decode cX8_remedy 29 = .ok (.bipush (-3), 2) := by decide +kernel
theorem dX8_remedy_31 : decode cX8_remedy 31 = .ok (.ireturn, 1) := by decide +kernel
theorem dX8_remedy_32 : decode cX8_remedy 32 = .ok (.aload_n 0, 1) := by decide +kernel
theorem dX8_remedy_33 : decode cX8_remedy 33 = .ok (.invokevirtual 147, 3) := by decide +kernel
theorem dX8_remedy_36 : decode cX8_remedy 36 = .ok (.iconst 1, 1) := by decide +kernel
theorem dX8_remedy_37 : decode cX8_remedy 37 = .ok (.istore_n 3, 1) := by decide +kernel
theorem dX8_remedy_38 : decode cX8_remedy 38 = .ok (.iload_n 3, 1) := by decide +kernel
theorem dX8_remedy_39 : decode cX8_remedy 39 = .ok (.bipush 9, 2) := by decide +kernel
theorem dX8_remedy_41 : decode cX8_remedy 41 = .ok (.if_icmp .gt 114, 3) := by decide +kernel
theorem dX8_remedy_44 : decode cX8_remedy 44 = .ok (.iconst 0, 1) := by decide +kernel
theorem dX8_remedy_45 : decode cX8_remedy 45 = .ok (.istore 4, 2) := by decide +kernel
theorem dX8_remedy_47 : decode cX8_remedy 47 = .ok (.iload 4, 2) := by decide +kernel
theorem dX8_remedy_49 : decode cX8_remedy 49 = .ok (.aload_n 0, 1) := by decide +kernel
theorem dX8_remedy_50 : decode cX8_remedy 50 = .ok (.getfield 10, 3) := by decide +kernel
theorem dX8_remedy_53 : decode cX8_remedy 53 = .ok (.getfield 176, 3) := by decide +kernel
theorem dX8_remedy_56 : decode cX8_remedy 56 = .ok (.if_icmp .ge 93, 3) := by decide +kernel
theorem dX8_remedy_59 : decode cX8_remedy 59 = .ok (.aload_n 0, 1) := by decide +kernel
theorem dX8_remedy_60 : decode cX8_remedy 60 = .ok (.getfield 10, 3) := by decide +kernel
theorem dX8_remedy_63 : decode cX8_remedy 63 = .ok (.getfield 76, 3) := by decide +kernel
theorem dX8_remedy_66 : decode cX8_remedy 66 = .ok (.iload 4, 2) := by decide +kernel
theorem dX8_remedy_68 : decode cX8_remedy 68 = .ok (.iaload, 1) := by decide +kernel
theorem dX8_remedy_69 : decode cX8_remedy 69 = .ok (.iload_n 3, 1) := by decide +kernel
theorem dX8_remedy_70 : decode cX8_remedy 70 = .ok (.isub, 1) := by decide +kernel
theorem dX8_remedy_71 : decode cX8_remedy 71 = .ok (.istore 5, 2) := by decide +kernel
theorem dX8_remedy_73 : decode cX8_remedy 73 = .ok (.aload_n 0, 1) := by decide +kernel
theorem dX8_remedy_74 : decode cX8_remedy 74 = .ok (.getfield 10, 3) := by decide +kernel
theorem dX8_remedy_77 : decode cX8_remedy 77 = .ok (.getfield 76, 3) := by decide +kernel
theorem dX8_remedy_80 : decode cX8_remedy 80 = .ok (.iload 4, 2) := by decide +kernel
theorem dX8_remedy_82 : decode cX8_remedy 82 = .ok (.iaload, 1) := by decide +kernel
theorem dX8_remedy_83 : decode cX8_remedy 83 = .ok (.iload_n 3, 1) := by decide +kernel
theorem dX8_remedy_84 : decode cX8_remedy 84 = .ok (.iadd, 1) := by decide +kernel
theorem dX8_remedy_85 : decode cX8_remedy 85 = .ok (.istore 6, 2) := by decide +kernel
theorem dX8_remedy_87 : decode cX8_remedy 87 = .ok (.iload 5, 2) := by decide +kernel
theorem dX8_remedy_89 : decode cX8_remedy 89 = .ok (.ifCond .lt 25, 3) := by decide +kernel
theorem dX8_remedy_92 : decode cX8_remedy 92 = .ok (.aload_n 0, 1) := by decide +kernel
theorem dX8_remedy_93 : decode cX8_remedy 93 = .ok (.iload_n 1, 1) := by decide +kernel
theorem dX8_remedy_94 : decode cX8_remedy 94 = .ok (.iload_n 2, 1) := by decide +kernel
theorem dX8_remedy_95 : decode cX8_remedy 95 = .ok (.iload 4, 2) := by decide +kernel
theorem dX8_remedy_97 : decode cX8_remedy 97 = .ok (.iload 5, 2) := by decide +kernel
theorem dX8_remedy_99 : decode cX8_remedy 99 = .ok (.invokevirtual 177, 3) := by decide +kernel
theorem dX8_remedy_102 : decode cX8_remedy 102 = .ok (.ifCond .eq 12, 3) := by decide +kernel
theorem dX8_remedy_105 : decode cX8_remedy 105 = .ok (.bipush 10, 2) := by decide +kernel
theorem dX8_remedy_107 : decode cX8_remedy 107 = .ok (.iload 4, 2) := by decide +kernel
theorem dX8_remedy_109 : decode cX8_remedy 109 = .ok (.imul, 1) := by decide +kernel
theorem dX8_remedy_110 : decode cX8_remedy 110 = .ok (.iload 5, 2) := by decide +kernel
theorem dX8_remedy_112 : decode cX8_remedy 112 = .ok (.iadd, 1) := by decide +kernel
theorem dX8_remedy_113 : decode cX8_remedy 113 = .ok (.ireturn, 1) := by decide +kernel
theorem dX8_remedy_114 : decode cX8_remedy 114 = .ok (.iload 6, 2) := by decide +kernel
theorem dX8_remedy_116 : decode cX8_remedy 116 = .ok (.bipush 9, 2) := by decide +kernel
theorem dX8_remedy_118 : decode cX8_remedy 118 = .ok (.if_icmp .gt 25, 3) := by decide +kernel
theorem dX8_remedy_121 : decode cX8_remedy 121 = .ok (.aload_n 0, 1) := by decide +kernel
theorem dX8_remedy_122 : decode cX8_remedy 122 = .ok (.iload_n 1, 1) := by decide +kernel
theorem dX8_remedy_123 : decode cX8_remedy 123 = .ok (.iload_n 2, 1) := by decide +kernel
theorem dX8_remedy_124 : decode cX8_remedy 124 = .ok (.iload 4, 2) := by decide +kernel
theorem dX8_remedy_126 : decode cX8_remedy 126 = .ok (.iload 6, 2) := by decide +kernel
theorem dX8_remedy_128 : decode cX8_remedy 128 = .ok (.invokevirtual 177, 3) := by decide +kernel
theorem dX8_remedy_131 : decode cX8_remedy 131 = .ok (.ifCond .eq 12, 3) := by decide +kernel
theorem dX8_remedy_134 : decode cX8_remedy 134 = .ok (.bipush 10, 2) := by decide +kernel
theorem dX8_remedy_136 : decode cX8_remedy 136 = .ok (.iload 4, 2) := by decide +kernel
theorem dX8_remedy_138 : decode cX8_remedy 138 = .ok (.imul, 1) := by decide +kernel
theorem dX8_remedy_139 : decode cX8_remedy 139 = .ok (.iload 6, 2) := by decide +kernel
theorem dX8_remedy_141 : decode cX8_remedy 141 = .ok (.iadd, 1) := by decide +kernel
theorem dX8_remedy_142 : decode cX8_remedy 142 = .ok (.ireturn, 1) := by decide +kernel
theorem dX8_remedy_143 : decode cX8_remedy 143 = .ok (.iinc 4 1, 3) := by decide +kernel
theorem dX8_remedy_146 : decode cX8_remedy 146 = .ok (.goto (-99), 3) := by decide +kernel
theorem dX8_remedy_149 : decode cX8_remedy 149 = .ok (.iinc 3 1, 3) := by decide +kernel
theorem dX8_remedy_152 : decode cX8_remedy 152 = .ok (.goto (-114), 3) := by decide +kernel
theorem dX8_remedy_155 : decode cX8_remedy 155 = .ok (.iconst (-1), 1) := by decide +kernel
theorem dX8_remedy_156 : decode cX8_remedy 156 = .ok (.ireturn, 1) := by decide +kernel
theorem dX8_count_0 : decode cX8_count 0 = .ok (.iload_n 1, 1) := by decide +kernel
theorem dX8_count_1 : decode cX8_count 1 = .ok (.tableswitch 54 0 3 #[31, 39, 44, 49], 31) := by decide +kernel
theorem dX8_count_32 : decode cX8_count 32 = .ok (.aload_n 0, 1) := by decide +kernel
theorem dX8_count_33 : decode cX8_count 33 = .ok (.getfield 10, 3) := by decide +kernel
theorem dX8_count_36 : decode cX8_count 36 = .ok (.getfield 176, 3) := by decide +kernel
theorem dX8_count_39 : decode cX8_count 39 = .ok (.ireturn, 1) := by decide +kernel
theorem dX8_count_40 : decode cX8_count 40 = .ok (.aload_n 0, 1) := by decide +kernel
theorem dX8_count_41 : decode cX8_count 41 = .ok (.getfield 82, 3) := by decide +kernel
theorem dX8_count_44 : decode cX8_count 44 = .ok (.ireturn, 1) := by decide +kernel
theorem dX8_count_45 : decode cX8_count 45 = .ok (.aload_n 0, 1) := by decide +kernel
theorem dX8_count_46 : decode cX8_count 46 = .ok (.invokevirtual 181, 3) := by decide +kernel
theorem dX8_count_49 : decode cX8_count 49 = .ok (.ireturn, 1) := by decide +kernel
theorem dX8_count_50 : decode cX8_count 50 = .ok (.aload_n 0, 1) := by decide +kernel
theorem dX8_count_51 : decode cX8_count 51 = .ok (.getfield 60, 3) := by decide +kernel
theorem dX8_count_54 : decode cX8_count 54 = .ok (.ireturn, 1) := by decide +kernel
theorem dX8_count_55 : decode cX8_count 55 = .ok (.bipush (-2), 2) := by decide +kernel
theorem dX8_count_57 : decode cX8_count 57 = .ok (.ireturn, 1) := by decide +kernel
theorem dX8_isOutside_0 : decode cX8_isOutside 0 = .ok (.iload_n 0, 1) := by decide +kernel
theorem dX8_isOutside_1 : decode cX8_isOutside 1 = .ok (.iload_n 1, 1) := by decide +kernel
theorem dX8_isOutside_2 : decode cX8_isOutside 2 = .ok (.if_icmp .lt 8, 3) := by decide +kernel
theorem dX8_isOutside_5 : decode cX8_isOutside 5 = .ok (.iload_n 0, 1) := by decide +kernel
theorem dX8_isOutside_6 : decode cX8_isOutside 6 = .ok (.iload_n 2, 1) := by decide +kernel
theorem dX8_isOutside_7 : decode cX8_isOutside 7 = .ok (.if_icmp .le 7, 3) := by decide +kernel
theorem dX8_isOutside_10 : decode cX8_isOutside 10 = .ok (.iconst 1, 1) := by decide +kernel
theorem dX8_isOutside_11 : decode cX8_isOutside 11 = .ok (.goto 4, 3) := by decide +kernel
theorem dX8_isOutside_14 : decode cX8_isOutside 14 = .ok (.iconst 0, 1) := by decide +kernel
theorem dX8_isOutside_15 : decode cX8_isOutside 15 = .ok (.ireturn, 1) := by decide +kernel
theorem dX8_isNoCard_0 : decode cX8_isNoCard 0 = .ok (.iload_n 1, 1) := by decide +kernel
theorem dX8_isNoCard_1 : decode cX8_isNoCard 1 = .ok (.iconst 0, 1) := by decide +kernel
theorem dX8_isNoCard_2 : decode cX8_isNoCard 2 = .ok (.aload_n 0, 1) := by decide +kernel
theorem dX8_isNoCard_3 : decode cX8_isNoCard 3 = .ok (.getfield 10, 3) := by decide +kernel
theorem dX8_isNoCard_6 : decode cX8_isNoCard 6 = .ok (.getfield 176, 3) := by decide +kernel
theorem dX8_isNoCard_9 : decode cX8_isNoCard 9 = .ok (.iconst 1, 1) := by decide +kernel
theorem dX8_isNoCard_10 : decode cX8_isNoCard 10 = .ok (.isub, 1) := by decide +kernel
theorem dX8_isNoCard_11 : decode cX8_isNoCard 11 = .ok (.invokestatic 64, 3) := by decide +kernel
theorem dX8_isNoCard_14 : decode cX8_isNoCard 14 = .ok (.ireturn, 1) := by decide +kernel
theorem dX8_isNoDeck_0 : decode cX8_isNoDeck 0 = .ok (.iload_n 1, 1) := by decide +kernel
theorem dX8_isNoDeck_1 : decode cX8_isNoDeck 1 = .ok (.iconst 0, 1) := by decide +kernel
theorem dX8_isNoDeck_2 : decode cX8_isNoDeck 2 = .ok (.aload_n 0, 1) := by decide +kernel
theorem dX8_isNoDeck_3 : decode cX8_isNoDeck 3 = .ok (.getfield 82, 3) := by decide +kernel
theorem dX8_isNoDeck_6 : decode cX8_isNoDeck 6 = .ok (.iconst 1, 1) := by decide +kernel
theorem dX8_isNoDeck_7 : decode cX8_isNoDeck 7 = .ok (.isub, 1) := by decide +kernel
theorem dX8_isNoDeck_8 : decode cX8_isNoDeck 8 = .ok (.invokestatic 64, 3) := by decide +kernel
theorem dX8_isNoDeck_11 : decode cX8_isNoDeck 11 = .ok (.ireturn, 1) := by decide +kernel
theorem dX8_isNoPlace_0 : decode cX8_isNoPlace 0 = .ok (.iload_n 2, 1) := by decide +kernel
theorem dX8_isNoPlace_1 : decode cX8_isNoPlace 1 = .ok (.iconst 0, 1) := by decide +kernel
theorem dX8_isNoPlace_2 : decode cX8_isNoPlace 2 = .ok (.aload_n 0, 1) := by decide +kernel
theorem dX8_isNoPlace_3 : decode cX8_isNoPlace 3 = .ok (.getfield 18, 3) := by decide +kernel
theorem dX8_isNoPlace_6 : decode cX8_isNoPlace 6 = .ok (.iload_n 1, 1) := by decide +kernel
theorem dX8_isNoPlace_7 : decode cX8_isNoPlace 7 = .ok (.aaload, 1) := by decide +kernel
theorem dX8_isNoPlace_8 : decode cX8_isNoPlace 8 = .ok (.getfield 185, 3) := by decide +kernel
theorem dX8_isNoPlace_11 : decode cX8_isNoPlace 11 = .ok (.iconst 1, 1) := by decide +kernel
theorem dX8_isNoPlace_12 : decode cX8_isNoPlace 12 = .ok (.isub, 1) := by decide +kernel
theorem dX8_isNoPlace_13 : decode cX8_isNoPlace 13 = .ok (.invokestatic 64, 3) := by decide +kernel
theorem dX8_isNoPlace_16 : decode cX8_isNoPlace 16 = .ok (.ireturn, 1) := by decide +kernel
theorem dX8_cardsInDecks_0 : decode cX8_cardsInDecks 0 = .ok (.iconst 0, 1) := by decide +kernel
theorem dX8_cardsInDecks_1 : decode cX8_cardsInDecks 1 = .ok (.istore_n 1, 1) := by decide +kernel
theorem dX8_cardsInDecks_2 : decode cX8_cardsInDecks 2 = .ok (.iconst 0, 1) := by decide +kernel
theorem dX8_cardsInDecks_3 : decode cX8_cardsInDecks 3 = .ok (.istore_n 2, 1) := by decide +kernel
theorem dX8_cardsInDecks_4 : decode cX8_cardsInDecks 4 = .ok (.iload_n 2, 1) := by decide +kernel
