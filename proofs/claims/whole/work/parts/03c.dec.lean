theorem dX5_init_0 : decode cX5_init 0 = .ok (.aload_n 0, 1) := by decide +kernel
theorem dX5_init_1 : decode cX5_init 1 = .ok (.invokespecial 3, 3) := by decide +kernel
theorem dX5_init_4 : decode cX5_init 4 = .ok (.aload_n 0, 1) := by decide +kernel
theorem dX5_init_5 : decode cX5_init 5 = .ok (.bipush 10, 2) := by decide +kernel
theorem dX5_init_7 : decode cX5_init 7 = .ok (.newarray .int, 2) := by decide +kernel
theorem dX5_init_9 : decode cX5_init 9 = .ok (.putfield 9, 3) := by decide +kernel
theorem dX5_init_12 : decode cX5_init 12 = .ok (.aload_n 0, 1) := by decide +kernel
theorem dX5_init_13 : decode cX5_init 13 = .ok (.bipush 13, 2) := by decide +kernel
theorem dX5_init_15 : decode cX5_init 15 = .ok (.newarray .int, 2) := by decide +kernel
theorem dX5_init_17 : decode cX5_init 17 = .ok (.putfield 15, 3) := by decide +kernel
theorem dX5_init_20 : decode cX5_init 20 = .ok (.aload_n 0, 1) := by decide +kernel
theorem dX5_init_21 : decode cX5_init 21 = .ok (.bipush 10, 2) := by decide +kernel
theorem dX5_init_23 : decode cX5_init 23 = .ok (.newarray .int, 2) := by decide +kernel
theorem dX5_init_25 : decode cX5_init 25 = .ok (.putfield 18, 3) := by decide +kernel
theorem dX5_init_28 : decode cX5_init 28 = .ok (.return_, 1) := by decide +kernel
theorem dX5_lay_0 : decode cX5_lay 0 = .ok (.aload_n 0, 1) := by decide +kernel
theorem dX5_lay_1 : decode cX5_lay 1 = .ok (.iconst 0, 1) := by decide +kernel
theorem dX5_lay_2 : decode cX5_lay 2 = .ok (.putfield 21, 3) := by decide +kernel
theorem dX5_lay_5 : decode cX5_lay 5 = .ok (.aload_n 0, 1) := by decide +kernel
theorem dX5_lay_6 : decode cX5_lay 6 = .ok (.iconst 0, 1) := by decide +kernel
theorem dX5_lay_7 : decode cX5_lay 7 = .ok (.putfield 25, 3) := by decide +kernel
theorem dX5_lay_10 : decode cX5_lay 10 = .ok (.aload_n 0, 1) := by decide +kernel
theorem dX5_lay_11 : decode cX5_lay 11 = .ok (.iconst 0, 1) := by decide +kernel
theorem dX5_lay_12 : decode cX5_lay 12 = .ok (.putfield 28, 3) := by decide +kernel
theorem dX5_lay_15 : decode cX5_lay 15 = .ok (.aload_n 0, 1) := by decide +kernel
theorem dX5_lay_16 : decode cX5_lay 16 = .ok (.aload_n 2, 1) := by decide +kernel
theorem dX5_lay_17 : decode cX5_lay 17 = .ok (.iload_n 3, 1) := by decide +kernel
theorem dX5_lay_18 : decode cX5_lay 18 = .ok (.invokevirtual 31, 3) := by decide +kernel
theorem dX5_lay_21 : decode cX5_lay 21 = .ok (.iconst 1, 1) := by decide +kernel
theorem dX5_lay_22 : decode cX5_lay 22 = .ok (.istore 4, 2) := by decide +kernel
theorem dX5_lay_24 : decode cX5_lay 24 = .ok (.iload 4, 2) := by decide +kernel
theorem dX5_lay_26 : decode cX5_lay 26 = .ok (.bipush 12, 2) := by decide +kernel
theorem dX5_lay_28 : decode cX5_lay 28 = .ok (.if_icmp .gt 38, 3) := by decide +kernel
theorem dX5_lay_31 : decode cX5_lay 31 = .ok (.aload_n 0, 1) := by decide +kernel
theorem dX5_lay_32 : decode cX5_lay 32 = .ok (.aload_n 2, 1) := by decide +kernel
theorem dX5_lay_33 : decode cX5_lay 33 = .ok (.iload_n 3, 1) := by decide +kernel
theorem dX5_lay_34 : decode cX5_lay 34 = .ok (.invokevirtual 31, 3) := by decide +kernel
theorem dX5_lay_37 : decode cX5_lay 37 = .ok (.aload_n 0, 1) := by decide +kernel
theorem dX5_lay_38 : decode cX5_lay 38 = .ok (.aload_n 1, 1) := by decide +kernel
theorem dX5_lay_39 : decode cX5_lay 39 = .ok (.iload 4, 2) := by decide +kernel
theorem dX5_lay_41 : decode cX5_lay 41 = .ok (.bipush 6, 2) := by decide +kernel
theorem dX5_lay_43 : decode cX5_lay 43 = .ok (.invokestatic 35, 3) := by decide +kernel
theorem dX5_lay_46 : decode cX5_lay 46 = .ok (.invokevirtual 41, 3) := by decide +kernel
theorem dX5_lay_49 : decode cX5_lay 49 = .ok (.aload_n 0, 1) := by decide +kernel
theorem dX5_lay_50 : decode cX5_lay 50 = .ok (.getfield 15, 3) := by decide +kernel
theorem dX5_lay_53 : decode cX5_lay 53 = .ok (.iload 4, 2) := by decide +kernel
theorem dX5_lay_55 : decode cX5_lay 55 = .ok (.aload_n 0, 1) := by decide +kernel
theorem dX5_lay_56 : decode cX5_lay 56 = .ok (.getfield 28, 3) := by decide +kernel
theorem dX5_lay_59 : decode cX5_lay 59 = .ok (.iastore, 1) := by decide +kernel
theorem dX5_lay_60 : decode cX5_lay 60 = .ok (.iinc 4 1, 3) := by decide +kernel
theorem dX5_lay_63 : decode cX5_lay 63 = .ok (.goto (-39), 3) := by decide +kernel
theorem dX5_lay_66 : decode cX5_lay 66 = .ok (.return_, 1) := by decide +kernel
theorem dX5_draw_0 : decode cX5_draw 0 = .ok (.aload_n 0, 1) := by decide +kernel
theorem dX5_draw_1 : decode cX5_draw 1 = .ok (.getfield 25, 3) := by decide +kernel
theorem dX5_draw_4 : decode cX5_draw 4 = .ok (.iload_n 2, 1) := by decide +kernel
theorem dX5_draw_5 : decode cX5_draw 5 = .ok (.if_icmp .ne 13, 3) := by decide +kernel
theorem dX5_draw_8 : decode cX5_draw 8 = .ok (.aload_n 0, 1) := by decide +kernel
theorem dX5_draw_9 : decode cX5_draw 9 = .ok (.dup, 1) := by decide +kernel
theorem dX5_draw_10 : decode cX5_draw 10 = .ok (.getfield 25, 3) := by decide +kernel
theorem dX5_draw_13 : decode cX5_draw 13 = .ok (.iconst 1, 1) := by decide +kernel
theorem dX5_draw_14 : decode cX5_draw 14 = .ok (.iadd, 1) := by decide +kernel
theorem dX5_draw_15 : decode cX5_draw 15 = .ok (.putfield 25, 3) := by decide +kernel
theorem dX5_draw_18 : decode cX5_draw 18 = .ok (.aload_n 0, 1) := by decide +kernel
theorem dX5_draw_19 : decode cX5_draw 19 = .ok (.getfield 25, 3) := by decide +kernel
theorem dX5_draw_22 : decode cX5_draw 22 = .ok (.aload_n 1, 1) := by decide +kernel
theorem dX5_draw_23 : decode cX5_draw 23 = .ok (.getfield 45, 3) := by decide +kernel
theorem dX5_draw_26 : decode cX5_draw 26 = .ok (.if_icmp .ge 41, 3) := by decide +kernel
theorem dX5_draw_29 : decode cX5_draw 29 = .ok (.aload_n 0, 1) := by decide +kernel
theorem dX5_draw_30 : decode cX5_draw 30 = .ok (.getfield 18, 3) := by decide +kernel
theorem dX5_draw_33 : decode cX5_draw 33 = .ok (.aload_n 0, 1) := by decide +kernel
theorem dX5_draw_34 : decode cX5_draw 34 = .ok (.getfield 21, 3) := by decide +kernel
theorem dX5_draw_37 : decode cX5_draw 37 = .ok (.aload_n 1, 1) := by decide +kernel
theorem dX5_draw_38 : decode cX5_draw 38 = .ok (.getfield 50, 3) := by decide +kernel
theorem dX5_draw_41 : decode cX5_draw 41 = .ok (.aload_n 0, 1) := by decide +kernel
theorem dX5_draw_42 : decode cX5_draw 42 = .ok (.getfield 25, 3) := by decide +kernel
theorem dX5_draw_45 : decode cX5_draw 45 = .ok (.iaload, 1) := by decide +kernel
theorem dX5_draw_46 : decode cX5_draw 46 = .ok (.iastore, 1) := by decide +kernel
theorem dX5_draw_47 : decode cX5_draw 47 = .ok (.aload_n 0, 1) := by decide +kernel
theorem dX5_draw_48 : decode cX5_draw 48 = .ok (.dup, 1) := by decide +kernel
theorem dX5_draw_49 : decode cX5_draw 49 = .ok (.getfield 21, 3) := by decide +kernel
theorem dX5_draw_52 : decode cX5_draw 52 = .ok (.iconst 1, 1) := by decide +kernel
theorem dX5_draw_53 : decode cX5_draw 53 = .ok (.iadd, 1) := by decide +kernel
theorem dX5_draw_54 : decode cX5_draw 54 = .ok (.putfield 21, 3) := by decide +kernel
theorem dX5_draw_57 : decode cX5_draw 57 = .ok (.aload_n 0, 1) := by decide +kernel
theorem dX5_draw_58 : decode cX5_draw 58 = .ok (.dup, 1) := by decide +kernel
theorem dX5_draw_59 : decode cX5_draw 59 = .ok (.getfield 25, 3) := by decide +kernel
theorem dX5_draw_62 : decode cX5_draw 62 = .ok (.iconst 1, 1) := by decide +kernel
theorem dX5_draw_63 : decode cX5_draw 63 = .ok (.iadd, 1) := by decide +kernel
theorem dX5_draw_64 : decode cX5_draw 64 = .ok (.putfield 25, 3) := by decide +kernel
theorem dX5_draw_67 : decode cX5_draw 67 = .ok (.return_, 1) := by decide +kernel
theorem dX5_playHand_0 : decode cX5_playHand 0 = .ok (.iload_n 2, 1) := by decide +kernel
theorem dX5_playHand_1 : decode cX5_playHand 1 = .ok (.istore_n 3, 1) := by decide +kernel
theorem dX5_playHand_2 : decode cX5_playHand 2 = .ok (.iconst 0, 1) := by decide +kernel
theorem dX5_playHand_3 : decode cX5_playHand 3 = .ok (.istore 4, 2) := by decide +kernel
theorem dX5_playHand_5 : decode cX5_playHand 5 = .ok (.iload 4, 2) := by decide +kernel
theorem dX5_playHand_7 : decode cX5_playHand 7 = .ok (.bipush 10, 2) := by decide +kernel
theorem dX5_playHand_9 : decode cX5_playHand 9 = .ok (.if_icmp .ge 45, 3) := by decide +kernel
theorem dX5_playHand_12 : decode cX5_playHand 12 = .ok (.aload_n 0, 1) := by decide +kernel
theorem dX5_playHand_13 : decode cX5_playHand 13 = .ok (.aload_n 1, 1) := by decide +kernel
theorem dX5_playHand_14 : decode cX5_playHand 14 = .ok (.iload_n 3, 1) := by decide +kernel
theorem dX5_playHand_15 : decode cX5_playHand 15 = .ok (.invokevirtual 53, 3) := by decide +kernel
theorem dX5_playHand_18 : decode cX5_playHand 18 = .ok (.istore 5, 2) := by decide +kernel
theorem dX5_playHand_20 : decode cX5_playHand 20 = .ok (.iload 5, 2) := by decide +kernel
theorem dX5_playHand_22 : decode cX5_playHand 22 = .ok (.iconst (-1), 1) := by decide +kernel
theorem dX5_playHand_23 : decode cX5_playHand 23 = .ok (.if_icmp .ne 4, 3) := by decide +kernel
theorem dX5_playHand_26 : decode cX5_playHand 26 = .ok (.return_, 1) := by decide +kernel
theorem dX5_playHand_27 : decode cX5_playHand 27 = .ok (.iload_n 3, 1) := by decide +kernel
theorem dX5_playHand_28 : decode cX5_playHand 28 = .ok (.aload_n 1, 1) := by decide +kernel
theorem dX5_playHand_29 : decode cX5_playHand 29 = .ok (.getfield 57, 3) := by decide +kernel
theorem dX5_playHand_32 : decode cX5_playHand 32 = .ok (.aload_n 0, 1) := by decide +kernel
theorem dX5_playHand_33 : decode cX5_playHand 33 = .ok (.getfield 18, 3) := by decide +kernel
theorem dX5_playHand_36 : decode cX5_playHand 36 = .ok (.iload 5, 2) := by decide +kernel
theorem dX5_playHand_38 : decode cX5_playHand 38 = .ok (.iaload, 1) := by decide +kernel
theorem dX5_playHand_39 : decode cX5_playHand 39 = .ok (.iaload, 1) := by decide +kernel
theorem dX5_playHand_40 : decode cX5_playHand 40 = .ok (.isub, 1) := by decide +kernel
theorem dX5_playHand_41 : decode cX5_playHand 41 = .ok (.istore_n 3, 1) := by decide +kernel
theorem dX5_playHand_42 : decode cX5_playHand 42 = .ok (.aload_n 0, 1) := by decide +kernel
theorem dX5_playHand_43 : decode cX5_playHand 43 = .ok (.iload 5, 2) := by decide +kernel
theorem dX5_playHand_45 : decode cX5_playHand 45 = .ok (.invokevirtual 62, 3) := by decide +kernel
theorem dX5_playHand_48 : decode cX5_playHand 48 = .ok (.iinc 4 1, 3) := by decide +kernel
theorem dX5_playHand_51 : decode cX5_playHand 51 = .ok (.goto (-46), 3) := by decide +kernel
theorem dX5_playHand_54 : decode cX5_playHand 54 = .ok (.return_, 1) := by decide +kernel
theorem dX5_nextPlace_0 : decode cX5_nextPlace 0 = .ok (.iconst (-1), 1) := by decide +kernel
theorem dX5_nextPlace_1 : decode cX5_nextPlace 1 = .ok (.istore_n 3, 1) := by decide +kernel
theorem dX5_nextPlace_2 : decode cX5_nextPlace 2 = .ok (.iconst 0, 1) := by decide +kernel
theorem dX5_nextPlace_3 : decode cX5_nextPlace 3 = .ok (.istore 4, 2) := by decide +kernel
theorem dX5_nextPlace_5 : decode cX5_nextPlace 5 = .ok (.iload 4, 2) := by decide +kernel
theorem dX5_nextPlace_7 : decode cX5_nextPlace 7 = .ok (.aload_n 0, 1) := by decide +kernel
theorem dX5_nextPlace_8 : decode cX5_nextPlace 8 = .ok (.getfield 21, 3) := by decide +kernel
theorem dX5_nextPlace_11 : decode cX5_nextPlace 11 = .ok (.if_icmp .ge 53, 3) := by decide +kernel
theorem dX5_nextPlace_14 : decode cX5_nextPlace 14 = .ok (.aload_n 1, 1) := by decide +kernel
theorem dX5_nextPlace_15 : decode cX5_nextPlace 15 = .ok (.getfield 57, 3) := by decide +kernel
theorem dX5_nextPlace_18 : decode cX5_nextPlace 18 = .ok (.aload_n 0, 1) := by decide +kernel
theorem dX5_nextPlace_19 : decode cX5_nextPlace 19 = .ok (.getfield 18, 3) := by decide +kernel
theorem dX5_nextPlace_22 : decode cX5_nextPlace 22 = .ok (.iload 4, 2) := by decide +kernel
theorem dX5_nextPlace_24 : decode cX5_nextPlace 24 = .ok (.iaload, 1) := by decide +kernel
theorem dX5_nextPlace_25 : decode cX5_nextPlace 25 = .ok (.iaload, 1) := by decide +kernel
theorem dX5_nextPlace_26 : decode cX5_nextPlace 26 = .ok (.iload_n 2, 1) := by decide +kernel
theorem dX5_nextPlace_27 : decode cX5_nextPlace 27 = .ok (.if_icmp .gt 31, 3) := by decide +kernel
theorem dX5_nextPlace_30 : decode cX5_nextPlace 30 = .ok (.iload_n 3, 1) := by decide +kernel
theorem dX5_nextPlace_31 : decode cX5_nextPlace 31 = .ok (.iconst (-1), 1) := by decide +kernel
theorem dX5_nextPlace_32 : decode cX5_nextPlace 32 = .ok (.if_icmp .eq 23, 3) := by decide +kernel
theorem dX5_nextPlace_35 : decode cX5_nextPlace 35 = .ok (.aload_n 1, 1) := by decide +kernel
theorem dX5_nextPlace_36 : decode cX5_nextPlace 36 = .ok (.aload_n 0, 1) := by decide +kernel
theorem dX5_nextPlace_37 : decode cX5_nextPlace 37 = .ok (.getfield 18, 3) := by decide +kernel
theorem dX5_nextPlace_40 : decode cX5_nextPlace 40 = .ok (.iload 4, 2) := by decide +kernel
theorem dX5_nextPlace_42 : decode cX5_nextPlace 42 = .ok (.iaload, 1) := by decide +kernel
theorem dX5_nextPlace_43 : decode cX5_nextPlace 43 = .ok (.aload_n 0, 1) := by decide +kernel
theorem dX5_nextPlace_44 : decode cX5_nextPlace 44 = .ok (.getfield 18, 3) := by decide +kernel
theorem dX5_nextPlace_47 : decode cX5_nextPlace 47 = .ok (.iload_n 3, 1) := by decide +kernel
theorem dX5_nextPlace_48 : decode cX5_nextPlace 48 = .ok (.iaload, 1) := by decide +kernel
theorem dX5_nextPlace_49 : decode cX5_nextPlace 49 = .ok (.invokevirtual 66, 3) := by decide +kernel
theorem dX5_nextPlace_52 : decode cX5_nextPlace 52 = .ok (.ifCond .eq 6, 3) := by decide +kernel
theorem dX5_nextPlace_55 : decode cX5_nextPlace 55 = .ok (.iload 4, 2) := by decide +kernel
theorem dX5_nextPlace_57 : decode cX5_nextPlace 57 = .ok (.istore_n 3, 1) := by decide +kernel
theorem dX5_nextPlace_58 : decode cX5_nextPlace 58 = .ok (.iinc 4 1, 3) := by decide +kernel
theorem dX5_nextPlace_61 : decode cX5_nextPlace 61 = .ok (.goto (-56), 3) := by decide +kernel
theorem dX5_nextPlace_64 : decode cX5_nextPlace 64 = .ok (.iload_n 3, 1) := by decide +kernel
theorem dX5_nextPlace_65 : decode cX5_nextPlace 65 = .ok (.ireturn, 1) := by decide +kernel
theorem dX5_putDown_0 : decode cX5_putDown 0 = .ok (.aload_n 0, 1) := by decide +kernel
theorem dX5_putDown_1 : decode cX5_putDown 1 = .ok (.getfield 9, 3) := by decide +kernel
theorem dX5_putDown_4 : decode cX5_putDown 4 = .ok (.aload_n 0, 1) := by decide +kernel
theorem dX5_putDown_5 : decode cX5_putDown 5 = .ok (.getfield 28, 3) := by decide +kernel
theorem dX5_putDown_8 : decode cX5_putDown 8 = .ok (.aload_n 0, 1) := by decide +kernel
theorem dX5_putDown_9 : decode cX5_putDown 9 = .ok (.getfield 18, 3) := by decide +kernel
theorem dX5_putDown_12 : decode cX5_putDown 12 = .ok (.iload_n 1, 1) := by decide +kernel
theorem dX5_putDown_13 : decode cX5_putDown 13 = .ok (.iaload, 1) := by decide +kernel
theorem dX5_putDown_14 : decode cX5_putDown 14 = .ok (.iastore, 1) := by decide +kernel
theorem dX5_putDown_15 : decode cX5_putDown 15 = .ok (.aload_n 0, 1) := by decide +kernel
theorem dX5_putDown_16 : decode cX5_putDown 16 = .ok (.dup, 1) := by decide +kernel
theorem dX5_putDown_17 : decode cX5_putDown 17 = .ok (.getfield 28, 3) := by decide +kernel
theorem dX5_putDown_20 : decode cX5_putDown 20 = .ok (.iconst 1, 1) := by decide +kernel
theorem dX5_putDown_21 : decode cX5_putDown 21 = .ok (.iadd, 1) := by decide +kernel
theorem dX5_putDown_22 : decode cX5_putDown 22 = .ok (.putfield 28, 3) := by decide +kernel
theorem dX5_putDown_25 : decode cX5_putDown 25 = .ok (.aload_n 0, 1) := by decide +kernel
theorem dX5_putDown_26 : decode cX5_putDown 26 = .ok (.dup, 1) := by decide +kernel
theorem dX5_putDown_27 : decode cX5_putDown 27 = .ok (.getfield 21, 3) := by decide +kernel
theorem dX5_putDown_30 : decode cX5_putDown 30 = .ok (.iconst 1, 1) := by decide +kernel
theorem dX5_putDown_31 : decode cX5_putDown 31 = .ok (.isub, 1) := by decide +kernel
theorem dX5_putDown_32 : decode cX5_putDown 32 = .ok (.putfield 21, 3) := by decide +kernel
theorem dX5_putDown_35 : decode cX5_putDown 35 = .ok (.aload_n 0, 1) := by decide +kernel
theorem dX5_putDown_36 : decode cX5_putDown 36 = .ok (.getfield 18, 3) := by decide +kernel
theorem dX5_putDown_39 : decode cX5_putDown 39 = .ok (.iload_n 1, 1) := by decide +kernel
theorem dX5_putDown_40 : decode cX5_putDown 40 = .ok (.aload_n 0, 1) := by decide +kernel
theorem dX5_putDown_41 : decode cX5_putDown 41 = .ok (.getfield 18, 3) := by decide +kernel
theorem dX5_putDown_44 : decode cX5_putDown 44 = .ok (.aload_n 0, 1) := by decide +kernel
theorem dX5_putDown_45 : decode cX5_putDown 45 = .ok (.getfield 21, 3) := by decide +kernel
theorem dX5_putDown_48 : decode cX5_putDown 48 = .ok (.iaload, 1) := by decide +kernel
theorem dX5_putDown_49 : decode cX5_putDown 49 = .ok (.iastore, 1) := by decide +kernel
theorem dX5_putDown_50 : decode cX5_putDown 50 = .ok (.return_, 1) := by decide +kernel
theorem dX6_init_0 : decode cX6_init 0 = .ok (.aload_n 0, 1) := by decide +kernel
theorem dX6_init_1 : decode cX6_init 1 = .ok (.invokespecial 3, 3) := by decide +kernel
theorem dX6_init_4 : decode cX6_init 4 = .ok (.aload_n 0, 1) := by decide +kernel
theorem dX6_init_5 : decode cX6_init 5 = .ok (.bipush 30, 2) := by decide +kernel
theorem dX6_init_7 : decode cX6_init 7 = .ok (.newarray .int, 2) := by decide +kernel
theorem dX6_init_9 : decode cX6_init 9 = .ok (.putfield 9, 3) := by decide +kernel
theorem dX6_init_12 : decode cX6_init 12 = .ok (.return_, 1) := by decide +kernel
theorem dX6_find_0 : decode cX6_find 0 = .ok (.aload_n 0, 1) := by decide +kernel
theorem dX6_find_1 : decode cX6_find 1 = .ok (.iconst 0, 1) := by decide +kernel
theorem dX6_find_2 : decode cX6_find 2 = .ok (.putfield 15, 3) := by decide +kernel
theorem dX6_find_5 : decode cX6_find 5 = .ok (.iconst 0, 1) := by decide +kernel
theorem dX6_find_6 : decode cX6_find 6 = .ok (.istore_n 3, 1) := by decide +kernel
theorem dX6_find_7 : decode cX6_find 7 = .ok (.iload_n 3, 1) := by decide +kernel
theorem dX6_find_8 : decode cX6_find 8 = .ok (.iload_n 2, 1) := by decide +kernel
theorem dX6_find_9 : decode cX6_find 9 = .ok (.if_icmp .ge 35, 3) := by decide +kernel
theorem dX6_find_12 : decode cX6_find 12 = .ok (.iload_n 3, 1) := by decide +kernel
theorem dX6_find_13 : decode cX6_find 13 = .ok (.iconst 1, 1) := by decide +kernel
theorem dX6_find_14 : decode cX6_find 14 = .ok (.iadd, 1) := by decide +kernel
theorem dX6_find_15 : decode cX6_find 15 = .ok (.istore 4, 2) := by decide +kernel
theorem dX6_find_17 : decode cX6_find 17 = .ok (.iload 4, 2) := by decide +kernel
theorem dX6_find_19 : decode cX6_find 19 = .ok (.iload_n 2, 1) := by decide +kernel
theorem dX6_find_20 : decode cX6_find 20 = .ok (.if_icmp .ge 18, 3) := by decide +kernel
theorem dX6_find_23 : decode cX6_find 23 = .ok (.aload_n 0, 1) := by decide +kernel
theorem dX6_find_24 : decode cX6_find 24 = .ok (.aload_n 1, 1) := by decide +kernel
theorem dX6_find_25 : decode cX6_find 25 = .ok (.iload_n 2, 1) := by decide +kernel
theorem dX6_find_26 : decode cX6_find 26 = .ok (.iload_n 3, 1) := by decide +kernel
theorem dX6_find_27 : decode cX6_find 27 = .ok (.iload 4, 2) := by decide +kernel
theorem dX6_find_29 : decode cX6_find 29 = .ok (.invokevirtual 19, 3) := by decide +kernel
theorem dX6_find_32 : decode cX6_find 32 = .ok (.iinc 4 1, 3) := by decide +kernel
theorem dX6_find_35 : decode cX6_find 35 = .ok (.goto (-18), 3) := by decide +kernel
theorem dX6_find_38 : decode cX6_find 38 = .ok (.iinc 3 1, 3) := by decide +kernel
theorem dX6_find_41 : decode cX6_find 41 = .ok (.goto (-34), 3) := by decide +kernel
theorem dX6_find_44 : decode cX6_find 44 = .ok (.return_, 1) := by decide +kernel
theorem dX6_findThird_0 : decode cX6_findThird 0 = .ok (.iload_n 3, 1) := by decide +kernel
theorem dX6_findThird_1 : decode cX6_findThird 1 = .ok (.iconst 1, 1) := by decide +kernel
theorem dX6_findThird_2 : decode cX6_findThird 2 = .ok (.iadd, 1) := by decide +kernel
theorem dX6_findThird_3 : decode cX6_findThird 3 = .ok (.istore 5, 2) := by decide +kernel
theorem dX6_findThird_5 : decode cX6_findThird 5 = .ok (.iload 5, 2) := by decide +kernel
theorem dX6_findThird_7 : decode cX6_findThird 7 = .ok (.iload_n 2, 1) := by decide +kernel
theorem dX6_findThird_8 : decode cX6_findThird 8 = .ok (.if_icmp .ge 89, 3) := by decide +kernel
theorem dX6_findThird_11 : decode cX6_findThird 11 = .ok (.aload_n 1, 1) := by decide +kernel
theorem dX6_findThird_12 : decode cX6_findThird 12 = .ok (.iload_n 3, 1) := by decide +kernel
theorem dX6_findThird_13 : decode cX6_findThird 13 = .ok (.aaload, 1) := by decide +kernel
theorem dX6_findThird_14 : decode cX6_findThird 14 = .ok (.iload 4, 2) := by decide +kernel
theorem dX6_findThird_16 : decode cX6_findThird 16 = .ok (.iaload, 1) := by decide +kernel
theorem dX6_findThird_17 : decode cX6_findThird 17 = .ok (.ifCond .le 74, 3) := by decide +kernel
theorem dX6_findThird_20 : decode cX6_findThird 20 = .ok (.aload_n 1, 1) := by decide +kernel
theorem dX6_findThird_21 : decode cX6_findThird 21 = .ok (.iload 4, 2) := by decide +kernel
theorem dX6_findThird_23 : decode cX6_findThird 23 = .ok (.aaload, 1) := by decide +kernel
theorem dX6_findThird_24 : decode cX6_findThird 24 = .ok (.iload 5, 2) := by decide +kernel
theorem dX6_findThird_26 : decode cX6_findThird 26 = .ok (.iaload, 1) := by decide +kernel
theorem dX6_findThird_27 : decode cX6_findThird 27 = .ok (.ifCond .le 64, 3) := by decide +kernel
theorem dX6_findThird_30 : decode cX6_findThird 30 = .ok (.aload_n 1, 1) := by decide +kernel
theorem dX6_findThird_31 : decode cX6_findThird 31 = .ok (.iload 5, 2) := by decide +kernel
theorem dX6_findThird_33 : decode cX6_findThird 33 = .ok (.aaload, 1) := by decide +kernel
theorem dX6_findThird_34 : decode cX6_findThird 34 = .ok (.iload_n 3, 1) := by decide +kernel
theorem dX6_findThird_35 : decode cX6_findThird 35 = .ok (.iaload, 1) := by decide +kernel
theorem dX6_findThird_36 : decode cX6_findThird 36 = .ok (.ifCond .le 55, 3) := by decide +kernel
theorem dX6_findThird_39 : decode cX6_findThird 39 = .ok (.aload_n 0, 1) := by decide +kernel
theorem dX6_findThird_40 : decode cX6_findThird 40 = .ok (.getfield 9, 3) := by decide +kernel
theorem dX6_findThird_43 : decode cX6_findThird 43 = .ok (.iconst 3, 1) := by decide +kernel
theorem dX6_findThird_44 : decode cX6_findThird 44 = .ok (.aload_n 0, 1) := by decide +kernel
theorem dX6_findThird_45 : decode cX6_findThird 45 = .ok (.getfield 15, 3) := by decide +kernel
theorem dX6_findThird_48 : decode cX6_findThird 48 = .ok (.imul, 1) := by decide +kernel
theorem dX6_findThird_49 : decode cX6_findThird 49 = .ok (.iload_n 3, 1) := by decide +kernel
theorem dX6_findThird_50 : decode cX6_findThird 50 = .ok (.iastore, 1) := by decide +kernel
theorem dX6_findThird_51 : decode cX6_findThird 51 = .ok (.aload_n 0, 1) := by decide +kernel
theorem dX6_findThird_52 : decode cX6_findThird 52 = .ok (.getfield 9, 3) := by decide +kernel
theorem dX6_findThird_55 : decode cX6_findThird 55 = .ok (.iconst 3, 1) := by decide +kernel
theorem dX6_findThird_56 : decode cX6_findThird 56 = .ok (.aload_n 0, 1) := by decide +kernel
theorem dX6_findThird_57 : decode cX6_findThird 57 = .ok (.getfield 15, 3) := by decide +kernel
theorem dX6_findThird_60 : decode cX6_findThird 60 = .ok (.imul, 1) := by decide +kernel
theorem dX6_findThird_61 : decode cX6_findThird 61 = .ok (.iconst 1, 1) := by decide +kernel
theorem dX6_findThird_62 : decode cX6_findThird 62 = .ok (.iadd, 1) := by decide +kernel
theorem dX6_findThird_63 : decode cX6_findThird 63 = .ok (.iload 4, 2) := by decide +kernel
theorem dX6_findThird_65 : decode cX6_findThird 65 = .ok (.iastore, 1) := by decide +kernel
theorem dX6_findThird_66 : decode cX6_findThird 66 = .ok (.aload_n 0, 1) := by decide +kernel
theorem dX6_findThird_67 : decode cX6_findThird 67 = .ok (.getfield 9, 3) := by decide +kernel
theorem dX6_findThird_70 : decode cX6_findThird 70 = .ok (.iconst 3, 1) := by decide +kernel
theorem dX6_findThird_71 : decode cX6_findThird 71 = .ok (.aload_n 0, 1) := by decide +kernel
theorem dX6_findThird_72 : decode cX6_findThird 72 = .ok (.getfield 15, 3) := by decide +kernel
theorem dX6_findThird_75 : decode cX6_findThird 75 = .ok (.imul, 1) := by decide +kernel
theorem dX6_findThird_76 : decode cX6_findThird 76 = .ok (.iconst 2, 1) := by decide +kernel
theorem dX6_findThird_77 : decode cX6_findThird 77 = .ok (.iadd, 1) := by decide +kernel
theorem dX6_findThird_78 : decode cX6_findThird 78 = .ok (.iload 5, 2) := by decide +kernel
theorem dX6_findThird_80 : decode cX6_findThird 80 = .ok (.iastore, 1) := by decide +kernel
theorem dX6_findThird_81 : decode cX6_findThird 81 = .ok (.aload_n 0, 1) := by decide +kernel
theorem dX6_findThird_82 : decode cX6_findThird 82 = .ok (.dup, 1) := by decide +kernel
theorem dX6_findThird_83 : decode cX6_findThird 83 = .ok (.getfield 15, 3) := by decide +kernel
theorem dX6_findThird_86 : decode cX6_findThird 86 = .ok (.iconst 1, 1) := by decide +kernel
theorem dX6_findThird_87 : decode cX6_findThird 87 = .ok (.iadd, 1) := by decide +kernel
theorem dX6_findThird_88 : decode cX6_findThird 88 = .ok (.putfield 15, 3) := by decide +kernel
theorem dX6_findThird_91 : decode cX6_findThird 91 = .ok (.iinc 5 1, 3) := by decide +kernel
theorem dX6_findThird_94 : decode cX6_findThird 94 = .ok (.goto (-89), 3) := by decide +kernel
theorem dX6_findThird_97 : decode cX6_findThird 97 = .ok (.return_, 1) := by decide +kernel
theorem dX7_init_0 : decode cX7_init 0 = .ok (.aload_n 0, 1) := by decide +kernel
theorem dX7_init_1 : decode cX7_init 1 = .ok (.invokespecial 3, 3) := by decide +kernel
theorem dX7_init_4 : decode cX7_init 4 = .ok (.return_, 1) := by decide +kernel
theorem dX7_begin_0 : decode cX7_begin 0 = .ok (.aload_n 0, 1) := by decide +kernel
theorem dX7_begin_1 : decode cX7_begin 1 = .ok (.iload_n 1, 1) := by decide +kernel
theorem dX7_begin_2 : decode cX7_begin 2 = .ok (.putfield 9, 3) := by decide +kernel
theorem dX7_begin_5 : decode cX7_begin 5 = .ok (.aload_n 0, 1) := by decide +kernel
theorem dX7_begin_6 : decode cX7_begin 6 = .ok (.iconst 0, 1) := by decide +kernel
theorem dX7_begin_7 : decode cX7_begin 7 = .ok (.putfield 15, 3) := by decide +kernel
theorem dX7_begin_10 : decode cX7_begin 10 = .ok (.aload_n 0, 1) := by decide +kernel
theorem dX7_begin_11 : decode cX7_begin 11 = .ok (.iconst 0, 1) := by decide +kernel
theorem dX7_begin_12 : decode cX7_begin 12 = .ok (.putfield 18, 3) := by decide +kernel
theorem dX7_begin_15 : decode cX7_begin 15 = .ok (.aload_n 0, 1) := by decide +kernel
theorem dX7_begin_16 : decode cX7_begin 16 = .ok (.iconst 0, 1) := by decide +kernel
theorem dX7_begin_17 : decode cX7_begin 17 = .ok (.putfield 21, 3) := by decide +kernel
theorem dX7_begin_20 : decode cX7_begin 20 = .ok (.return_, 1) := by decide +kernel
theorem dX7_defeats_0 : decode cX7_defeats 0 = .ok (.aload_n 1, 1) := by decide +kernel
theorem dX7_defeats_1 : decode cX7_defeats 1 = .ok (.dup, 1) := by decide +kernel
theorem dX7_defeats_2 : decode cX7_defeats 2 = .ok (.getfield 9, 3) := by decide +kernel
theorem dX7_defeats_5 : decode cX7_defeats 5 = .ok (.iconst 0, 1) := by decide +kernel
theorem dX7_defeats_6 : decode cX7_defeats 6 = .ok (.aload_n 0, 1) := by decide +kernel
theorem dX7_defeats_7 : decode cX7_defeats 7 = .ok (.getfield 18, 3) := by decide +kernel
theorem dX7_defeats_10 : decode cX7_defeats 10 = .ok (.aload_n 1, 1) := by decide +kernel
theorem dX7_defeats_11 : decode cX7_defeats 11 = .ok (.getfield 21, 3) := by decide +kernel
theorem dX7_defeats_14 : decode cX7_defeats 14 = .ok (.isub, 1) := by decide +kernel
theorem dX7_defeats_15 : decode cX7_defeats 15 = .ok (.invokestatic 24, 3) := by decide +kernel
theorem dX7_defeats_18 : decode cX7_defeats 18 = .ok (.isub, 1) := by decide +kernel
theorem dX7_defeats_19 : decode cX7_defeats 19 = .ok (.putfield 9, 3) := by decide +kernel
theorem dX7_defeats_22 : decode cX7_defeats 22 = .ok (.aload_n 2, 1) := by decide +kernel
theorem dX7_defeats_23 : decode cX7_defeats 23 = .ok (.getfield 30, 3) := by decide +kernel
theorem dX7_defeats_26 : decode cX7_defeats 26 = .ok (.iload 4, 2) := by decide +kernel
theorem dX7_defeats_28 : decode cX7_defeats 28 = .ok (.iaload, 1) := by decide +kernel
theorem dX7_defeats_29 : decode cX7_defeats 29 = .ok (.istore 5, 2) := by decide +kernel
theorem dX7_defeats_31 : decode cX7_defeats 31 = .ok (.aload_n 2, 1) := by decide +kernel
theorem dX7_defeats_32 : decode cX7_defeats 32 = .ok (.getfield 30, 3) := by decide +kernel
theorem dX7_defeats_35 : decode cX7_defeats 35 = .ok (.iload 4, 2) := by decide +kernel
theorem dX7_defeats_37 : decode cX7_defeats 37 = .ok (.iconst 1, 1) := by decide +kernel
theorem dX7_defeats_38 : decode cX7_defeats 38 = .ok (.isub, 1) := by decide +kernel
theorem dX7_defeats_39 : decode cX7_defeats 39 = .ok (.iaload, 1) := by decide +kernel
theorem dX7_defeats_40 : decode cX7_defeats 40 = .ok (.istore 6, 2) := by decide +kernel
theorem dX7_defeats_42 : decode cX7_defeats 42 = .ok (.iload 6, 2) := by decide +kernel
theorem dX7_defeats_44 : decode cX7_defeats 44 = .ok (.iload 5, 2) := by decide +kernel
theorem dX7_defeats_46 : decode cX7_defeats 46 = .ok (.if_icmp .ge 29, 3) := by decide +kernel
theorem dX7_defeats_49 : decode cX7_defeats 49 = .ok (.aload_n 1, 1) := by decide +kernel
theorem dX7_defeats_50 : decode cX7_defeats 50 = .ok (.getfield 9, 3) := by decide +kernel
theorem dX7_defeats_53 : decode cX7_defeats 53 = .ok (.ifCond .le 22, 3) := by decide +kernel
theorem dX7_defeats_56 : decode cX7_defeats 56 = .ok (.aload_n 0, 1) := by decide +kernel
theorem dX7_defeats_57 : decode cX7_defeats 57 = .ok (.aload_n 1, 1) := by decide +kernel
theorem dX7_defeats_58 : decode cX7_defeats 58 = .ok (.aload_n 2, 1) := by decide +kernel
theorem dX7_defeats_59 : decode cX7_defeats 59 = .ok (.getfield 36, 3) := by decide +kernel
theorem dX7_defeats_62 : decode cX7_defeats 62 = .ok (.iload 6, 2) := by decide +kernel
theorem dX7_defeats_64 : decode cX7_defeats 64 = .ok (.iaload, 1) := by decide +kernel
theorem dX7_defeats_65 : decode cX7_defeats 65 = .ok (.aload_n 3, 1) := by decide +kernel
theorem dX7_defeats_66 : decode cX7_defeats 66 = .ok (.invokevirtual 39, 3) := by decide +kernel
theorem dX7_defeats_69 : decode cX7_defeats 69 = .ok (.iinc 6 1, 3) := by decide +kernel
theorem dX7_defeats_72 : decode cX7_defeats 72 = .ok (.goto (-30), 3) := by decide +kernel
theorem dX7_defeats_75 : decode cX7_defeats 75 = .ok (.aload_n 1, 1) := by decide +kernel
theorem dX7_defeats_76 : decode cX7_defeats 76 = .ok (.getfield 9, 3) := by decide +kernel
theorem dX7_defeats_79 : decode cX7_defeats 79 = .ok (.ifCond .gt 7, 3) := by decide +kernel
theorem dX7_defeats_82 : decode cX7_defeats 82 = .ok (.iconst 1, 1) := by decide +kernel
theorem dX7_defeats_83 : decode cX7_defeats 83 = .ok (.goto 4, 3) := by decide +kernel
theorem dX7_defeats_86 : decode cX7_defeats 86 = .ok (.iconst 0, 1) := by decide +kernel
theorem dX7_defeats_87 : decode cX7_defeats 87 = .ok (.ireturn, 1) := by decide +kernel
theorem dX7_put_0 : decode cX7_put 0 = .ok (.aload_n 0, 1) := by decide +kernel
theorem dX7_put_1 : decode cX7_put 1 = .ok (.dup, 1) := by decide +kernel
theorem dX7_put_2 : decode cX7_put 2 = .ok (.getfield 15, 3) := by decide +kernel
theorem dX7_put_5 : decode cX7_put 5 = .ok (.iconst 1, 1) := by decide +kernel
theorem dX7_put_6 : decode cX7_put 6 = .ok (.iadd, 1) := by decide +kernel
theorem dX7_put_7 : decode cX7_put 7 = .ok (.putfield 15, 3) := by decide +kernel
theorem dX7_put_10 : decode cX7_put 10 = .ok (.aload_n 3, 1) := by decide +kernel
theorem dX7_put_11 : decode cX7_put 11 = .ok (.getfield 43, 3) := by decide +kernel
theorem dX7_put_14 : decode cX7_put 14 = .ok (.iload_n 2, 1) := by decide +kernel
theorem dX7_put_15 : decode cX7_put 15 = .ok (.iaload, 1) := by decide +kernel
theorem dX7_put_16 : decode cX7_put 16 = .ok (.lookupswitch 64 #[(0, 28), (1, 46)], 28) := by decide +kernel
theorem dX7_put_44 : decode cX7_put 44 = .ok (.aload_n 0, 1) := by decide +kernel
theorem dX7_put_45 : decode cX7_put 45 = .ok (.dup, 1) := by decide +kernel
theorem dX7_put_46 : decode cX7_put 46 = .ok (.getfield 18, 3) := by decide +kernel
theorem dX7_put_49 : decode cX7_put 49 = .ok (.aload_n 3, 1) := by decide +kernel
theorem dX7_put_50 : decode cX7_put 50 = .ok (.getfield 48, 3) := by decide +kernel
theorem dX7_put_53 : decode cX7_put 53 = .ok (.iload_n 2, 1) := by decide +kernel
theorem dX7_put_54 : decode cX7_put 54 = .ok (.iaload, 1) := by decide +kernel
theorem dX7_put_55 : decode cX7_put 55 = .ok (.iadd, 1) := by decide +kernel
theorem dX7_put_56 : decode cX7_put 56 = .ok (.putfield 18, 3) := by decide +kernel
theorem dX7_put_59 : decode cX7_put 59 = .ok (.goto 36, 3) := by decide +kernel
theorem dX7_put_62 : decode cX7_put 62 = .ok (.aload_n 1, 1) := by decide +kernel
theorem dX7_put_63 : decode cX7_put 63 = .ok (.dup, 1) := by decide +kernel
theorem dX7_put_64 : decode cX7_put 64 = .ok (.getfield 9, 3) := by decide +kernel
theorem dX7_put_67 : decode cX7_put 67 = .ok (.aload_n 3, 1) := by decide +kernel
theorem dX7_put_68 : decode cX7_put 68 = .ok (.getfield 48, 3) := by decide +kernel
theorem dX7_put_71 : decode cX7_put 71 = .ok (.iload_n 2, 1) := by decide +kernel
theorem dX7_put_72 : decode cX7_put 72 = .ok (.iaload, 1) := by decide +kernel
theorem dX7_put_73 : decode cX7_put 73 = .ok (.isub, 1) := by decide +kernel
theorem dX7_put_74 : decode cX7_put 74 = .ok (.putfield 9, 3) := by decide +kernel
theorem dX7_put_77 : decode cX7_put 77 = .ok (.goto 18, 3) := by decide +kernel
theorem dX7_put_80 : decode cX7_put 80 = .ok (.aload_n 0, 1) := by decide +kernel
theorem dX7_put_81 : decode cX7_put 81 = .ok (.dup, 1) := by decide +kernel
theorem dX7_put_82 : decode cX7_put 82 = .ok (.getfield 21, 3) := by decide +kernel
theorem dX7_put_85 : decode cX7_put 85 = .ok (.aload_n 3, 1) := by decide +kernel
theorem dX7_put_86 : decode cX7_put 86 = .ok (.getfield 48, 3) := by decide +kernel
theorem dX7_put_89 : decode cX7_put 89 = .ok (.iload_n 2, 1) := by decide +kernel
theorem dX7_put_90 : decode cX7_put 90 = .ok (.iaload, 1) := by decide +kernel
theorem dX7_put_91 : decode cX7_put 91 = .ok (.iadd, 1) := by decide +kernel
theorem dX7_put_92 : decode cX7_put 92 = .ok (.putfield 21, 3) := by decide +kernel
theorem dX7_put_95 : decode cX7_put 95 = .ok (.return_, 1) := by decide +kernel
theorem dJ6_compare_7cf53_0 : decode cJ6_compare_7cf53 0 = .ok (.iload_n 0, 1) := by decide +kernel
theorem dJ6_compare_7cf53_1 : decode cJ6_compare_7cf53 1 = .ok (.iload_n 1, 1) := by decide +kernel
theorem dJ6_compare_7cf53_2 : decode cJ6_compare_7cf53 2 = .ok (.if_icmp .ge 7, 3) := by decide +kernel
theorem dJ6_compare_7cf53_5 : decode cJ6_compare_7cf53 5 = .ok (.iconst (-1), 1) := by decide +kernel
theorem dJ6_compare_7cf53_6 : decode cJ6_compare_7cf53 6 = .ok (.goto 13, 3) := by decide +kernel
theorem dJ6_compare_7cf53_9 : decode cJ6_compare_7cf53 9 = .ok (.iload_n 0, 1) := by decide +kernel
theorem dJ6_compare_7cf53_10 : decode cJ6_compare_7cf53 10 = .ok (.iload_n 1, 1) := by decide +kernel
theorem dJ6_compare_7cf53_11 : decode cJ6_compare_7cf53 11 = .ok (.if_icmp .ne 7, 3) := by decide +kernel
theorem dJ6_compare_7cf53_14 : decode cJ6_compare_7cf53 14 = .ok (.iconst 0, 1) := by decide +kernel
theorem dJ6_compare_7cf53_15 : decode cJ6_compare_7cf53 15 = .ok (.goto 4, 3) := by decide +kernel
theorem dJ6_compare_7cf53_18 : decode cJ6_compare_7cf53 18 = .ok (.iconst 1, 1) := by decide +kernel
theorem dJ6_compare_7cf53_19 : decode cJ6_compare_7cf53 19 = .ok (.ireturn, 1) := by decide +kernel
theorem dJ6_bitCount_0f7a4_0 : decode cJ6_bitCount_0f7a4 0 = .ok (.iload_n 0, 1) := by decide +kernel
theorem dJ6_bitCount_0f7a4_1 : decode cJ6_bitCount_0f7a4 1 = .ok (.iload_n 0, 1) := by decide +kernel
theorem dJ6_bitCount_0f7a4_2 : decode cJ6_bitCount_0f7a4 2 = .ok (.iconst 1, 1) := by decide +kernel
theorem dJ6_bitCount_0f7a4_3 : decode cJ6_bitCount_0f7a4 3 = .ok (.iushr, 1) := by decide +kernel
theorem dJ6_bitCount_0f7a4_4 : decode cJ6_bitCount_0f7a4 4 = .ok (.ldc_w 265, 3) := by decide +kernel
theorem dJ6_bitCount_0f7a4_7 : decode cJ6_bitCount_0f7a4 7 = .ok (.iand, 1) := by decide +kernel
theorem dJ6_bitCount_0f7a4_8 : decode cJ6_bitCount_0f7a4 8 = .ok (.isub, 1) := by decide +kernel
theorem dJ6_bitCount_0f7a4_9 : decode cJ6_bitCount_0f7a4 9 = .ok (.istore_n 0, 1) := by decide +kernel
theorem dJ6_bitCount_0f7a4_10 : decode cJ6_bitCount_0f7a4 10 = .ok (.iload_n 0, 1) := by decide +kernel
theorem dJ6_bitCount_0f7a4_11 : decode cJ6_bitCount_0f7a4 11 = .ok (.ldc_w 266, 3) := by decide +kernel
theorem dJ6_bitCount_0f7a4_14 : decode cJ6_bitCount_0f7a4 14 = .ok (.iand, 1) := by decide +kernel
theorem dJ6_bitCount_0f7a4_15 : decode cJ6_bitCount_0f7a4 15 = .ok (.iload_n 0, 1) := by decide +kernel
theorem dJ6_bitCount_0f7a4_16 : decode cJ6_bitCount_0f7a4 16 = .ok (.iconst 2, 1) := by decide +kernel
theorem dJ6_bitCount_0f7a4_17 : decode cJ6_bitCount_0f7a4 17 = .ok (.iushr, 1) := by decide +kernel
theorem dJ6_bitCount_0f7a4_18 : decode cJ6_bitCount_0f7a4 18 = .ok (.ldc_w 266, 3) := by decide +kernel
theorem dJ6_bitCount_0f7a4_21 : decode cJ6_bitCount_0f7a4 21 = .ok (.iand, 1) := by decide +kernel
theorem dJ6_bitCount_0f7a4_22 : decode cJ6_bitCount_0f7a4 22 = .ok (.iadd, 1) := by decide +kernel
theorem dJ6_bitCount_0f7a4_23 : decode cJ6_bitCount_0f7a4 23 = .ok (.istore_n 0, 1) := by decide +kernel
theorem dJ6_bitCount_0f7a4_24 : decode cJ6_bitCount_0f7a4 24 = .ok (.iload_n 0, 1) := by decide +kernel
theorem dJ6_bitCount_0f7a4_25 : decode cJ6_bitCount_0f7a4 25 = .ok (.iload_n 0, 1) := by decide +kernel
theorem dJ6_bitCount_0f7a4_26 : decode cJ6_bitCount_0f7a4 26 = .ok (.iconst 4, 1) := by decide +kernel
theorem dJ6_bitCount_0f7a4_27 : decode cJ6_bitCount_0f7a4 27 = .ok (.iushr, 1) := by decide +kernel
theorem dJ6_bitCount_0f7a4_28 : decode cJ6_bitCount_0f7a4 28 = .ok (.iadd, 1) := by decide +kernel
theorem dJ6_bitCount_0f7a4_29 : decode cJ6_bitCount_0f7a4 29 = .ok (.ldc_w 267, 3) := by decide +kernel
theorem dJ6_bitCount_0f7a4_32 : decode cJ6_bitCount_0f7a4 32 = .ok (.iand, 1) := by decide +kernel
theorem dJ6_bitCount_0f7a4_33 : decode cJ6_bitCount_0f7a4 33 = .ok (.istore_n 0, 1) := by decide +kernel
theorem dJ6_bitCount_0f7a4_34 : decode cJ6_bitCount_0f7a4 34 = .ok (.iload_n 0, 1) := by decide +kernel
theorem dJ6_bitCount_0f7a4_35 : decode cJ6_bitCount_0f7a4 35 = .ok (.iload_n 0, 1) := by decide +kernel
theorem dJ6_bitCount_0f7a4_36 : decode cJ6_bitCount_0f7a4 36 = .ok (.bipush 8, 2) := by decide +kernel
theorem dJ6_bitCount_0f7a4_38 : decode cJ6_bitCount_0f7a4 38 = .ok (.iushr, 1) := by decide +kernel
theorem dJ6_bitCount_0f7a4_39 : decode cJ6_bitCount_0f7a4 39 = .ok (.iadd, 1) := by decide +kernel
theorem dJ6_bitCount_0f7a4_40 : decode cJ6_bitCount_0f7a4 40 = .ok (.istore_n 0, 1) := by decide +kernel
theorem dJ6_bitCount_0f7a4_41 : decode cJ6_bitCount_0f7a4 41 = .ok (.iload_n 0, 1) := by decide +kernel
theorem dJ6_bitCount_0f7a4_42 : decode cJ6_bitCount_0f7a4 42 = .ok (.iload_n 0, 1) := by decide +kernel
theorem dJ6_bitCount_0f7a4_43 : decode cJ6_bitCount_0f7a4 43 = .ok (.bipush 16, 2) := by decide +kernel
theorem dJ6_bitCount_0f7a4_45 : decode cJ6_bitCount_0f7a4 45 = .ok (.iushr, 1) := by decide +kernel
theorem dJ6_bitCount_0f7a4_46 : decode cJ6_bitCount_0f7a4 46 = .ok (.iadd, 1) := by decide +kernel
theorem dJ6_bitCount_0f7a4_47 : decode cJ6_bitCount_0f7a4 47 = .ok (.istore_n 0, 1) := by decide +kernel
theorem dJ6_bitCount_0f7a4_48 : decode cJ6_bitCount_0f7a4 48 = .ok (.iload_n 0, 1) := by decide +kernel
theorem dJ6_bitCount_0f7a4_49 : decode cJ6_bitCount_0f7a4 49 = .ok (.bipush 63, 2) := by decide +kernel
theorem dJ6_bitCount_0f7a4_51 : decode cJ6_bitCount_0f7a4 51 = .ok (.iand, 1) := by decide +kernel
theorem dJ6_bitCount_0f7a4_52 : decode cJ6_bitCount_0f7a4 52 = .ok (.ireturn, 1) := by decide +kernel
theorem dJ9_max_7cf53_0 : decode cJ9_max_7cf53 0 = .ok (.iload_n 0, 1) := by decide +kernel
theorem dJ9_max_7cf53_1 : decode cJ9_max_7cf53 1 = .ok (.iload_n 1, 1) := by decide +kernel
theorem dJ9_max_7cf53_2 : decode cJ9_max_7cf53 2 = .ok (.if_icmp .lt 7, 3) := by decide +kernel
theorem dJ9_max_7cf53_5 : decode cJ9_max_7cf53 5 = .ok (.iload_n 0, 1) := by decide +kernel
theorem dJ9_max_7cf53_6 : decode cJ9_max_7cf53 6 = .ok (.goto 4, 3) := by decide +kernel
theorem dJ9_max_7cf53_9 : decode cJ9_max_7cf53 9 = .ok (.iload_n 1, 1) := by decide +kernel
theorem dJ9_max_7cf53_10 : decode cJ9_max_7cf53 10 = .ok (.ireturn, 1) := by decide +kernel
theorem dJ9_min_7cf53_0 : decode cJ9_min_7cf53 0 = .ok (.iload_n 0, 1) := by decide +kernel
theorem dJ9_min_7cf53_1 : decode cJ9_min_7cf53 1 = .ok (.iload_n 1, 1) := by decide +kernel
theorem dJ9_min_7cf53_2 : decode cJ9_min_7cf53 2 = .ok (.if_icmp .gt 7, 3) := by decide +kernel
theorem dJ9_min_7cf53_5 : decode cJ9_min_7cf53 5 = .ok (.iload_n 0, 1) := by decide +kernel
theorem dJ9_min_7cf53_6 : decode cJ9_min_7cf53 6 = .ok (.goto 4, 3) := by decide +kernel
theorem dJ9_min_7cf53_9 : decode cJ9_min_7cf53 9 = .ok (.iload_n 1, 1) := by decide +kernel
theorem dJ9_min_7cf53_10 : decode cJ9_min_7cf53 10 = .ok (.ireturn, 1) := by decide +kernel
