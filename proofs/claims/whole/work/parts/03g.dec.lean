theorem dX9_game_35 : decode cX9_game 35 = .ok (.iconst 0, 1) := by decide +kernel
theorem dX9_game_36 : decode cX9_game 36 = .ok (.istore_n 3, 1) := by decide +kernel
theorem dX9_game_37 : decode cX9_game 37 = .ok (.iload_n 3, 1) := by decide +kernel
theorem dX9_game_38 : decode cX9_game 38 = .ok (.iconst 2, 1) := by decide +kernel
theorem dX9_game_39 : decode cX9_game 39 = .ok (.if_icmp .ge 47, 3) := by decide +kernel
theorem dX9_game_42 : decode cX9_game 42 = .ok (.aload_n 0, 1) := by decide +kernel
theorem dX9_game_43 : decode cX9_game 43 = .ok (.getfield 32, 3) := by decide +kernel
theorem dX9_game_46 : decode cX9_game 46 = .ok (.iload_n 3, 1) := by decide +kernel
theorem dX9_game_47 : decode cX9_game 47 = .ok (.aload_n 0, 1) := by decide +kernel
theorem dX9_game_48 : decode cX9_game 48 = .ok (.getfield 25, 3) := by decide +kernel
theorem dX9_game_51 : decode cX9_game 51 = .ok (.iastore, 1) := by decide +kernel
theorem dX9_game_52 : decode cX9_game 52 = .ok (.aload_n 0, 1) := by decide +kernel
theorem dX9_game_53 : decode cX9_game 53 = .ok (.getfield 35, 3) := by decide +kernel
theorem dX9_game_56 : decode cX9_game 56 = .ok (.iload_n 3, 1) := by decide +kernel
theorem dX9_game_57 : decode cX9_game 57 = .ok (.iconst 0, 1) := by decide +kernel
theorem dX9_game_58 : decode cX9_game 58 = .ok (.iastore, 1) := by decide +kernel
theorem dX9_game_59 : decode cX9_game 59 = .ok (.aload_n 0, 1) := by decide +kernel
theorem dX9_game_60 : decode cX9_game 60 = .ok (.getfield 38, 3) := by decide +kernel
theorem dX9_game_63 : decode cX9_game 63 = .ok (.iload_n 3, 1) := by decide +kernel
theorem dX9_game_64 : decode cX9_game 64 = .ok (.iconst 0, 1) := by decide +kernel
theorem dX9_game_65 : decode cX9_game 65 = .ok (.iastore, 1) := by decide +kernel
theorem dX9_game_66 : decode cX9_game 66 = .ok (.aload_n 0, 1) := by decide +kernel
theorem dX9_game_67 : decode cX9_game 67 = .ok (.getfield 41, 3) := by decide +kernel
theorem dX9_game_70 : decode cX9_game 70 = .ok (.iload_n 3, 1) := by decide +kernel
theorem dX9_game_71 : decode cX9_game 71 = .ok (.iconst 0, 1) := by decide +kernel
theorem dX9_game_72 : decode cX9_game 72 = .ok (.iastore, 1) := by decide +kernel
theorem dX9_game_73 : decode cX9_game 73 = .ok (.aload_n 0, 1) := by decide +kernel
theorem dX9_game_74 : decode cX9_game 74 = .ok (.getfield 44, 3) := by decide +kernel
theorem dX9_game_77 : decode cX9_game 77 = .ok (.iload_n 3, 1) := by decide +kernel
theorem dX9_game_78 : decode cX9_game 78 = .ok (.iconst 0, 1) := by decide +kernel
theorem dX9_game_79 : decode cX9_game 79 = .ok (.iastore, 1) := by decide +kernel
theorem dX9_game_80 : decode cX9_game 80 = .ok (.iinc 3 1, 3) := by decide +kernel
theorem dX9_game_83 : decode cX9_game 83 = .ok (.goto (-46), 3) := by decide +kernel
theorem dX9_game_86 : decode cX9_game 86 = .ok (.aload_n 0, 1) := by decide +kernel
theorem dX9_game_87 : decode cX9_game 87 = .ok (.iconst 0, 1) := by decide +kernel
theorem dX9_game_88 : decode cX9_game 88 = .ok (.putfield 97, 3) := by decide +kernel
theorem dX9_game_91 : decode cX9_game 91 = .ok (.aload_n 0, 1) := by decide +kernel
theorem dX9_game_92 : decode cX9_game 92 = .ok (.invokevirtual 104, 3) := by decide +kernel
theorem dX9_game_95 : decode cX9_game 95 = .ok (.ifCond .ne 42, 3) := by decide +kernel
theorem dX9_game_98 : decode cX9_game 98 = .ok (.aload_n 0, 1) := by decide +kernel
theorem dX9_game_99 : decode cX9_game 99 = .ok (.getfield 97, 3) := by decide +kernel
theorem dX9_game_102 : decode cX9_game 102 = .ok (.bipush 12, 2) := by decide +kernel
theorem dX9_game_104 : decode cX9_game 104 = .ok (.if_icmp .ge 33, 3) := by decide +kernel
theorem dX9_game_107 : decode cX9_game 107 = .ok (.aload_n 0, 1) := by decide +kernel
theorem dX9_game_108 : decode cX9_game 108 = .ok (.dup, 1) := by decide +kernel
theorem dX9_game_109 : decode cX9_game 109 = .ok (.getfield 97, 3) := by decide +kernel
theorem dX9_game_112 : decode cX9_game 112 = .ok (.iconst 1, 1) := by decide +kernel
theorem dX9_game_113 : decode cX9_game 113 = .ok (.iadd, 1) := by decide +kernel
theorem dX9_game_114 : decode cX9_game 114 = .ok (.putfield 97, 3) := by decide +kernel
theorem dX9_game_117 : decode cX9_game 117 = .ok (.aload_n 0, 1) := by decide +kernel
theorem dX9_game_118 : decode cX9_game 118 = .ok (.iconst 0, 1) := by decide +kernel
theorem dX9_game_119 : decode cX9_game 119 = .ok (.invokevirtual 111, 3) := by decide +kernel
theorem dX9_game_122 : decode cX9_game 122 = .ok (.aload_n 0, 1) := by decide +kernel
theorem dX9_game_123 : decode cX9_game 123 = .ok (.invokevirtual 104, 3) := by decide +kernel
theorem dX9_game_126 : decode cX9_game 126 = .ok (.ifCond .ne (-35), 3) := by decide +kernel
theorem dX9_game_129 : decode cX9_game 129 = .ok (.aload_n 0, 1) := by decide +kernel
theorem dX9_game_130 : decode cX9_game 130 = .ok (.iconst 1, 1) := by decide +kernel
theorem dX9_game_131 : decode cX9_game 131 = .ok (.invokevirtual 111, 3) := by decide +kernel
theorem dX9_game_134 : decode cX9_game 134 = .ok (.goto (-43), 3) := by decide +kernel
theorem dX9_game_137 : decode cX9_game 137 = .ok (.return_, 1) := by decide +kernel
theorem dX9_result_0 : decode cX9_result 0 = .ok (.aload_n 0, 1) := by decide +kernel
theorem dX9_result_1 : decode cX9_result 1 = .ok (.iload_n 1, 1) := by decide +kernel
theorem dX9_result_2 : decode cX9_result 2 = .ok (.iload_n 2, 1) := by decide +kernel
theorem dX9_result_3 : decode cX9_result 3 = .ok (.invokevirtual 115, 3) := by decide +kernel
theorem dX9_result_6 : decode cX9_result 6 = .ok (.aload_n 0, 1) := by decide +kernel
theorem dX9_result_7 : decode cX9_result 7 = .ok (.getfield 32, 3) := by decide +kernel
theorem dX9_result_10 : decode cX9_result 10 = .ok (.iconst 0, 1) := by decide +kernel
theorem dX9_result_11 : decode cX9_result 11 = .ok (.iaload, 1) := by decide +kernel
theorem dX9_result_12 : decode cX9_result 12 = .ok (.aload_n 0, 1) := by decide +kernel
theorem dX9_result_13 : decode cX9_result 13 = .ok (.getfield 32, 3) := by decide +kernel
theorem dX9_result_16 : decode cX9_result 16 = .ok (.iconst 1, 1) := by decide +kernel
theorem dX9_result_17 : decode cX9_result 17 = .ok (.iaload, 1) := by decide +kernel
theorem dX9_result_18 : decode cX9_result 18 = .ok (.if_icmp .le 7, 3) := by decide +kernel
theorem dX9_result_21 : decode cX9_result 21 = .ok (.iconst 1, 1) := by decide +kernel
theorem dX9_result_22 : decode cX9_result 22 = .ok (.goto 23, 3) := by decide +kernel
theorem dX9_result_25 : decode cX9_result 25 = .ok (.aload_n 0, 1) := by decide +kernel
theorem dX9_result_26 : decode cX9_result 26 = .ok (.getfield 32, 3) := by decide +kernel
theorem dX9_result_29 : decode cX9_result 29 = .ok (.iconst 0, 1) := by decide +kernel
theorem dX9_result_30 : decode cX9_result 30 = .ok (.iaload, 1) := by decide +kernel
theorem dX9_result_31 : decode cX9_result 31 = .ok (.aload_n 0, 1) := by decide +kernel
theorem dX9_result_32 : decode cX9_result 32 = .ok (.getfield 32, 3) := by decide +kernel
theorem dX9_result_35 : decode cX9_result 35 = .ok (.iconst 1, 1) := by decide +kernel
theorem dX9_result_36 : decode cX9_result 36 = .ok (.iaload, 1) := by decide +kernel
theorem dX9_result_37 : decode cX9_result 37 = .ok (.if_icmp .ge 7, 3) := by decide +kernel
theorem dX9_result_40 : decode cX9_result 40 = .ok (.iconst (-1), 1) := by decide +kernel
theorem dX9_result_41 : decode cX9_result 41 = .ok (.goto 4, 3) := by decide +kernel
theorem dX9_result_44 : decode cX9_result 44 = .ok (.iconst 0, 1) := by decide +kernel
theorem dX9_result_45 : decode cX9_result 45 = .ok (.ireturn, 1) := by decide +kernel
theorem dX9_play_0 : decode cX9_play 0 = .ok (.aload_n 0, 1) := by decide +kernel
theorem dX9_play_1 : decode cX9_play 1 = .ok (.iload_n 1, 1) := by decide +kernel
theorem dX9_play_2 : decode cX9_play 2 = .ok (.invokevirtual 86, 3) := by decide +kernel
theorem dX9_play_5 : decode cX9_play 5 = .ok (.ifCond .eq 20, 3) := by decide +kernel
theorem dX9_play_8 : decode cX9_play 8 = .ok (.aload_n 0, 1) := by decide +kernel
theorem dX9_play_9 : decode cX9_play 9 = .ok (.iload_n 2, 1) := by decide +kernel
theorem dX9_play_10 : decode cX9_play 10 = .ok (.invokevirtual 86, 3) := by decide +kernel
theorem dX9_play_13 : decode cX9_play 13 = .ok (.ifCond .eq 12, 3) := by decide +kernel
theorem dX9_play_16 : decode cX9_play 16 = .ok (.aload_n 0, 1) := by decide +kernel
theorem dX9_play_17 : decode cX9_play 17 = .ok (.iload_n 1, 1) := by decide +kernel
theorem dX9_play_18 : decode cX9_play 18 = .ok (.iload_n 2, 1) := by decide +kernel
theorem dX9_play_19 : decode cX9_play 19 = .ok (.invokevirtual 118, 3) := by decide +kernel
theorem dX9_play_22 : decode cX9_play 22 = .ok (.goto 5, 3) := by decide +kernel
theorem dX9_play_25 : decode cX9_play 25 = .ok (.bipush (-2), 2) := by decide +kernel
theorem dX9_play_27 : decode cX9_play 27 = .ok (.ireturn, 1) := by decide +kernel
theorem dX9_told_0 : decode cX9_told 0 = .ok (.aload_n 0, 1) := by decide +kernel
theorem dX9_told_1 : decode cX9_told 1 = .ok (.iload_n 1, 1) := by decide +kernel
theorem dX9_told_2 : decode cX9_told 2 = .ok (.invokevirtual 86, 3) := by decide +kernel
theorem dX9_told_5 : decode cX9_told 5 = .ok (.ifCond .eq 11, 3) := by decide +kernel
theorem dX9_told_8 : decode cX9_told 8 = .ok (.aload_n 0, 1) := by decide +kernel
theorem dX9_told_9 : decode cX9_told 9 = .ok (.iload_n 2, 1) := by decide +kernel
theorem dX9_told_10 : decode cX9_told 10 = .ok (.invokevirtual 86, 3) := by decide +kernel
theorem dX9_told_13 : decode cX9_told 13 = .ok (.ifCond .ne 6, 3) := by decide +kernel
theorem dX9_told_16 : decode cX9_told 16 = .ok (.ldc 121, 2) := by decide +kernel
theorem dX9_told_18 : decode cX9_told 18 = .ok (.ireturn, 1) := by decide +kernel
theorem dX9_told_19 : decode cX9_told 19 = .ok (.aload_n 0, 1) := by decide +kernel
theorem dX9_told_20 : decode cX9_told 20 = .ok (.iload_n 1, 1) := by decide +kernel
theorem dX9_told_21 : decode cX9_told 21 = .ok (.iload_n 2, 1) := by decide +kernel
theorem dX9_told_22 : decode cX9_told 22 = .ok (.invokevirtual 115, 3) := by decide +kernel
theorem dX9_told_25 : decode cX9_told 25 = .ok (.iload_n 3, 1) := by decide +kernel
theorem dX9_told_26 : decode cX9_told 26 = .ok (.tableswitch 67 0 4 #[34, 39, 46, 53, 60], 34) := by decide +kernel
theorem dX9_told_60 : decode cX9_told 60 = .ok (.aload_n 0, 1) := by decide +kernel
theorem dX9_told_61 : decode cX9_told 61 = .ok (.getfield 97, 3) := by decide +kernel
theorem dX9_told_64 : decode cX9_told 64 = .ok (.ireturn, 1) := by decide +kernel
theorem dX9_told_65 : decode cX9_told 65 = .ok (.aload_n 0, 1) := by decide +kernel
theorem dX9_told_66 : decode cX9_told 66 = .ok (.getfield 32, 3) := by decide +kernel
theorem dX9_told_69 : decode cX9_told 69 = .ok (.iconst 0, 1) := by decide +kernel
theorem dX9_told_70 : decode cX9_told 70 = .ok (.iaload, 1) := by decide +kernel
theorem dX9_told_71 : decode cX9_told 71 = .ok (.ireturn, 1) := by decide +kernel
theorem dX9_told_72 : decode cX9_told 72 = .ok (.aload_n 0, 1) := by decide +kernel
theorem dX9_told_73 : decode cX9_told 73 = .ok (.getfield 32, 3) := by decide +kernel
theorem dX9_told_76 : decode cX9_told 76 = .ok (.iconst 1, 1) := by decide +kernel
theorem dX9_told_77 : decode cX9_told 77 = .ok (.iaload, 1) := by decide +kernel
theorem dX9_told_78 : decode cX9_told 78 = .ok (.ireturn, 1) := by decide +kernel
theorem dX9_told_79 : decode cX9_told 79 = .ok (.aload_n 0, 1) := by decide +kernel
theorem dX9_told_80 : decode cX9_told 80 = .ok (.getfield 44, 3) := by decide +kernel
theorem dX9_told_83 : decode cX9_told 83 = .ok (.iconst 0, 1) := by decide +kernel
theorem dX9_told_84 : decode cX9_told 84 = .ok (.iaload, 1) := by decide +kernel
theorem dX9_told_85 : decode cX9_told 85 = .ok (.ireturn, 1) := by decide +kernel
theorem dX9_told_86 : decode cX9_told 86 = .ok (.aload_n 0, 1) := by decide +kernel
theorem dX9_told_87 : decode cX9_told 87 = .ok (.getfield 44, 3) := by decide +kernel
theorem dX9_told_90 : decode cX9_told 90 = .ok (.iconst 1, 1) := by decide +kernel
theorem dX9_told_91 : decode cX9_told 91 = .ok (.iaload, 1) := by decide +kernel
theorem dX9_told_92 : decode cX9_told 92 = .ok (.ireturn, 1) := by decide +kernel
theorem dX9_told_93 : decode cX9_told 93 = .ok (.ldc 121, 2) := by decide +kernel
theorem dX9_told_95 : decode cX9_told 95 = .ok (.ireturn, 1) := by decide +kernel
theorem dX9_tableOf_0 : decode cX9_tableOf 0 = .ok (.aload_n 0, 1) := by decide +kernel
theorem dX9_tableOf_1 : decode cX9_tableOf 1 = .ok (.iload_n 1, 1) := by decide +kernel
theorem dX9_tableOf_2 : decode cX9_tableOf 2 = .ok (.iload_n 2, 1) := by decide +kernel
theorem dX9_tableOf_3 : decode cX9_tableOf 3 = .ok (.invokevirtual 118, 3) := by decide +kernel
theorem dX9_tableOf_6 : decode cX9_tableOf 6 = .ok (.aload_n 0, 1) := by decide +kernel
theorem dX9_tableOf_7 : decode cX9_tableOf 7 = .ok (.iload_n 2, 1) := by decide +kernel
theorem dX9_tableOf_8 : decode cX9_tableOf 8 = .ok (.iload_n 1, 1) := by decide +kernel
theorem dX9_tableOf_9 : decode cX9_tableOf 9 = .ok (.invokevirtual 118, 3) := by decide +kernel
theorem dX9_tableOf_12 : decode cX9_tableOf 12 = .ok (.isub, 1) := by decide +kernel
theorem dX9_tableOf_13 : decode cX9_tableOf 13 = .ok (.ireturn, 1) := by decide +kernel
theorem dX9_table_0 : decode cX9_table 0 = .ok (.aload_n 0, 1) := by decide +kernel
theorem dX9_table_1 : decode cX9_table 1 = .ok (.iload_n 1, 1) := by decide +kernel
theorem dX9_table_2 : decode cX9_table 2 = .ok (.invokevirtual 86, 3) := by decide +kernel
theorem dX9_table_5 : decode cX9_table 5 = .ok (.ifCond .eq 20, 3) := by decide +kernel
theorem dX9_table_8 : decode cX9_table 8 = .ok (.aload_n 0, 1) := by decide +kernel
theorem dX9_table_9 : decode cX9_table 9 = .ok (.iload_n 2, 1) := by decide +kernel
theorem dX9_table_10 : decode cX9_table 10 = .ok (.invokevirtual 86, 3) := by decide +kernel
theorem dX9_table_13 : decode cX9_table 13 = .ok (.ifCond .eq 12, 3) := by decide +kernel
theorem dX9_table_16 : decode cX9_table 16 = .ok (.aload_n 0, 1) := by decide +kernel
theorem dX9_table_17 : decode cX9_table 17 = .ok (.iload_n 1, 1) := by decide +kernel
theorem dX9_table_18 : decode cX9_table 18 = .ok (.iload_n 2, 1) := by decide +kernel
theorem dX9_table_19 : decode cX9_table 19 = .ok (.invokevirtual 122, 3) := by decide +kernel
theorem dX9_table_22 : decode cX9_table 22 = .ok (.goto 5, 3) := by decide +kernel
theorem dX9_table_25 : decode cX9_table 25 = .ok (.ldc 121, 2) := by decide +kernel
theorem dX9_table_27 : decode cX9_table 27 = .ok (.ireturn, 1) := by decide +kernel
theorem dX9_layTables_0 : decode cX9_layTables 0 = .ok (.iconst 0, 1) := by decide +kernel
theorem dX9_layTables_1 : decode cX9_layTables 1 = .ok (.istore_n 1, 1) := by decide +kernel
theorem dX9_layTables_2 : decode cX9_layTables 2 = .ok (.iload_n 1, 1) := by decide +kernel
theorem dX9_layTables_3 : decode cX9_layTables 3 = .ok (.aload_n 0, 1) := by decide +kernel
theorem dX9_layTables_4 : decode cX9_layTables 4 = .ok (.getfield 79, 3) := by decide +kernel
theorem dX9_layTables_7 : decode cX9_layTables 7 = .ok (.if_icmp .ge 41, 3) := by decide +kernel
theorem dX9_layTables_10 : decode cX9_layTables 10 = .ok (.iconst 0, 1) := by decide +kernel
theorem dX9_layTables_11 : decode cX9_layTables 11 = .ok (.istore_n 2, 1) := by decide +kernel
theorem dX9_layTables_12 : decode cX9_layTables 12 = .ok (.iload_n 2, 1) := by decide +kernel
theorem dX9_layTables_13 : decode cX9_layTables 13 = .ok (.aload_n 0, 1) := by decide +kernel
theorem dX9_layTables_14 : decode cX9_layTables 14 = .ok (.getfield 79, 3) := by decide +kernel
theorem dX9_layTables_17 : decode cX9_layTables 17 = .ok (.if_icmp .ge 25, 3) := by decide +kernel
theorem dX9_layTables_20 : decode cX9_layTables 20 = .ok (.aload_n 0, 1) := by decide +kernel
theorem dX9_layTables_21 : decode cX9_layTables 21 = .ok (.getfield 50, 3) := by decide +kernel
theorem dX9_layTables_24 : decode cX9_layTables 24 = .ok (.iconst 5, 1) := by decide +kernel
theorem dX9_layTables_25 : decode cX9_layTables 25 = .ok (.iload_n 1, 1) := by decide +kernel
theorem dX9_layTables_26 : decode cX9_layTables 26 = .ok (.imul, 1) := by decide +kernel
theorem dX9_layTables_27 : decode cX9_layTables 27 = .ok (.iload_n 2, 1) := by decide +kernel
theorem dX9_layTables_28 : decode cX9_layTables 28 = .ok (.iadd, 1) := by decide +kernel
theorem dX9_layTables_29 : decode cX9_layTables 29 = .ok (.aload_n 0, 1) := by decide +kernel
theorem dX9_layTables_30 : decode cX9_layTables 30 = .ok (.iload_n 1, 1) := by decide +kernel
theorem dX9_layTables_31 : decode cX9_layTables 31 = .ok (.iload_n 2, 1) := by decide +kernel
theorem dX9_layTables_32 : decode cX9_layTables 32 = .ok (.invokevirtual 122, 3) := by decide +kernel
theorem dX9_layTables_35 : decode cX9_layTables 35 = .ok (.iastore, 1) := by decide +kernel
theorem dX9_layTables_36 : decode cX9_layTables 36 = .ok (.iinc 2 1, 3) := by decide +kernel
theorem dX9_layTables_39 : decode cX9_layTables 39 = .ok (.goto (-27), 3) := by decide +kernel
theorem dX9_layTables_42 : decode cX9_layTables 42 = .ok (.iinc 1 1, 3) := by decide +kernel
theorem dX9_layTables_45 : decode cX9_layTables 45 = .ok (.goto (-43), 3) := by decide +kernel
theorem dX9_layTables_48 : decode cX9_layTables 48 = .ok (.return_, 1) := by decide +kernel
theorem dX9_beats_0 : decode cX9_beats 0 = .ok (.aload_n 0, 1) := by decide +kernel
theorem dX9_beats_1 : decode cX9_beats 1 = .ok (.getfield 50, 3) := by decide +kernel
theorem dX9_beats_4 : decode cX9_beats 4 = .ok (.iconst 5, 1) := by decide +kernel
theorem dX9_beats_5 : decode cX9_beats 5 = .ok (.iload_n 1, 1) := by decide +kernel
theorem dX9_beats_6 : decode cX9_beats 6 = .ok (.imul, 1) := by decide +kernel
theorem dX9_beats_7 : decode cX9_beats 7 = .ok (.iload_n 2, 1) := by decide +kernel
theorem dX9_beats_8 : decode cX9_beats 8 = .ok (.iadd, 1) := by decide +kernel
theorem dX9_beats_9 : decode cX9_beats 9 = .ok (.iaload, 1) := by decide +kernel
theorem dX9_beats_10 : decode cX9_beats 10 = .ok (.ifCond .le 7, 3) := by decide +kernel
theorem dX9_beats_13 : decode cX9_beats 13 = .ok (.iconst 1, 1) := by decide +kernel
theorem dX9_beats_14 : decode cX9_beats 14 = .ok (.goto 4, 3) := by decide +kernel
theorem dX9_beats_17 : decode cX9_beats 17 = .ok (.iconst 0, 1) := by decide +kernel
theorem dX9_beats_18 : decode cX9_beats 18 = .ok (.ireturn, 1) := by decide +kernel
theorem dX9_findRings_0 : decode cX9_findRings 0 = .ok (.aload_n 0, 1) := by decide +kernel
theorem dX9_findRings_1 : decode cX9_findRings 1 = .ok (.invokevirtual 125, 3) := by decide +kernel
theorem dX9_findRings_4 : decode cX9_findRings 4 = .ok (.iconst 0, 1) := by decide +kernel
theorem dX9_findRings_5 : decode cX9_findRings 5 = .ok (.istore_n 2, 1) := by decide +kernel
theorem dX9_findRings_6 : decode cX9_findRings 6 = .ok (.iconst 0, 1) := by decide +kernel
theorem dX9_findRings_7 : decode cX9_findRings 7 = .ok (.istore_n 3, 1) := by decide +kernel
theorem dX9_findRings_8 : decode cX9_findRings 8 = .ok (.iload_n 3, 1) := by decide +kernel
theorem dX9_findRings_9 : decode cX9_findRings 9 = .ok (.aload_n 0, 1) := by decide +kernel
theorem dX9_findRings_10 : decode cX9_findRings 10 = .ok (.getfield 79, 3) := by decide +kernel
theorem dX9_findRings_13 : decode cX9_findRings 13 = .ok (.if_icmp .ge 136, 3) := by decide +kernel
theorem dX9_findRings_16 : decode cX9_findRings 16 = .ok (.iload_n 3, 1) := by decide +kernel
theorem dX9_findRings_17 : decode cX9_findRings 17 = .ok (.iconst 1, 1) := by decide +kernel
theorem dX9_findRings_18 : decode cX9_findRings 18 = .ok (.iadd, 1) := by decide +kernel
theorem dX9_findRings_19 : decode cX9_findRings 19 = .ok (.istore 4, 2) := by decide +kernel
theorem dX9_findRings_21 : decode cX9_findRings 21 = .ok (.iload 4, 2) := by decide +kernel
theorem dX9_findRings_23 : decode cX9_findRings 23 = .ok (.aload_n 0, 1) := by decide +kernel
theorem dX9_findRings_24 : decode cX9_findRings 24 = .ok (.getfield 79, 3) := by decide +kernel
theorem dX9_findRings_27 : decode cX9_findRings 27 = .ok (.if_icmp .ge 116, 3) := by decide +kernel
theorem dX9_findRings_30 : decode cX9_findRings 30 = .ok (.iload_n 3, 1) := by decide +kernel
theorem dX9_findRings_31 : decode cX9_findRings 31 = .ok (.iconst 1, 1) := by decide +kernel
theorem dX9_findRings_32 : decode cX9_findRings 32 = .ok (.iadd, 1) := by decide +kernel
theorem dX9_findRings_33 : decode cX9_findRings 33 = .ok (.istore 5, 2) := by decide +kernel
theorem dX9_findRings_35 : decode cX9_findRings 35 = .ok (.iload 5, 2) := by decide +kernel
theorem dX9_findRings_37 : decode cX9_findRings 37 = .ok (.aload_n 0, 1) := by decide +kernel
theorem dX9_findRings_38 : decode cX9_findRings 38 = .ok (.getfield 79, 3) := by decide +kernel
theorem dX9_findRings_41 : decode cX9_findRings 41 = .ok (.if_icmp .ge 96, 3) := by decide +kernel
theorem dX9_findRings_44 : decode cX9_findRings 44 = .ok (.aload_n 0, 1) := by decide +kernel
theorem dX9_findRings_45 : decode cX9_findRings 45 = .ok (.iload_n 3, 1) := by decide +kernel
theorem dX9_findRings_46 : decode cX9_findRings 46 = .ok (.iload 4, 2) := by decide +kernel
theorem dX9_findRings_48 : decode cX9_findRings 48 = .ok (.invokevirtual 128, 3) := by decide +kernel
theorem dX9_findRings_51 : decode cX9_findRings 51 = .ok (.ifCond .eq 80, 3) := by decide +kernel
theorem dX9_findRings_54 : decode cX9_findRings 54 = .ok (.aload_n 0, 1) := by decide +kernel
theorem dX9_findRings_55 : decode cX9_findRings 55 = .ok (.iload 4, 2) := by decide +kernel
theorem dX9_findRings_57 : decode cX9_findRings 57 = .ok (.iload 5, 2) := by decide +kernel
theorem dX9_findRings_59 : decode cX9_findRings 59 = .ok (.invokevirtual 128, 3) := by decide +kernel
theorem dX9_findRings_62 : decode cX9_findRings 62 = .ok (.ifCond .eq 69, 3) := by decide +kernel
theorem dX9_findRings_65 : decode cX9_findRings 65 = .ok (.aload_n 0, 1) := by decide +kernel
theorem dX9_findRings_66 : decode cX9_findRings 66 = .ok (.iload 5, 2) := by decide +kernel
theorem dX9_findRings_68 : decode cX9_findRings 68 = .ok (.iload_n 3, 1) := by decide +kernel
theorem dX9_findRings_69 : decode cX9_findRings 69 = .ok (.invokevirtual 128, 3) := by decide +kernel
theorem dX9_findRings_72 : decode cX9_findRings 72 = .ok (.ifCond .eq 59, 3) := by decide +kernel
theorem dX9_findRings_75 : decode cX9_findRings 75 = .ok (.aload_n 0, 1) := by decide +kernel
theorem dX9_findRings_76 : decode cX9_findRings 76 = .ok (.iload_n 2, 1) := by decide +kernel
theorem dX9_findRings_77 : decode cX9_findRings 77 = .ok (.iload_n 1, 1) := by decide +kernel
theorem dX9_findRings_78 : decode cX9_findRings 78 = .ok (.if_icmp .ne 7, 3) := by decide +kernel
theorem dX9_findRings_81 : decode cX9_findRings 81 = .ok (.iload_n 3, 1) := by decide +kernel
theorem dX9_findRings_82 : decode cX9_findRings 82 = .ok (.goto 7, 3) := by decide +kernel
theorem dX9_findRings_85 : decode cX9_findRings 85 = .ok (.aload_n 0, 1) := by decide +kernel
theorem dX9_findRings_86 : decode cX9_findRings 86 = .ok (.getfield 131, 3) := by decide +kernel
theorem dX9_findRings_89 : decode cX9_findRings 89 = .ok (.putfield 131, 3) := by decide +kernel
theorem dX9_findRings_92 : decode cX9_findRings 92 = .ok (.aload_n 0, 1) := by decide +kernel
theorem dX9_findRings_93 : decode cX9_findRings 93 = .ok (.iload_n 2, 1) := by decide +kernel
theorem dX9_findRings_94 : decode cX9_findRings 94 = .ok (.iload_n 1, 1) := by decide +kernel
theorem dX9_findRings_95 : decode cX9_findRings 95 = .ok (.if_icmp .ne 8, 3) := by decide +kernel
theorem dX9_findRings_98 : decode cX9_findRings 98 = .ok (.iload 4, 2) := by decide +kernel
theorem dX9_findRings_100 : decode cX9_findRings 100 = .ok (.goto 7, 3) := by decide +kernel
theorem dX9_findRings_103 : decode cX9_findRings 103 = .ok (.aload_n 0, 1) := by decide +kernel
theorem dX9_findRings_104 : decode cX9_findRings 104 = .ok (.getfield 134, 3) := by decide +kernel
theorem dX9_findRings_107 : decode cX9_findRings 107 = .ok (.putfield 134, 3) := by decide +kernel
theorem dX9_findRings_110 : decode cX9_findRings 110 = .ok (.aload_n 0, 1) := by decide +kernel
theorem dX9_findRings_111 : decode cX9_findRings 111 = .ok (.iload_n 2, 1) := by decide +kernel
theorem dX9_findRings_112 : decode cX9_findRings 112 = .ok (.iload_n 1, 1) := by decide +kernel
theorem dX9_findRings_113 : decode cX9_findRings 113 = .ok (.if_icmp .ne 8, 3) := by decide +kernel
theorem dX9_findRings_116 : decode cX9_findRings 116 = .ok (.iload 5, 2) := by decide +kernel
theorem dX9_findRings_118 : decode cX9_findRings 118 = .ok (.goto 7, 3) := by decide +kernel
theorem dX9_findRings_121 : decode cX9_findRings 121 = .ok (.aload_n 0, 1) := by decide +kernel
theorem dX9_findRings_122 : decode cX9_findRings 122 = .ok (.getfield 137, 3) := by decide +kernel
theorem dX9_findRings_125 : decode cX9_findRings 125 = .ok (.putfield 137, 3) := by decide +kernel
theorem dX9_findRings_128 : decode cX9_findRings 128 = .ok (.iinc 2 1, 3) := by decide +kernel
theorem dX9_findRings_131 : decode cX9_findRings 131 = .ok (.iinc 5 1, 3) := by decide +kernel
theorem dX9_findRings_134 : decode cX9_findRings 134 = .ok (.goto (-99), 3) := by decide +kernel
theorem dX9_findRings_137 : decode cX9_findRings 137 = .ok (.iinc 4 1, 3) := by decide +kernel
theorem dX9_findRings_140 : decode cX9_findRings 140 = .ok (.goto (-119), 3) := by decide +kernel
theorem dX9_findRings_143 : decode cX9_findRings 143 = .ok (.iinc 3 1, 3) := by decide +kernel
theorem dX9_findRings_146 : decode cX9_findRings 146 = .ok (.goto (-138), 3) := by decide +kernel
theorem dX9_findRings_149 : decode cX9_findRings 149 = .ok (.iload_n 2, 1) := by decide +kernel
theorem dX9_findRings_150 : decode cX9_findRings 150 = .ok (.ireturn, 1) := by decide +kernel
theorem dX9_rings_0 : decode cX9_rings 0 = .ok (.aload_n 0, 1) := by decide +kernel
theorem dX9_rings_1 : decode cX9_rings 1 = .ok (.iconst (-1), 1) := by decide +kernel
theorem dX9_rings_2 : decode cX9_rings 2 = .ok (.invokevirtual 140, 3) := by decide +kernel
theorem dX9_rings_5 : decode cX9_rings 5 = .ok (.ireturn, 1) := by decide +kernel
theorem dX9_ring_0 : decode cX9_ring 0 = .ok (.iload_n 2, 1) := by decide +kernel
theorem dX9_ring_1 : decode cX9_ring 1 = .ok (.iconst 0, 1) := by decide +kernel
theorem dX9_ring_2 : decode cX9_ring 2 = .ok (.iconst 2, 1) := by decide +kernel
theorem dX9_ring_3 : decode cX9_ring 3 = .ok (.invokestatic 75, 3) := by decide +kernel
theorem dX9_ring_6 : decode cX9_ring 6 = .ok (.ifCond .eq 16, 3) := by decide +kernel
theorem dX9_ring_9 : decode cX9_ring 9 = .ok (.iload_n 1, 1) := by decide +kernel
theorem dX9_ring_10 : decode cX9_ring 10 = .ok (.ifCond .lt 12, 3) := by decide +kernel
theorem dX9_ring_13 : decode cX9_ring 13 = .ok (.aload_n 0, 1) := by decide +kernel
theorem dX9_ring_14 : decode cX9_ring 14 = .ok (.iload_n 1, 1) := by decide +kernel
theorem dX9_ring_15 : decode cX9_ring 15 = .ok (.invokevirtual 140, 3) := by decide +kernel
theorem dX9_ring_18 : decode cX9_ring 18 = .ok (.iload_n 1, 1) := by decide +kernel
theorem dX9_ring_19 : decode cX9_ring 19 = .ok (.if_icmp .gt 6, 3) := by decide +kernel
theorem dX9_ring_22 : decode cX9_ring 22 = .ok (.bipush (-2), 2) := by decide +kernel
theorem dX9_ring_24 : decode cX9_ring 24 = .ok (.ireturn, 1) := by decide +kernel
theorem dX9_ring_25 : decode cX9_ring 25 = .ok (.iload_n 2, 1) := by decide +kernel
theorem dX9_ring_26 : decode cX9_ring 26 = .ok (.ifCond .ne 10, 3) := by decide +kernel
theorem dX9_ring_29 : decode cX9_ring 29 = .ok (.aload_n 0, 1) := by decide +kernel
theorem dX9_ring_30 : decode cX9_ring 30 = .ok (.getfield 131, 3) := by decide +kernel
theorem dX9_ring_33 : decode cX9_ring 33 = .ok (.goto 19, 3) := by decide +kernel
theorem dX9_ring_36 : decode cX9_ring 36 = .ok (.iload_n 2, 1) := by decide +kernel
theorem dX9_ring_37 : decode cX9_ring 37 = .ok (.iconst 1, 1) := by decide +kernel
theorem dX9_ring_38 : decode cX9_ring 38 = .ok (.if_icmp .ne 10, 3) := by decide +kernel
theorem dX9_ring_41 : decode cX9_ring 41 = .ok (.aload_n 0, 1) := by decide +kernel
theorem dX9_ring_42 : decode cX9_ring 42 = .ok (.getfield 134, 3) := by decide +kernel
theorem dX9_ring_45 : decode cX9_ring 45 = .ok (.goto 7, 3) := by decide +kernel
theorem dX9_ring_48 : decode cX9_ring 48 = .ok (.aload_n 0, 1) := by decide +kernel
theorem dX9_ring_49 : decode cX9_ring 49 = .ok (.getfield 137, 3) := by decide +kernel
theorem dX9_ring_52 : decode cX9_ring 52 = .ok (.ireturn, 1) := by decide +kernel
theorem dX9_divisor_0 : decode cX9_divisor 0 = .ok (.lload_n 0, 1) := by decide +kernel
theorem dX9_divisor_1 : decode cX9_divisor 1 = .ok (.lconst 0, 1) := by decide +kernel
theorem dX9_divisor_2 : decode cX9_divisor 2 = .ok (.lcmp, 1) := by decide +kernel
theorem dX9_divisor_3 : decode cX9_divisor 3 = .ok (.ifCond .ge 8, 3) := by decide +kernel
theorem dX9_divisor_6 : decode cX9_divisor 6 = .ok (.lload_n 0, 1) := by decide +kernel
theorem dX9_divisor_7 : decode cX9_divisor 7 = .ok (.lneg, 1) := by decide +kernel
theorem dX9_divisor_8 : decode cX9_divisor 8 = .ok (.goto 4, 3) := by decide +kernel
theorem dX9_divisor_11 : decode cX9_divisor 11 = .ok (.lload_n 0, 1) := by decide +kernel
theorem dX9_divisor_12 : decode cX9_divisor 12 = .ok (.lstore 4, 2) := by decide +kernel
theorem dX9_divisor_14 : decode cX9_divisor 14 = .ok (.lload_n 2, 1) := by decide +kernel
theorem dX9_divisor_15 : decode cX9_divisor 15 = .ok (.lconst 0, 1) := by decide +kernel
theorem dX9_divisor_16 : decode cX9_divisor 16 = .ok (.lcmp, 1) := by decide +kernel
theorem dX9_divisor_17 : decode cX9_divisor 17 = .ok (.ifCond .ge 8, 3) := by decide +kernel
theorem dX9_divisor_20 : decode cX9_divisor 20 = .ok (.lload_n 2, 1) := by decide +kernel
theorem dX9_divisor_21 : decode cX9_divisor 21 = .ok (.lneg, 1) := by decide +kernel
theorem dX9_divisor_22 : decode cX9_divisor 22 = .ok (.goto 4, 3) := by decide +kernel
theorem dX9_divisor_25 : decode cX9_divisor 25 = .ok (.lload_n 2, 1) := by decide +kernel
theorem dX9_divisor_26 : decode cX9_divisor 26 = .ok (.lstore 6, 2) := by decide +kernel
theorem dX9_divisor_28 : decode cX9_divisor 28 = .ok (.lload 6, 2) := by decide +kernel
theorem dX9_divisor_30 : decode cX9_divisor 30 = .ok (.lconst 0, 1) := by decide +kernel
theorem dX9_divisor_31 : decode cX9_divisor 31 = .ok (.lcmp, 1) := by decide +kernel
theorem dX9_divisor_32 : decode cX9_divisor 32 = .ok (.ifCond .eq 21, 3) := by decide +kernel
theorem dX9_divisor_35 : decode cX9_divisor 35 = .ok (.lload 4, 2) := by decide +kernel
theorem dX9_divisor_37 : decode cX9_divisor 37 = .ok (.lload 6, 2) := by decide +kernel
theorem dX9_divisor_39 : decode cX9_divisor 39 = .ok (.lrem, 1) := by decide +kernel
theorem dX9_divisor_40 : decode cX9_divisor 40 = .ok (.lstore 8, 2) := by decide +kernel
theorem dX9_divisor_42 : decode cX9_divisor 42 = .ok (.lload 6, 2) := by decide +kernel
theorem dX9_divisor_44 : decode cX9_divisor 44 = .ok (.lstore 4, 2) := by decide +kernel
theorem dX9_divisor_46 : decode cX9_divisor 46 = .ok (.lload 8, 2) := by decide +kernel
theorem dX9_divisor_48 : decode cX9_divisor 48 = .ok (.lstore 6, 2) := by decide +kernel
theorem dX9_divisor_50 : decode cX9_divisor 50 = .ok (.goto (-22), 3) := by decide +kernel
theorem dX9_divisor_53 : decode cX9_divisor 53 = .ok (.lload 4, 2) := by decide +kernel
theorem dX9_divisor_55 : decode cX9_divisor 55 = .ok (.lreturn, 1) := by decide +kernel
theorem dX9_layBounds_0 : decode cX9_layBounds 0 = .ok (.iconst 0, 1) := by decide +kernel
theorem dX9_layBounds_1 : decode cX9_layBounds 1 = .ok (.istore_n 2, 1) := by decide +kernel
theorem dX9_layBounds_2 : decode cX9_layBounds 2 = .ok (.iload_n 2, 1) := by decide +kernel
theorem dX9_layBounds_3 : decode cX9_layBounds 3 = .ok (.aload_n 0, 1) := by decide +kernel
theorem dX9_layBounds_4 : decode cX9_layBounds 4 = .ok (.getfield 79, 3) := by decide +kernel
theorem dX9_layBounds_7 : decode cX9_layBounds 7 = .ok (.if_icmp .ge 16, 3) := by decide +kernel
theorem dX9_layBounds_10 : decode cX9_layBounds 10 = .ok (.aload_n 0, 1) := by decide +kernel
theorem dX9_layBounds_11 : decode cX9_layBounds 11 = .ok (.getfield 53, 3) := by decide +kernel
theorem dX9_layBounds_14 : decode cX9_layBounds 14 = .ok (.iload_n 2, 1) := by decide +kernel
theorem dX9_layBounds_15 : decode cX9_layBounds 15 = .ok (.lconst 1, 1) := by decide +kernel
theorem dX9_layBounds_16 : decode cX9_layBounds 16 = .ok (.lastore, 1) := by decide +kernel
theorem dX9_layBounds_17 : decode cX9_layBounds 17 = .ok (.iinc 2 1, 3) := by decide +kernel
theorem dX9_layBounds_20 : decode cX9_layBounds 20 = .ok (.goto (-18), 3) := by decide +kernel
theorem dX9_layBounds_23 : decode cX9_layBounds 23 = .ok (.aload_n 0, 1) := by decide +kernel
theorem dX9_layBounds_24 : decode cX9_layBounds 24 = .ok (.getfield 53, 3) := by decide +kernel
theorem dX9_layBounds_27 : decode cX9_layBounds 27 = .ok (.iconst 5, 1) := by decide +kernel
theorem dX9_layBounds_28 : decode cX9_layBounds 28 = .ok (.lconst 1, 1) := by decide +kernel
theorem dX9_layBounds_29 : decode cX9_layBounds 29 = .ok (.lastore, 1) := by decide +kernel
theorem dX9_layBounds_30 : decode cX9_layBounds 30 = .ok (.iconst 1, 1) := by decide +kernel
theorem dX9_layBounds_31 : decode cX9_layBounds 31 = .ok (.istore_n 2, 1) := by decide +kernel
theorem dX9_layBounds_32 : decode cX9_layBounds 32 = .ok (.iconst 0, 1) := by decide +kernel
theorem dX9_layBounds_33 : decode cX9_layBounds 33 = .ok (.istore_n 3, 1) := by decide +kernel
theorem dX9_layBounds_34 : decode cX9_layBounds 34 = .ok (.iload_n 3, 1) := by decide +kernel
theorem dX9_layBounds_35 : decode cX9_layBounds 35 = .ok (.iconst 2, 1) := by decide +kernel
theorem dX9_layBounds_36 : decode cX9_layBounds 36 = .ok (.aload_n 0, 1) := by decide +kernel
theorem dX9_layBounds_37 : decode cX9_layBounds 37 = .ok (.getfield 79, 3) := by decide +kernel
theorem dX9_layBounds_40 : decode cX9_layBounds 40 = .ok (.imul, 1) := by decide +kernel
theorem dX9_layBounds_41 : decode cX9_layBounds 41 = .ok (.if_icmp .ge 102, 3) := by decide +kernel
theorem dX9_layBounds_44 : decode cX9_layBounds 44 = .ok (.iload_n 1, 1) := by decide +kernel
theorem dX9_layBounds_45 : decode cX9_layBounds 45 = .ok (.iload_n 3, 1) := by decide +kernel
theorem dX9_layBounds_46 : decode cX9_layBounds 46 = .ok (.ishr, 1) := by decide +kernel
theorem dX9_layBounds_47 : decode cX9_layBounds 47 = .ok (.iconst 1, 1) := by decide +kernel
theorem dX9_layBounds_48 : decode cX9_layBounds 48 = .ok (.iand, 1) := by decide +kernel
theorem dX9_layBounds_49 : decode cX9_layBounds 49 = .ok (.iconst 1, 1) := by decide +kernel
theorem dX9_layBounds_50 : decode cX9_layBounds 50 = .ok (.if_icmp .ne 87, 3) := by decide +kernel
theorem dX9_layBounds_53 : decode cX9_layBounds 53 = .ok (.iconst 0, 1) := by decide +kernel
theorem dX9_layBounds_54 : decode cX9_layBounds 54 = .ok (.istore 4, 2) := by decide +kernel
theorem dX9_layBounds_56 : decode cX9_layBounds 56 = .ok (.iload 4, 2) := by decide +kernel
theorem dX9_layBounds_58 : decode cX9_layBounds 58 = .ok (.aload_n 0, 1) := by decide +kernel
theorem dX9_layBounds_59 : decode cX9_layBounds 59 = .ok (.getfield 79, 3) := by decide +kernel
theorem dX9_layBounds_62 : decode cX9_layBounds 62 = .ok (.if_icmp .ge 60, 3) := by decide +kernel
theorem dX9_layBounds_65 : decode cX9_layBounds 65 = .ok (.aload_n 0, 1) := by decide +kernel
theorem dX9_layBounds_66 : decode cX9_layBounds 66 = .ok (.getfield 53, 3) := by decide +kernel
theorem dX9_layBounds_69 : decode cX9_layBounds 69 = .ok (.bipush 6, 2) := by decide +kernel
theorem dX9_layBounds_71 : decode cX9_layBounds 71 = .ok (.iload_n 2, 1) := by decide +kernel
theorem dX9_layBounds_72 : decode cX9_layBounds 72 = .ok (.imul, 1) := by decide +kernel
theorem dX9_layBounds_73 : decode cX9_layBounds 73 = .ok (.iload 4, 2) := by decide +kernel
theorem dX9_layBounds_75 : decode cX9_layBounds 75 = .ok (.iadd, 1) := by decide +kernel
theorem dX9_layBounds_76 : decode cX9_layBounds 76 = .ok (.iload_n 3, 1) := by decide +kernel
theorem dX9_layBounds_77 : decode cX9_layBounds 77 = .ok (.aload_n 0, 1) := by decide +kernel
theorem dX9_layBounds_78 : decode cX9_layBounds 78 = .ok (.getfield 79, 3) := by decide +kernel
theorem dX9_layBounds_81 : decode cX9_layBounds 81 = .ok (.if_icmp .ge 17, 3) := by decide +kernel
theorem dX9_layBounds_84 : decode cX9_layBounds 84 = .ok (.iload_n 3, 1) := by decide +kernel
theorem dX9_layBounds_85 : decode cX9_layBounds 85 = .ok (.iload 4, 2) := by decide +kernel
theorem dX9_layBounds_87 : decode cX9_layBounds 87 = .ok (.if_icmp .ne 7, 3) := by decide +kernel
theorem dX9_layBounds_90 : decode cX9_layBounds 90 = .ok (.lconst 1, 1) := by decide +kernel
theorem dX9_layBounds_91 : decode cX9_layBounds 91 = .ok (.goto 24, 3) := by decide +kernel
theorem dX9_layBounds_94 : decode cX9_layBounds 94 = .ok (.lconst 0, 1) := by decide +kernel
theorem dX9_layBounds_95 : decode cX9_layBounds 95 = .ok (.goto 20, 3) := by decide +kernel
theorem dX9_layBounds_98 : decode cX9_layBounds 98 = .ok (.aload_n 0, 1) := by decide +kernel
theorem dX9_layBounds_99 : decode cX9_layBounds 99 = .ok (.getfield 50, 3) := by decide +kernel
theorem dX9_layBounds_102 : decode cX9_layBounds 102 = .ok (.iconst 5, 1) := by decide +kernel
theorem dX9_layBounds_103 : decode cX9_layBounds 103 = .ok (.iload 4, 2) := by decide +kernel
theorem dX9_layBounds_105 : decode cX9_layBounds 105 = .ok (.imul, 1) := by decide +kernel
theorem dX9_layBounds_106 : decode cX9_layBounds 106 = .ok (.iload_n 3, 1) := by decide +kernel
theorem dX9_layBounds_107 : decode cX9_layBounds 107 = .ok (.iadd, 1) := by decide +kernel
theorem dX9_layBounds_108 : decode cX9_layBounds 108 = .ok (.aload_n 0, 1) := by decide +kernel
theorem dX9_layBounds_109 : decode cX9_layBounds 109 = .ok (.getfield 79, 3) := by decide +kernel
theorem dX9_layBounds_112 : decode cX9_layBounds 112 = .ok (.isub, 1) := by decide +kernel
theorem dX9_layBounds_113 : decode cX9_layBounds 113 = .ok (.iaload, 1) := by decide +kernel
theorem dX9_layBounds_114 : decode cX9_layBounds 114 = .ok (.i2l, 1) := by decide +kernel
theorem dX9_layBounds_115 : decode cX9_layBounds 115 = .ok (.lastore, 1) := by decide +kernel
theorem dX9_layBounds_116 : decode cX9_layBounds 116 = .ok (.iinc 4 1, 3) := by decide +kernel
theorem dX9_layBounds_119 : decode cX9_layBounds 119 = .ok (.goto (-63), 3) := by decide +kernel
theorem dX9_layBounds_122 : decode cX9_layBounds 122 = .ok (.aload_n 0, 1) := by decide +kernel
theorem dX9_layBounds_123 : decode cX9_layBounds 123 = .ok (.getfield 53, 3) := by decide +kernel
theorem dX9_layBounds_126 : decode cX9_layBounds 126 = .ok (.bipush 6, 2) := by decide +kernel
theorem dX9_layBounds_128 : decode cX9_layBounds 128 = .ok (.iload_n 2, 1) := by decide +kernel
theorem dX9_layBounds_129 : decode cX9_layBounds 129 = .ok (.imul, 1) := by decide +kernel
theorem dX9_layBounds_130 : decode cX9_layBounds 130 = .ok (.iconst 5, 1) := by decide +kernel
theorem dX9_layBounds_131 : decode cX9_layBounds 131 = .ok (.iadd, 1) := by decide +kernel
theorem dX9_layBounds_132 : decode cX9_layBounds 132 = .ok (.lconst 0, 1) := by decide +kernel
theorem dX9_layBounds_133 : decode cX9_layBounds 133 = .ok (.lastore, 1) := by decide +kernel
theorem dX9_layBounds_134 : decode cX9_layBounds 134 = .ok (.iinc 2 1, 3) := by decide +kernel
theorem dX9_layBounds_137 : decode cX9_layBounds 137 = .ok (.iinc 3 1, 3) := by decide +kernel
theorem dX9_layBounds_140 : decode cX9_layBounds 140 = .ok (.goto (-106), 3) := by decide +kernel
theorem dX9_layBounds_143 : decode cX9_layBounds 143 = .ok (.return_, 1) := by decide +kernel
theorem dX9_changeRows_0 : decode cX9_changeRows 0 = .ok (.iconst 0, 1) := by decide +kernel
theorem dX9_changeRows_1 : decode cX9_changeRows 1 = .ok (.istore_n 3, 1) := by decide +kernel
theorem dX9_changeRows_2 : decode cX9_changeRows 2 = .ok (.iload_n 3, 1) := by decide +kernel
theorem dX9_changeRows_3 : decode cX9_changeRows 3 = .ok (.bipush 6, 2) := by decide +kernel
theorem dX9_changeRows_5 : decode cX9_changeRows 5 = .ok (.if_icmp .ge 57, 3) := by decide +kernel
theorem dX9_changeRows_8 : decode cX9_changeRows 8 = .ok (.aload_n 0, 1) := by decide +kernel
theorem dX9_changeRows_9 : decode cX9_changeRows 9 = .ok (.getfield 53, 3) := by decide +kernel
theorem dX9_changeRows_12 : decode cX9_changeRows 12 = .ok (.bipush 6, 2) := by decide +kernel
theorem dX9_changeRows_14 : decode cX9_changeRows 14 = .ok (.iload_n 1, 1) := by decide +kernel
theorem dX9_changeRows_15 : decode cX9_changeRows 15 = .ok (.imul, 1) := by decide +kernel
theorem dX9_changeRows_16 : decode cX9_changeRows 16 = .ok (.iload_n 3, 1) := by decide +kernel
theorem dX9_changeRows_17 : decode cX9_changeRows 17 = .ok (.iadd, 1) := by decide +kernel
theorem dX9_changeRows_18 : decode cX9_changeRows 18 = .ok (.laload, 1) := by decide +kernel
theorem dX9_changeRows_19 : decode cX9_changeRows 19 = .ok (.lstore 4, 2) := by decide +kernel
theorem dX9_changeRows_21 : decode cX9_changeRows 21 = .ok (.aload_n 0, 1) := by decide +kernel
theorem dX9_changeRows_22 : decode cX9_changeRows 22 = .ok (.getfield 53, 3) := by decide +kernel
theorem dX9_changeRows_25 : decode cX9_changeRows 25 = .ok (.bipush 6, 2) := by decide +kernel
theorem dX9_changeRows_27 : decode cX9_changeRows 27 = .ok (.iload_n 1, 1) := by decide +kernel
theorem dX9_changeRows_28 : decode cX9_changeRows 28 = .ok (.imul, 1) := by decide +kernel
theorem dX9_changeRows_29 : decode cX9_changeRows 29 = .ok (.iload_n 3, 1) := by decide +kernel
theorem dX9_changeRows_30 : decode cX9_changeRows 30 = .ok (.iadd, 1) := by decide +kernel
theorem dX9_changeRows_31 : decode cX9_changeRows 31 = .ok (.aload_n 0, 1) := by decide +kernel
theorem dX9_changeRows_32 : decode cX9_changeRows 32 = .ok (.getfield 53, 3) := by decide +kernel
theorem dX9_changeRows_35 : decode cX9_changeRows 35 = .ok (.bipush 6, 2) := by decide +kernel
theorem dX9_changeRows_37 : decode cX9_changeRows 37 = .ok (.iload_n 2, 1) := by decide +kernel
theorem dX9_changeRows_38 : decode cX9_changeRows 38 = .ok (.imul, 1) := by decide +kernel
theorem dX9_changeRows_39 : decode cX9_changeRows 39 = .ok (.iload_n 3, 1) := by decide +kernel
theorem dX9_changeRows_40 : decode cX9_changeRows 40 = .ok (.iadd, 1) := by decide +kernel
theorem dX9_changeRows_41 : decode cX9_changeRows 41 = .ok (.laload, 1) := by decide +kernel
theorem dX9_changeRows_42 : decode cX9_changeRows 42 = .ok (.lastore, 1) := by decide +kernel
theorem dX9_changeRows_43 : decode cX9_changeRows 43 = .ok (.aload_n 0, 1) := by decide +kernel
theorem dX9_changeRows_44 : decode cX9_changeRows 44 = .ok (.getfield 53, 3) := by decide +kernel
theorem dX9_changeRows_47 : decode cX9_changeRows 47 = .ok (.bipush 6, 2) := by decide +kernel
theorem dX9_changeRows_49 : decode cX9_changeRows 49 = .ok (.iload_n 2, 1) := by decide +kernel
theorem dX9_changeRows_50 : decode cX9_changeRows 50 = .ok (.imul, 1) := by decide +kernel
theorem dX9_changeRows_51 : decode cX9_changeRows 51 = .ok (.iload_n 3, 1) := by decide +kernel
theorem dX9_changeRows_52 : decode cX9_changeRows 52 = .ok (.iadd, 1) := by decide +kernel
theorem dX9_changeRows_53 : decode cX9_changeRows 53 = .ok (.lload 4, 2) := by decide +kernel
theorem dX9_changeRows_55 : decode cX9_changeRows 55 = .ok (.lastore, 1) := by decide +kernel
theorem dX9_changeRows_56 : decode cX9_changeRows 56 = .ok (.iinc 3 1, 3) := by decide +kernel
theorem dX9_changeRows_59 : decode cX9_changeRows 59 = .ok (.goto (-57), 3) := by decide +kernel
theorem dX9_changeRows_62 : decode cX9_changeRows 62 = .ok (.return_, 1) := by decide +kernel
theorem dX9_clearRow_0 : decode cX9_clearRow 0 = .ok (.aload_n 0, 1) := by decide +kernel
theorem dX9_clearRow_1 : decode cX9_clearRow 1 = .ok (.getfield 53, 3) := by decide +kernel
theorem dX9_clearRow_4 : decode cX9_clearRow 4 = .ok (.bipush 6, 2) := by decide +kernel
theorem dX9_clearRow_6 : decode cX9_clearRow 6 = .ok (.iload_n 2, 1) := by decide +kernel
theorem dX9_clearRow_7 : decode cX9_clearRow 7 = .ok (.imul, 1) := by decide +kernel
theorem dX9_clearRow_8 : decode cX9_clearRow 8 = .ok (.iload_n 3, 1) := by decide +kernel
theorem dX9_clearRow_9 : decode cX9_clearRow 9 = .ok (.iadd, 1) := by decide +kernel
theorem dX9_clearRow_10 : decode cX9_clearRow 10 = .ok (.laload, 1) := by decide +kernel
theorem dX9_clearRow_11 : decode cX9_clearRow 11 = .ok (.lstore 4, 2) := by decide +kernel
theorem dX9_clearRow_13 : decode cX9_clearRow 13 = .ok (.aload_n 0, 1) := by decide +kernel
theorem dX9_clearRow_14 : decode cX9_clearRow 14 = .ok (.getfield 53, 3) := by decide +kernel
theorem dX9_clearRow_17 : decode cX9_clearRow 17 = .ok (.bipush 6, 2) := by decide +kernel
theorem dX9_clearRow_19 : decode cX9_clearRow 19 = .ok (.iload_n 1, 1) := by decide +kernel
theorem dX9_clearRow_20 : decode cX9_clearRow 20 = .ok (.imul, 1) := by decide +kernel
theorem dX9_clearRow_21 : decode cX9_clearRow 21 = .ok (.iload_n 3, 1) := by decide +kernel
theorem dX9_clearRow_22 : decode cX9_clearRow 22 = .ok (.iadd, 1) := by decide +kernel
theorem dX9_clearRow_23 : decode cX9_clearRow 23 = .ok (.laload, 1) := by decide +kernel
theorem dX9_clearRow_24 : decode cX9_clearRow 24 = .ok (.lstore 6, 2) := by decide +kernel
theorem dX9_clearRow_26 : decode cX9_clearRow 26 = .ok (.lconst 0, 1) := by decide +kernel
theorem dX9_clearRow_27 : decode cX9_clearRow 27 = .ok (.lstore 8, 2) := by decide +kernel
theorem dX9_clearRow_29 : decode cX9_clearRow 29 = .ok (.iconst 0, 1) := by decide +kernel
theorem dX9_clearRow_30 : decode cX9_clearRow 30 = .ok (.istore 10, 2) := by decide +kernel
theorem dX9_clearRow_32 : decode cX9_clearRow 32 = .ok (.iload 10, 2) := by decide +kernel
theorem dX9_clearRow_34 : decode cX9_clearRow 34 = .ok (.bipush 6, 2) := by decide +kernel
theorem dX9_clearRow_36 : decode cX9_clearRow 36 = .ok (.if_icmp .ge 86, 3) := by decide +kernel
theorem dX9_clearRow_39 : decode cX9_clearRow 39 = .ok (.iload 10, 2) := by decide +kernel
theorem dX9_clearRow_41 : decode cX9_clearRow 41 = .ok (.aload_n 0, 1) := by decide +kernel
theorem dX9_clearRow_42 : decode cX9_clearRow 42 = .ok (.getfield 79, 3) := by decide +kernel
theorem dX9_clearRow_45 : decode cX9_clearRow 45 = .ok (.if_icmp .lt 9, 3) := by decide +kernel
theorem dX9_clearRow_48 : decode cX9_clearRow 48 = .ok (.iload 10, 2) := by decide +kernel
theorem dX9_clearRow_50 : decode cX9_clearRow 50 = .ok (.iconst 5, 1) := by decide +kernel
theorem dX9_clearRow_51 : decode cX9_clearRow 51 = .ok (.if_icmp .ne 65, 3) := by decide +kernel
theorem dX9_clearRow_54 : decode cX9_clearRow 54 = .ok (.aload_n 0, 1) := by decide +kernel
theorem dX9_clearRow_55 : decode cX9_clearRow 55 = .ok (.getfield 53, 3) := by decide +kernel
theorem dX9_clearRow_58 : decode cX9_clearRow 58 = .ok (.bipush 6, 2) := by decide +kernel
theorem dX9_clearRow_60 : decode cX9_clearRow 60 = .ok (.iload_n 1, 1) := by decide +kernel
theorem dX9_clearRow_61 : decode cX9_clearRow 61 = .ok (.imul, 1) := by decide +kernel
theorem dX9_clearRow_62 : decode cX9_clearRow 62 = .ok (.iload 10, 2) := by decide +kernel
theorem dX9_clearRow_64 : decode cX9_clearRow 64 = .ok (.iadd, 1) := by decide +kernel
theorem dX9_clearRow_65 : decode cX9_clearRow 65 = .ok (.aload_n 0, 1) := by decide +kernel
theorem dX9_clearRow_66 : decode cX9_clearRow 66 = .ok (.getfield 53, 3) := by decide +kernel
theorem dX9_clearRow_69 : decode cX9_clearRow 69 = .ok (.bipush 6, 2) := by decide +kernel
theorem dX9_clearRow_71 : decode cX9_clearRow 71 = .ok (.iload_n 1, 1) := by decide +kernel
theorem dX9_clearRow_72 : decode cX9_clearRow 72 = .ok (.imul, 1) := by decide +kernel
theorem dX9_clearRow_73 : decode cX9_clearRow 73 = .ok (.iload 10, 2) := by decide +kernel
theorem dX9_clearRow_75 : decode cX9_clearRow 75 = .ok (.iadd, 1) := by decide +kernel
theorem dX9_clearRow_76 : decode cX9_clearRow 76 = .ok (.laload, 1) := by decide +kernel
theorem dX9_clearRow_77 : decode cX9_clearRow 77 = .ok (.lload 4, 2) := by decide +kernel
theorem dX9_clearRow_79 : decode cX9_clearRow 79 = .ok (.lmul, 1) := by decide +kernel
theorem dX9_clearRow_80 : decode cX9_clearRow 80 = .ok (.aload_n 0, 1) := by decide +kernel
theorem dX9_clearRow_81 : decode cX9_clearRow 81 = .ok (.getfield 53, 3) := by decide +kernel
theorem dX9_clearRow_84 : decode cX9_clearRow 84 = .ok (.bipush 6, 2) := by decide +kernel
theorem dX9_clearRow_86 : decode cX9_clearRow 86 = .ok (.iload_n 2, 1) := by decide +kernel
theorem dX9_clearRow_87 : decode cX9_clearRow 87 = .ok (.imul, 1) := by decide +kernel
theorem dX9_clearRow_88 : decode cX9_clearRow 88 = .ok (.iload 10, 2) := by decide +kernel
theorem dX9_clearRow_90 : decode cX9_clearRow 90 = .ok (.iadd, 1) := by decide +kernel
theorem dX9_clearRow_91 : decode cX9_clearRow 91 = .ok (.laload, 1) := by decide +kernel
theorem dX9_clearRow_92 : decode cX9_clearRow 92 = .ok (.lload 6, 2) := by decide +kernel
theorem dX9_clearRow_94 : decode cX9_clearRow 94 = .ok (.lmul, 1) := by decide +kernel
theorem dX9_clearRow_95 : decode cX9_clearRow 95 = .ok (.lsub, 1) := by decide +kernel
theorem dX9_clearRow_96 : decode cX9_clearRow 96 = .ok (.lastore, 1) := by decide +kernel
theorem dX9_clearRow_97 : decode cX9_clearRow 97 = .ok (.lload 8, 2) := by decide +kernel
theorem dX9_clearRow_99 : decode cX9_clearRow 99 = .ok (.aload_n 0, 1) := by decide +kernel
theorem dX9_clearRow_100 : decode cX9_clearRow 100 = .ok (.getfield 53, 3) := by decide +kernel
theorem dX9_clearRow_103 : decode cX9_clearRow 103 = .ok (.bipush 6, 2) := by decide +kernel
theorem dX9_clearRow_105 : decode cX9_clearRow 105 = .ok (.iload_n 1, 1) := by decide +kernel
theorem dX9_clearRow_106 : decode cX9_clearRow 106 = .ok (.imul, 1) := by decide +kernel
theorem dX9_clearRow_107 : decode cX9_clearRow 107 = .ok (.iload 10, 2) := by decide +kernel
theorem dX9_clearRow_109 : decode cX9_clearRow 109 = .ok (.iadd, 1) := by decide +kernel
theorem dX9_clearRow_110 : decode cX9_clearRow 110 = .ok (.laload, 1) := by decide +kernel
theorem dX9_clearRow_111 : decode cX9_clearRow 111 = .ok (.invokestatic 144, 3) := by decide +kernel
theorem dX9_clearRow_114 : decode cX9_clearRow 114 = .ok (.lstore 8, 2) := by decide +kernel
theorem dX9_clearRow_116 : decode cX9_clearRow 116 = .ok (.iinc 10 1, 3) := by decide +kernel
theorem dX9_clearRow_119 : decode cX9_clearRow 119 = .ok (.goto (-87), 3) := by decide +kernel
theorem dX9_clearRow_122 : decode cX9_clearRow 122 = .ok (.iconst 0, 1) := by decide +kernel
theorem dX9_clearRow_123 : decode cX9_clearRow 123 = .ok (.istore 10, 2) := by decide +kernel
theorem dX9_clearRow_125 : decode cX9_clearRow 125 = .ok (.iload 10, 2) := by decide +kernel
theorem dX9_clearRow_127 : decode cX9_clearRow 127 = .ok (.bipush 6, 2) := by decide +kernel
theorem dX9_clearRow_129 : decode cX9_clearRow 129 = .ok (.if_icmp .ge 48, 3) := by decide +kernel
theorem dX9_clearRow_132 : decode cX9_clearRow 132 = .ok (.lload 8, 2) := by decide +kernel
theorem dX9_clearRow_134 : decode cX9_clearRow 134 = .ok (.lconst 1, 1) := by decide +kernel
theorem dX9_clearRow_135 : decode cX9_clearRow 135 = .ok (.lcmp, 1) := by decide +kernel
theorem dX9_clearRow_136 : decode cX9_clearRow 136 = .ok (.ifCond .le 41, 3) := by decide +kernel
theorem dX9_clearRow_139 : decode cX9_clearRow 139 = .ok (.iload 10, 2) := by decide +kernel
theorem dX9_clearRow_141 : decode cX9_clearRow 141 = .ok (.aload_n 0, 1) := by decide +kernel
theorem dX9_clearRow_142 : decode cX9_clearRow 142 = .ok (.getfield 79, 3) := by decide +kernel
theorem dX9_clearRow_145 : decode cX9_clearRow 145 = .ok (.if_icmp .lt 9, 3) := by decide +kernel
theorem dX9_clearRow_148 : decode cX9_clearRow 148 = .ok (.iload 10, 2) := by decide +kernel
theorem dX9_clearRow_150 : decode cX9_clearRow 150 = .ok (.iconst 5, 1) := by decide +kernel
theorem dX9_clearRow_151 : decode cX9_clearRow 151 = .ok (.if_icmp .ne 20, 3) := by decide +kernel
theorem dX9_clearRow_154 : decode cX9_clearRow 154 = .ok (.aload_n 0, 1) := by decide +kernel
theorem dX9_clearRow_155 : decode cX9_clearRow 155 = .ok (.getfield 53, 3) := by decide +kernel
theorem dX9_clearRow_158 : decode cX9_clearRow 158 = .ok (.bipush 6, 2) := by decide +kernel
theorem dX9_clearRow_160 : decode cX9_clearRow 160 = .ok (.iload_n 1, 1) := by decide +kernel
theorem dX9_clearRow_161 : decode cX9_clearRow 161 = .ok (.imul, 1) := by decide +kernel
theorem dX9_clearRow_162 : decode cX9_clearRow 162 = .ok (.iload 10, 2) := by decide +kernel
theorem dX9_clearRow_164 : decode cX9_clearRow 164 = .ok (.iadd, 1) := by decide +kernel
theorem dX9_clearRow_165 : decode cX9_clearRow 165 = .ok (.dup2, 1) := by decide +kernel
theorem dX9_clearRow_166 : decode cX9_clearRow 166 = .ok (.laload, 1) := by decide +kernel
theorem dX9_clearRow_167 : decode cX9_clearRow 167 = .ok (.lload 8, 2) := by decide +kernel
theorem dX9_clearRow_169 : decode cX9_clearRow 169 = .ok (.ldiv, 1) := by decide +kernel
theorem dX9_clearRow_170 : decode cX9_clearRow 170 = .ok (.lastore, 1) := by decide +kernel
theorem dX9_clearRow_171 : decode cX9_clearRow 171 = .ok (.iinc 10 1, 3) := by decide +kernel
theorem dX9_clearRow_174 : decode cX9_clearRow 174 = .ok (.goto (-49), 3) := by decide +kernel
theorem dX9_clearRow_177 : decode cX9_clearRow 177 = .ok (.return_, 1) := by decide +kernel
theorem dX9_solve_0 : decode cX9_solve 0 = .ok (.iconst 0, 1) := by decide +kernel
theorem dX9_solve_1 : decode cX9_solve 1 = .ok (.istore_n 1, 1) := by decide +kernel
theorem dX9_solve_2 : decode cX9_solve 2 = .ok (.iload_n 1, 1) := by decide +kernel
theorem dX9_solve_3 : decode cX9_solve 3 = .ok (.aload_n 0, 1) := by decide +kernel
theorem dX9_solve_4 : decode cX9_solve 4 = .ok (.getfield 79, 3) := by decide +kernel
theorem dX9_solve_7 : decode cX9_solve 7 = .ok (.if_icmp .ge 101, 3) := by decide +kernel
theorem dX9_solve_10 : decode cX9_solve 10 = .ok (.iload_n 1, 1) := by decide +kernel
theorem dX9_solve_11 : decode cX9_solve 11 = .ok (.istore_n 2, 1) := by decide +kernel
theorem dX9_solve_12 : decode cX9_solve 12 = .ok (.iload_n 2, 1) := by decide +kernel
theorem dX9_solve_13 : decode cX9_solve 13 = .ok (.aload_n 0, 1) := by decide +kernel
theorem dX9_solve_14 : decode cX9_solve 14 = .ok (.getfield 79, 3) := by decide +kernel
theorem dX9_solve_17 : decode cX9_solve 17 = .ok (.if_icmp .ge 25, 3) := by decide +kernel
theorem dX9_solve_20 : decode cX9_solve 20 = .ok (.aload_n 0, 1) := by decide +kernel
theorem dX9_solve_21 : decode cX9_solve 21 = .ok (.getfield 53, 3) := by decide +kernel
theorem dX9_solve_24 : decode cX9_solve 24 = .ok (.bipush 6, 2) := by decide +kernel
theorem dX9_solve_26 : decode cX9_solve 26 = .ok (.iload_n 2, 1) := by decide +kernel
theorem dX9_solve_27 : decode cX9_solve 27 = .ok (.imul, 1) := by decide +kernel
theorem dX9_solve_28 : decode cX9_solve 28 = .ok (.iload_n 1, 1) := by decide +kernel
theorem dX9_solve_29 : decode cX9_solve 29 = .ok (.iadd, 1) := by decide +kernel
theorem dX9_solve_30 : decode cX9_solve 30 = .ok (.laload, 1) := by decide +kernel
theorem dX9_solve_31 : decode cX9_solve 31 = .ok (.lconst 0, 1) := by decide +kernel
theorem dX9_solve_32 : decode cX9_solve 32 = .ok (.lcmp, 1) := by decide +kernel
theorem dX9_solve_33 : decode cX9_solve 33 = .ok (.ifCond .ne 9, 3) := by decide +kernel
theorem dX9_solve_36 : decode cX9_solve 36 = .ok (.iinc 2 1, 3) := by decide +kernel
theorem dX9_solve_39 : decode cX9_solve 39 = .ok (.goto (-27), 3) := by decide +kernel
theorem dX9_solve_42 : decode cX9_solve 42 = .ok (.iload_n 2, 1) := by decide +kernel
theorem dX9_solve_43 : decode cX9_solve 43 = .ok (.aload_n 0, 1) := by decide +kernel
theorem dX9_solve_44 : decode cX9_solve 44 = .ok (.getfield 79, 3) := by decide +kernel
theorem dX9_solve_47 : decode cX9_solve 47 = .ok (.if_icmp .ne 5, 3) := by decide +kernel
theorem dX9_solve_50 : decode cX9_solve 50 = .ok (.iconst 0, 1) := by decide +kernel
theorem dX9_solve_51 : decode cX9_solve 51 = .ok (.ireturn, 1) := by decide +kernel
theorem dX9_solve_52 : decode cX9_solve 52 = .ok (.aload_n 0, 1) := by decide +kernel
theorem dX9_solve_53 : decode cX9_solve 53 = .ok (.iload_n 1, 1) := by decide +kernel
theorem dX9_solve_54 : decode cX9_solve 54 = .ok (.iload_n 2, 1) := by decide +kernel
theorem dX9_solve_55 : decode cX9_solve 55 = .ok (.invokevirtual 148, 3) := by decide +kernel
theorem dX9_solve_58 : decode cX9_solve 58 = .ok (.iconst 0, 1) := by decide +kernel
theorem dX9_solve_59 : decode cX9_solve 59 = .ok (.istore_n 3, 1) := by decide +kernel
theorem dX9_solve_60 : decode cX9_solve 60 = .ok (.iload_n 3, 1) := by decide +kernel
theorem dX9_solve_61 : decode cX9_solve 61 = .ok (.aload_n 0, 1) := by decide +kernel
theorem dX9_solve_62 : decode cX9_solve 62 = .ok (.getfield 79, 3) := by decide +kernel
theorem dX9_solve_65 : decode cX9_solve 65 = .ok (.if_icmp .ge 37, 3) := by decide +kernel
theorem dX9_solve_68 : decode cX9_solve 68 = .ok (.iload_n 3, 1) := by decide +kernel
theorem dX9_solve_69 : decode cX9_solve 69 = .ok (.iload_n 1, 1) := by decide +kernel
theorem dX9_solve_70 : decode cX9_solve 70 = .ok (.if_icmp .eq 26, 3) := by decide +kernel
theorem dX9_solve_73 : decode cX9_solve 73 = .ok (.aload_n 0, 1) := by decide +kernel
theorem dX9_solve_74 : decode cX9_solve 74 = .ok (.getfield 53, 3) := by decide +kernel
theorem dX9_solve_77 : decode cX9_solve 77 = .ok (.bipush 6, 2) := by decide +kernel
theorem dX9_solve_79 : decode cX9_solve 79 = .ok (.iload_n 3, 1) := by decide +kernel
theorem dX9_solve_80 : decode cX9_solve 80 = .ok (.imul, 1) := by decide +kernel
theorem dX9_solve_81 : decode cX9_solve 81 = .ok (.iload_n 1, 1) := by decide +kernel
theorem dX9_solve_82 : decode cX9_solve 82 = .ok (.iadd, 1) := by decide +kernel
theorem dX9_solve_83 : decode cX9_solve 83 = .ok (.laload, 1) := by decide +kernel
theorem dX9_solve_84 : decode cX9_solve 84 = .ok (.lconst 0, 1) := by decide +kernel
theorem dX9_solve_85 : decode cX9_solve 85 = .ok (.lcmp, 1) := by decide +kernel
theorem dX9_solve_86 : decode cX9_solve 86 = .ok (.ifCond .eq 10, 3) := by decide +kernel
theorem dX9_solve_89 : decode cX9_solve 89 = .ok (.aload_n 0, 1) := by decide +kernel
theorem dX9_solve_90 : decode cX9_solve 90 = .ok (.iload_n 3, 1) := by decide +kernel
theorem dX9_solve_91 : decode cX9_solve 91 = .ok (.iload_n 1, 1) := by decide +kernel
theorem dX9_solve_92 : decode cX9_solve 92 = .ok (.iload_n 1, 1) := by decide +kernel
theorem dX9_solve_93 : decode cX9_solve 93 = .ok (.invokevirtual 151, 3) := by decide +kernel
theorem dX9_solve_96 : decode cX9_solve 96 = .ok (.iinc 3 1, 3) := by decide +kernel
theorem dX9_solve_99 : decode cX9_solve 99 = .ok (.goto (-39), 3) := by decide +kernel
theorem dX9_solve_102 : decode cX9_solve 102 = .ok (.iinc 1 1, 3) := by decide +kernel
theorem dX9_solve_105 : decode cX9_solve 105 = .ok (.goto (-103), 3) := by decide +kernel
theorem dX9_solve_108 : decode cX9_solve 108 = .ok (.iconst 0, 1) := by decide +kernel
theorem dX9_solve_109 : decode cX9_solve 109 = .ok (.istore_n 1, 1) := by decide +kernel
theorem dX9_solve_110 : decode cX9_solve 110 = .ok (.iload_n 1, 1) := by decide +kernel
theorem dX9_solve_111 : decode cX9_solve 111 = .ok (.aload_n 0, 1) := by decide +kernel
theorem dX9_solve_112 : decode cX9_solve 112 = .ok (.getfield 79, 3) := by decide +kernel
theorem dX9_solve_115 : decode cX9_solve 115 = .ok (.if_icmp .ge 78, 3) := by decide +kernel
theorem dX9_solve_118 : decode cX9_solve 118 = .ok (.aload_n 0, 1) := by decide +kernel
theorem dX9_solve_119 : decode cX9_solve 119 = .ok (.getfield 53, 3) := by decide +kernel
theorem dX9_solve_122 : decode cX9_solve 122 = .ok (.bipush 6, 2) := by decide +kernel
theorem dX9_solve_124 : decode cX9_solve 124 = .ok (.iload_n 1, 1) := by decide +kernel
theorem dX9_solve_125 : decode cX9_solve 125 = .ok (.imul, 1) := by decide +kernel
theorem dX9_solve_126 : decode cX9_solve 126 = .ok (.iconst 5, 1) := by decide +kernel
theorem dX9_solve_127 : decode cX9_solve 127 = .ok (.iadd, 1) := by decide +kernel
theorem dX9_solve_128 : decode cX9_solve 128 = .ok (.laload, 1) := by decide +kernel
theorem dX9_solve_129 : decode cX9_solve 129 = .ok (.lstore_n 2, 1) := by decide +kernel
theorem dX9_solve_130 : decode cX9_solve 130 = .ok (.aload_n 0, 1) := by decide +kernel
theorem dX9_solve_131 : decode cX9_solve 131 = .ok (.getfield 53, 3) := by decide +kernel
theorem dX9_solve_134 : decode cX9_solve 134 = .ok (.bipush 6, 2) := by decide +kernel
theorem dX9_solve_136 : decode cX9_solve 136 = .ok (.iload_n 1, 1) := by decide +kernel
theorem dX9_solve_137 : decode cX9_solve 137 = .ok (.imul, 1) := by decide +kernel
theorem dX9_solve_138 : decode cX9_solve 138 = .ok (.iload_n 1, 1) := by decide +kernel
theorem dX9_solve_139 : decode cX9_solve 139 = .ok (.iadd, 1) := by decide +kernel
theorem dX9_solve_140 : decode cX9_solve 140 = .ok (.laload, 1) := by decide +kernel
theorem dX9_solve_141 : decode cX9_solve 141 = .ok (.lstore 4, 2) := by decide +kernel
theorem dX9_solve_143 : decode cX9_solve 143 = .ok (.lload_n 2, 1) := by decide +kernel
theorem dX9_solve_144 : decode cX9_solve 144 = .ok (.lload 4, 2) := by decide +kernel
theorem dX9_solve_146 : decode cX9_solve 146 = .ok (.invokestatic 144, 3) := by decide +kernel
theorem dX9_solve_149 : decode cX9_solve 149 = .ok (.lload 4, 2) := by decide +kernel
theorem dX9_solve_151 : decode cX9_solve 151 = .ok (.lconst 0, 1) := by decide +kernel
theorem dX9_solve_152 : decode cX9_solve 152 = .ok (.lcmp, 1) := by decide +kernel
theorem dX9_solve_153 : decode cX9_solve 153 = .ok (.ifCond .ge 9, 3) := by decide +kernel
theorem dX9_solve_156 : decode cX9_solve 156 = .ok (.ldc2_w 155, 3) := by decide +kernel
theorem dX9_solve_159 : decode cX9_solve 159 = .ok (.goto 4, 3) := by decide +kernel
theorem dX9_solve_162 : decode cX9_solve 162 = .ok (.lconst 1, 1) := by decide +kernel
theorem dX9_solve_163 : decode cX9_solve 163 = .ok (.lmul, 1) := by decide +kernel
theorem dX9_solve_164 : decode cX9_solve 164 = .ok (.lstore 6, 2) := by decide +kernel
theorem dX9_solve_166 : decode cX9_solve 166 = .ok (.aload_n 0, 1) := by decide +kernel
theorem dX9_solve_167 : decode cX9_solve 167 = .ok (.getfield 57, 3) := by decide +kernel
theorem dX9_solve_170 : decode cX9_solve 170 = .ok (.iload_n 1, 1) := by decide +kernel
theorem dX9_solve_171 : decode cX9_solve 171 = .ok (.lload_n 2, 1) := by decide +kernel
theorem dX9_solve_172 : decode cX9_solve 172 = .ok (.lload 6, 2) := by decide +kernel
theorem dX9_solve_174 : decode cX9_solve 174 = .ok (.ldiv, 1) := by decide +kernel
theorem dX9_solve_175 : decode cX9_solve 175 = .ok (.lastore, 1) := by decide +kernel
theorem dX9_solve_176 : decode cX9_solve 176 = .ok (.aload_n 0, 1) := by decide +kernel
theorem dX9_solve_177 : decode cX9_solve 177 = .ok (.getfield 60, 3) := by decide +kernel
theorem dX9_solve_180 : decode cX9_solve 180 = .ok (.iload_n 1, 1) := by decide +kernel
theorem dX9_solve_181 : decode cX9_solve 181 = .ok (.lload 4, 2) := by decide +kernel
theorem dX9_solve_183 : decode cX9_solve 183 = .ok (.lload 6, 2) := by decide +kernel
theorem dX9_solve_185 : decode cX9_solve 185 = .ok (.ldiv, 1) := by decide +kernel
