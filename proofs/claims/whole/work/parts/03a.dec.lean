theorem dX0_init_0 : decode cX0_init 0 = .ok (.aload_n 0, 1) := by decide +kernel
theorem dX0_init_1 : decode cX0_init 1 = .ok (.invokespecial 3, 3) := by decide +kernel
theorem dX0_init_4 : decode cX0_init 4 = .ok (.aload_n 0, 1) := by decide +kernel
theorem dX0_init_5 : decode cX0_init 5 = .ok (.bipush 12, 2) := by decide +kernel
theorem dX0_init_7 : decode cX0_init 7 = .ok (.newarray .int, 2) := by decide +kernel
theorem dX0_init_9 : decode cX0_init 9 = .ok (.putfield 9, 3) := by decide +kernel
theorem dX0_init_12 : decode cX0_init 12 = .ok (.aload_n 0, 1) := by decide +kernel
theorem dX0_init_13 : decode cX0_init 13 = .ok (.bipush 12, 2) := by decide +kernel
theorem dX0_init_15 : decode cX0_init 15 = .ok (.newarray .int, 2) := by decide +kernel
theorem dX0_init_17 : decode cX0_init 17 = .ok (.putfield 15, 3) := by decide +kernel
theorem dX0_init_20 : decode cX0_init 20 = .ok (.aload_n 0, 1) := by decide +kernel
theorem dX0_init_21 : decode cX0_init 21 = .ok (.bipush 12, 2) := by decide +kernel
theorem dX0_init_23 : decode cX0_init 23 = .ok (.newarray .int, 2) := by decide +kernel
theorem dX0_init_25 : decode cX0_init 25 = .ok (.putfield 18, 3) := by decide +kernel
theorem dX0_init_28 : decode cX0_init 28 = .ok (.return_, 1) := by decide +kernel
theorem dX0_enter_0 : decode cX0_enter 0 = .ok (.aload_n 0, 1) := by decide +kernel
theorem dX0_enter_1 : decode cX0_enter 1 = .ok (.getfield 21, 3) := by decide +kernel
theorem dX0_enter_4 : decode cX0_enter 4 = .ok (.bipush 12, 2) := by decide +kernel
theorem dX0_enter_6 : decode cX0_enter 6 = .ok (.if_icmp .lt 6, 3) := by decide +kernel
theorem dX0_enter_9 : decode cX0_enter 9 = .ok (.bipush (-4), 2) := by decide +kernel
theorem dX0_enter_11 : decode cX0_enter 11 = .ok (.ireturn, 1) := by decide +kernel
theorem dX0_enter_12 : decode cX0_enter 12 = .ok (.aload_n 0, 1) := by decide +kernel
theorem dX0_enter_13 : decode cX0_enter 13 = .ok (.getfield 9, 3) := by decide +kernel
theorem dX0_enter_16 : decode cX0_enter 16 = .ok (.aload_n 0, 1) := by decide +kernel
theorem dX0_enter_17 : decode cX0_enter 17 = .ok (.getfield 21, 3) := by decide +kernel
theorem dX0_enter_20 : decode cX0_enter 20 = .ok (.iload_n 1, 1) := by decide +kernel
theorem dX0_enter_21 : decode cX0_enter 21 = .ok (.iastore, 1) := by decide +kernel
theorem dX0_enter_22 : decode cX0_enter 22 = .ok (.aload_n 0, 1) := by decide +kernel
theorem dX0_enter_23 : decode cX0_enter 23 = .ok (.getfield 15, 3) := by decide +kernel
theorem dX0_enter_26 : decode cX0_enter 26 = .ok (.aload_n 0, 1) := by decide +kernel
theorem dX0_enter_27 : decode cX0_enter 27 = .ok (.getfield 21, 3) := by decide +kernel
theorem dX0_enter_30 : decode cX0_enter 30 = .ok (.iload_n 2, 1) := by decide +kernel
theorem dX0_enter_31 : decode cX0_enter 31 = .ok (.iastore, 1) := by decide +kernel
theorem dX0_enter_32 : decode cX0_enter 32 = .ok (.aload_n 0, 1) := by decide +kernel
theorem dX0_enter_33 : decode cX0_enter 33 = .ok (.getfield 18, 3) := by decide +kernel
theorem dX0_enter_36 : decode cX0_enter 36 = .ok (.aload_n 0, 1) := by decide +kernel
theorem dX0_enter_37 : decode cX0_enter 37 = .ok (.getfield 21, 3) := by decide +kernel
theorem dX0_enter_40 : decode cX0_enter 40 = .ok (.iload_n 3, 1) := by decide +kernel
theorem dX0_enter_41 : decode cX0_enter 41 = .ok (.iastore, 1) := by decide +kernel
theorem dX0_enter_42 : decode cX0_enter 42 = .ok (.aload_n 0, 1) := by decide +kernel
theorem dX0_enter_43 : decode cX0_enter 43 = .ok (.dup, 1) := by decide +kernel
theorem dX0_enter_44 : decode cX0_enter 44 = .ok (.getfield 21, 3) := by decide +kernel
theorem dX0_enter_47 : decode cX0_enter 47 = .ok (.iconst 1, 1) := by decide +kernel
theorem dX0_enter_48 : decode cX0_enter 48 = .ok (.iadd, 1) := by decide +kernel
theorem dX0_enter_49 : decode cX0_enter 49 = .ok (.putfield 21, 3) := by decide +kernel
theorem dX0_enter_52 : decode cX0_enter 52 = .ok (.aload_n 0, 1) := by decide +kernel
theorem dX0_enter_53 : decode cX0_enter 53 = .ok (.getfield 21, 3) := by decide +kernel
theorem dX0_enter_56 : decode cX0_enter 56 = .ok (.iconst 1, 1) := by decide +kernel
theorem dX0_enter_57 : decode cX0_enter 57 = .ok (.isub, 1) := by decide +kernel
theorem dX0_enter_58 : decode cX0_enter 58 = .ok (.ireturn, 1) := by decide +kernel
theorem dX0_isPlayedAhead_0 : decode cX0_isPlayedAhead 0 = .ok (.aload_n 0, 1) := by decide +kernel
theorem dX0_isPlayedAhead_1 : decode cX0_isPlayedAhead 1 = .ok (.getfield 15, 3) := by decide +kernel
theorem dX0_isPlayedAhead_4 : decode cX0_isPlayedAhead 4 = .ok (.iload_n 1, 1) := by decide +kernel
theorem dX0_isPlayedAhead_5 : decode cX0_isPlayedAhead 5 = .ok (.iaload, 1) := by decide +kernel
theorem dX0_isPlayedAhead_6 : decode cX0_isPlayedAhead 6 = .ok (.aload_n 0, 1) := by decide +kernel
theorem dX0_isPlayedAhead_7 : decode cX0_isPlayedAhead 7 = .ok (.getfield 15, 3) := by decide +kernel
theorem dX0_isPlayedAhead_10 : decode cX0_isPlayedAhead 10 = .ok (.iload_n 2, 1) := by decide +kernel
theorem dX0_isPlayedAhead_11 : decode cX0_isPlayedAhead 11 = .ok (.iaload, 1) := by decide +kernel
theorem dX0_isPlayedAhead_12 : decode cX0_isPlayedAhead 12 = .ok (.if_icmp .eq 24, 3) := by decide +kernel
theorem dX0_isPlayedAhead_15 : decode cX0_isPlayedAhead 15 = .ok (.aload_n 0, 1) := by decide +kernel
theorem dX0_isPlayedAhead_16 : decode cX0_isPlayedAhead 16 = .ok (.getfield 15, 3) := by decide +kernel
theorem dX0_isPlayedAhead_19 : decode cX0_isPlayedAhead 19 = .ok (.iload_n 1, 1) := by decide +kernel
theorem dX0_isPlayedAhead_20 : decode cX0_isPlayedAhead 20 = .ok (.iaload, 1) := by decide +kernel
theorem dX0_isPlayedAhead_21 : decode cX0_isPlayedAhead 21 = .ok (.aload_n 0, 1) := by decide +kernel
theorem dX0_isPlayedAhead_22 : decode cX0_isPlayedAhead 22 = .ok (.getfield 15, 3) := by decide +kernel
theorem dX0_isPlayedAhead_25 : decode cX0_isPlayedAhead 25 = .ok (.iload_n 2, 1) := by decide +kernel
theorem dX0_isPlayedAhead_26 : decode cX0_isPlayedAhead 26 = .ok (.iaload, 1) := by decide +kernel
theorem dX0_isPlayedAhead_27 : decode cX0_isPlayedAhead 27 = .ok (.if_icmp .le 7, 3) := by decide +kernel
theorem dX0_isPlayedAhead_30 : decode cX0_isPlayedAhead 30 = .ok (.iconst 1, 1) := by decide +kernel
theorem dX0_isPlayedAhead_31 : decode cX0_isPlayedAhead 31 = .ok (.goto 4, 3) := by decide +kernel
theorem dX0_isPlayedAhead_34 : decode cX0_isPlayedAhead 34 = .ok (.iconst 0, 1) := by decide +kernel
theorem dX0_isPlayedAhead_35 : decode cX0_isPlayedAhead 35 = .ok (.ireturn, 1) := by decide +kernel
theorem dX0_isPlayedAhead_36 : decode cX0_isPlayedAhead 36 = .ok (.aload_n 0, 1) := by decide +kernel
theorem dX0_isPlayedAhead_37 : decode cX0_isPlayedAhead 37 = .ok (.getfield 18, 3) := by decide +kernel
theorem dX0_isPlayedAhead_40 : decode cX0_isPlayedAhead 40 = .ok (.iload_n 1, 1) := by decide +kernel
theorem dX0_isPlayedAhead_41 : decode cX0_isPlayedAhead 41 = .ok (.iaload, 1) := by decide +kernel
theorem dX0_isPlayedAhead_42 : decode cX0_isPlayedAhead 42 = .ok (.aload_n 0, 1) := by decide +kernel
theorem dX0_isPlayedAhead_43 : decode cX0_isPlayedAhead 43 = .ok (.getfield 18, 3) := by decide +kernel
theorem dX0_isPlayedAhead_46 : decode cX0_isPlayedAhead 46 = .ok (.iload_n 2, 1) := by decide +kernel
theorem dX0_isPlayedAhead_47 : decode cX0_isPlayedAhead 47 = .ok (.iaload, 1) := by decide +kernel
theorem dX0_isPlayedAhead_48 : decode cX0_isPlayedAhead 48 = .ok (.if_icmp .eq 24, 3) := by decide +kernel
theorem dX0_isPlayedAhead_51 : decode cX0_isPlayedAhead 51 = .ok (.aload_n 0, 1) := by decide +kernel
theorem dX0_isPlayedAhead_52 : decode cX0_isPlayedAhead 52 = .ok (.getfield 18, 3) := by decide +kernel
theorem dX0_isPlayedAhead_55 : decode cX0_isPlayedAhead 55 = .ok (.iload_n 1, 1) := by decide +kernel
theorem dX0_isPlayedAhead_56 : decode cX0_isPlayedAhead 56 = .ok (.iaload, 1) := by decide +kernel
theorem dX0_isPlayedAhead_57 : decode cX0_isPlayedAhead 57 = .ok (.aload_n 0, 1) := by decide +kernel
theorem dX0_isPlayedAhead_58 : decode cX0_isPlayedAhead 58 = .ok (.getfield 18, 3) := by decide +kernel
theorem dX0_isPlayedAhead_61 : decode cX0_isPlayedAhead 61 = .ok (.iload_n 2, 1) := by decide +kernel
theorem dX0_isPlayedAhead_62 : decode cX0_isPlayedAhead 62 = .ok (.iaload, 1) := by decide +kernel
theorem dX0_isPlayedAhead_63 : decode cX0_isPlayedAhead 63 = .ok (.if_icmp .le 7, 3) := by decide +kernel
theorem dX0_isPlayedAhead_66 : decode cX0_isPlayedAhead 66 = .ok (.iconst 1, 1) := by decide +kernel
theorem dX0_isPlayedAhead_67 : decode cX0_isPlayedAhead 67 = .ok (.goto 4, 3) := by decide +kernel
theorem dX0_isPlayedAhead_70 : decode cX0_isPlayedAhead 70 = .ok (.iconst 0, 1) := by decide +kernel
theorem dX0_isPlayedAhead_71 : decode cX0_isPlayedAhead 71 = .ok (.ireturn, 1) := by decide +kernel
theorem dX0_isPlayedAhead_72 : decode cX0_isPlayedAhead 72 = .ok (.iload_n 1, 1) := by decide +kernel
theorem dX0_isPlayedAhead_73 : decode cX0_isPlayedAhead 73 = .ok (.iload_n 2, 1) := by decide +kernel
theorem dX0_isPlayedAhead_74 : decode cX0_isPlayedAhead 74 = .ok (.if_icmp .ge 7, 3) := by decide +kernel
theorem dX0_isPlayedAhead_77 : decode cX0_isPlayedAhead 77 = .ok (.iconst 1, 1) := by decide +kernel
theorem dX0_isPlayedAhead_78 : decode cX0_isPlayedAhead 78 = .ok (.goto 4, 3) := by decide +kernel
theorem dX0_isPlayedAhead_81 : decode cX0_isPlayedAhead 81 = .ok (.iconst 0, 1) := by decide +kernel
theorem dX0_isPlayedAhead_82 : decode cX0_isPlayedAhead 82 = .ok (.ireturn, 1) := by decide +kernel
theorem dX1_init_0 : decode cX1_init 0 = .ok (.aload_n 0, 1) := by decide +kernel
theorem dX1_init_1 : decode cX1_init 1 = .ok (.invokespecial 3, 3) := by decide +kernel
theorem dX1_init_4 : decode cX1_init 4 = .ok (.aload_n 0, 1) := by decide +kernel
theorem dX1_init_5 : decode cX1_init 5 = .ok (.iconst 5, 1) := by decide +kernel
theorem dX1_init_6 : decode cX1_init 6 = .ok (.anewarray 9, 3) := by decide +kernel
theorem dX1_init_9 : decode cX1_init 9 = .ok (.putfield 11, 3) := by decide +kernel
theorem dX1_init_12 : decode cX1_init 12 = .ok (.aload_n 0, 1) := by decide +kernel
theorem dX1_init_13 : decode cX1_init 13 = .ok (.iconst 5, 1) := by decide +kernel
theorem dX1_init_14 : decode cX1_init 14 = .ok (.iconst 5, 1) := by decide +kernel
theorem dX1_init_15 : decode cX1_init 15 = .ok (.multianewarray 17 2, 4) := by decide +kernel
theorem dX1_init_19 : decode cX1_init 19 = .ok (.putfield 19, 3) := by decide +kernel
theorem dX1_init_22 : decode cX1_init 22 = .ok (.aload_n 0, 1) := by decide +kernel
theorem dX1_init_23 : decode cX1_init 23 = .ok (.new 22, 3) := by decide +kernel
theorem dX1_init_26 : decode cX1_init 26 = .ok (.dup, 1) := by decide +kernel
theorem dX1_init_27 : decode cX1_init 27 = .ok (.invokespecial 24, 3) := by decide +kernel
theorem dX1_init_30 : decode cX1_init 30 = .ok (.putfield 25, 3) := by decide +kernel
theorem dX1_init_33 : decode cX1_init 33 = .ok (.iconst 0, 1) := by decide +kernel
theorem dX1_init_34 : decode cX1_init 34 = .ok (.istore_n 1, 1) := by decide +kernel
theorem dX1_init_35 : decode cX1_init 35 = .ok (.iload_n 1, 1) := by decide +kernel
theorem dX1_init_36 : decode cX1_init 36 = .ok (.iconst 5, 1) := by decide +kernel
theorem dX1_init_37 : decode cX1_init 37 = .ok (.if_icmp .ge 22, 3) := by decide +kernel
theorem dX1_init_40 : decode cX1_init 40 = .ok (.aload_n 0, 1) := by decide +kernel
theorem dX1_init_41 : decode cX1_init 41 = .ok (.getfield 11, 3) := by decide +kernel
theorem dX1_init_44 : decode cX1_init 44 = .ok (.iload_n 1, 1) := by decide +kernel
theorem dX1_init_45 : decode cX1_init 45 = .ok (.new 9, 3) := by decide +kernel
theorem dX1_init_48 : decode cX1_init 48 = .ok (.dup, 1) := by decide +kernel
theorem dX1_init_49 : decode cX1_init 49 = .ok (.invokespecial 29, 3) := by decide +kernel
theorem dX1_init_52 : decode cX1_init 52 = .ok (.aastore, 1) := by decide +kernel
theorem dX1_init_53 : decode cX1_init 53 = .ok (.iinc 1 1, 3) := by decide +kernel
theorem dX1_init_56 : decode cX1_init 56 = .ok (.goto (-21), 3) := by decide +kernel
theorem dX1_init_59 : decode cX1_init 59 = .ok (.return_, 1) := by decide +kernel
theorem dX1_enter_0 : decode cX1_enter 0 = .ok (.aload_n 0, 1) := by decide +kernel
theorem dX1_enter_1 : decode cX1_enter 1 = .ok (.getfield 19, 3) := by decide +kernel
theorem dX1_enter_4 : decode cX1_enter 4 = .ok (.iload_n 1, 1) := by decide +kernel
theorem dX1_enter_5 : decode cX1_enter 5 = .ok (.aaload, 1) := by decide +kernel
theorem dX1_enter_6 : decode cX1_enter 6 = .ok (.iload_n 2, 1) := by decide +kernel
theorem dX1_enter_7 : decode cX1_enter 7 = .ok (.iload_n 3, 1) := by decide +kernel
theorem dX1_enter_8 : decode cX1_enter 8 = .ok (.iastore, 1) := by decide +kernel
theorem dX1_enter_9 : decode cX1_enter 9 = .ok (.aload_n 0, 1) := by decide +kernel
theorem dX1_enter_10 : decode cX1_enter 10 = .ok (.getfield 19, 3) := by decide +kernel
theorem dX1_enter_13 : decode cX1_enter 13 = .ok (.iload_n 2, 1) := by decide +kernel
theorem dX1_enter_14 : decode cX1_enter 14 = .ok (.aaload, 1) := by decide +kernel
theorem dX1_enter_15 : decode cX1_enter 15 = .ok (.iload_n 1, 1) := by decide +kernel
theorem dX1_enter_16 : decode cX1_enter 16 = .ok (.iload_n 3, 1) := by decide +kernel
theorem dX1_enter_17 : decode cX1_enter 17 = .ok (.ineg, 1) := by decide +kernel
theorem dX1_enter_18 : decode cX1_enter 18 = .ok (.iastore, 1) := by decide +kernel
theorem dX1_enter_19 : decode cX1_enter 19 = .ok (.return_, 1) := by decide +kernel
theorem dX1_hasTablesOf_0 : decode cX1_hasTablesOf 0 = .ok (.iconst 0, 1) := by decide +kernel
theorem dX1_hasTablesOf_1 : decode cX1_hasTablesOf 1 = .ok (.istore_n 3, 1) := by decide +kernel
theorem dX1_hasTablesOf_2 : decode cX1_hasTablesOf 2 = .ok (.iload_n 3, 1) := by decide +kernel
theorem dX1_hasTablesOf_3 : decode cX1_hasTablesOf 3 = .ok (.iload_n 2, 1) := by decide +kernel
theorem dX1_hasTablesOf_4 : decode cX1_hasTablesOf 4 = .ok (.if_icmp .ge 49, 3) := by decide +kernel
theorem dX1_hasTablesOf_7 : decode cX1_hasTablesOf 7 = .ok (.iload_n 3, 1) := by decide +kernel
theorem dX1_hasTablesOf_8 : decode cX1_hasTablesOf 8 = .ok (.iconst 1, 1) := by decide +kernel
theorem dX1_hasTablesOf_9 : decode cX1_hasTablesOf 9 = .ok (.iadd, 1) := by decide +kernel
theorem dX1_hasTablesOf_10 : decode cX1_hasTablesOf 10 = .ok (.istore 4, 2) := by decide +kernel
theorem dX1_hasTablesOf_12 : decode cX1_hasTablesOf 12 = .ok (.iload 4, 2) := by decide +kernel
theorem dX1_hasTablesOf_14 : decode cX1_hasTablesOf 14 = .ok (.iload_n 2, 1) := by decide +kernel
theorem dX1_hasTablesOf_15 : decode cX1_hasTablesOf 15 = .ok (.if_icmp .ge 32, 3) := by decide +kernel
theorem dX1_hasTablesOf_18 : decode cX1_hasTablesOf 18 = .ok (.aload_n 0, 1) := by decide +kernel
theorem dX1_hasTablesOf_19 : decode cX1_hasTablesOf 19 = .ok (.getfield 19, 3) := by decide +kernel
theorem dX1_hasTablesOf_22 : decode cX1_hasTablesOf 22 = .ok (.iload_n 3, 1) := by decide +kernel
theorem dX1_hasTablesOf_23 : decode cX1_hasTablesOf 23 = .ok (.aaload, 1) := by decide +kernel
theorem dX1_hasTablesOf_24 : decode cX1_hasTablesOf 24 = .ok (.iload 4, 2) := by decide +kernel
theorem dX1_hasTablesOf_26 : decode cX1_hasTablesOf 26 = .ok (.iaload, 1) := by decide +kernel
theorem dX1_hasTablesOf_27 : decode cX1_hasTablesOf 27 = .ok (.aload_n 1, 1) := by decide +kernel
theorem dX1_hasTablesOf_28 : decode cX1_hasTablesOf 28 = .ok (.getfield 19, 3) := by decide +kernel
theorem dX1_hasTablesOf_31 : decode cX1_hasTablesOf 31 = .ok (.iload_n 3, 1) := by decide +kernel
theorem dX1_hasTablesOf_32 : decode cX1_hasTablesOf 32 = .ok (.aaload, 1) := by decide +kernel
theorem dX1_hasTablesOf_33 : decode cX1_hasTablesOf 33 = .ok (.iload 4, 2) := by decide +kernel
theorem dX1_hasTablesOf_35 : decode cX1_hasTablesOf 35 = .ok (.iaload, 1) := by decide +kernel
theorem dX1_hasTablesOf_36 : decode cX1_hasTablesOf 36 = .ok (.if_icmp .eq 5, 3) := by decide +kernel
theorem dX1_hasTablesOf_39 : decode cX1_hasTablesOf 39 = .ok (.iconst 0, 1) := by decide +kernel
theorem dX1_hasTablesOf_40 : decode cX1_hasTablesOf 40 = .ok (.ireturn, 1) := by decide +kernel
theorem dX1_hasTablesOf_41 : decode cX1_hasTablesOf 41 = .ok (.iinc 4 1, 3) := by decide +kernel
theorem dX1_hasTablesOf_44 : decode cX1_hasTablesOf 44 = .ok (.goto (-32), 3) := by decide +kernel
theorem dX1_hasTablesOf_47 : decode cX1_hasTablesOf 47 = .ok (.iinc 3 1, 3) := by decide +kernel
theorem dX1_hasTablesOf_50 : decode cX1_hasTablesOf 50 = .ok (.goto (-48), 3) := by decide +kernel
theorem dX1_hasTablesOf_53 : decode cX1_hasTablesOf 53 = .ok (.iconst 1, 1) := by decide +kernel
theorem dX1_hasTablesOf_54 : decode cX1_hasTablesOf 54 = .ok (.ireturn, 1) := by decide +kernel
theorem dX2_init_0 : decode cX2_init 0 = .ok (.aload_n 0, 1) := by decide +kernel
theorem dX2_init_1 : decode cX2_init 1 = .ok (.invokespecial 3, 3) := by decide +kernel
theorem dX2_init_4 : decode cX2_init 4 = .ok (.aload_n 0, 1) := by decide +kernel
theorem dX2_init_5 : decode cX2_init 5 = .ok (.bipush 10, 2) := by decide +kernel
theorem dX2_init_7 : decode cX2_init 7 = .ok (.newarray .int, 2) := by decide +kernel
theorem dX2_init_9 : decode cX2_init 9 = .ok (.putfield 9, 3) := by decide +kernel
theorem dX2_init_12 : decode cX2_init 12 = .ok (.return_, 1) := by decide +kernel
theorem dX2_append_0 : decode cX2_append 0 = .ok (.aload_n 0, 1) := by decide +kernel
theorem dX2_append_1 : decode cX2_append 1 = .ok (.getfield 15, 3) := by decide +kernel
theorem dX2_append_4 : decode cX2_append 4 = .ok (.bipush 10, 2) := by decide +kernel
theorem dX2_append_6 : decode cX2_append 6 = .ok (.if_icmp .lt 6, 3) := by decide +kernel
theorem dX2_append_9 : decode cX2_append 9 = .ok (.bipush (-4), 2) := by decide +kernel
theorem dX2_append_11 : decode cX2_append 11 = .ok (.ireturn, 1) := by decide +kernel
theorem dX2_append_12 : decode cX2_append 12 = .ok (.aload_n 0, 1) := by decide +kernel
theorem dX2_append_13 : decode cX2_append 13 = .ok (.getfield 9, 3) := by decide +kernel
theorem dX2_append_16 : decode cX2_append 16 = .ok (.aload_n 0, 1) := by decide +kernel
theorem dX2_append_17 : decode cX2_append 17 = .ok (.getfield 15, 3) := by decide +kernel
theorem dX2_append_20 : decode cX2_append 20 = .ok (.iload_n 1, 1) := by decide +kernel
theorem dX2_append_21 : decode cX2_append 21 = .ok (.iastore, 1) := by decide +kernel
theorem dX2_append_22 : decode cX2_append 22 = .ok (.aload_n 0, 1) := by decide +kernel
theorem dX2_append_23 : decode cX2_append 23 = .ok (.dup, 1) := by decide +kernel
theorem dX2_append_24 : decode cX2_append 24 = .ok (.getfield 15, 3) := by decide +kernel
theorem dX2_append_27 : decode cX2_append 27 = .ok (.iconst 1, 1) := by decide +kernel
theorem dX2_append_28 : decode cX2_append 28 = .ok (.iadd, 1) := by decide +kernel
theorem dX2_append_29 : decode cX2_append 29 = .ok (.putfield 15, 3) := by decide +kernel
theorem dX2_append_32 : decode cX2_append 32 = .ok (.aload_n 0, 1) := by decide +kernel
theorem dX2_append_33 : decode cX2_append 33 = .ok (.getfield 15, 3) := by decide +kernel
theorem dX2_append_36 : decode cX2_append 36 = .ok (.ireturn, 1) := by decide +kernel
theorem dX2_takeOut_0 : decode cX2_takeOut 0 = .ok (.aload_n 0, 1) := by decide +kernel
theorem dX2_takeOut_1 : decode cX2_takeOut 1 = .ok (.getfield 9, 3) := by decide +kernel
theorem dX2_takeOut_4 : decode cX2_takeOut 4 = .ok (.iload_n 1, 1) := by decide +kernel
theorem dX2_takeOut_5 : decode cX2_takeOut 5 = .ok (.iaload, 1) := by decide +kernel
theorem dX2_takeOut_6 : decode cX2_takeOut 6 = .ok (.istore_n 2, 1) := by decide +kernel
theorem dX2_takeOut_7 : decode cX2_takeOut 7 = .ok (.iload_n 1, 1) := by decide +kernel
theorem dX2_takeOut_8 : decode cX2_takeOut 8 = .ok (.iconst 1, 1) := by decide +kernel
theorem dX2_takeOut_9 : decode cX2_takeOut 9 = .ok (.iadd, 1) := by decide +kernel
theorem dX2_takeOut_10 : decode cX2_takeOut 10 = .ok (.istore_n 3, 1) := by decide +kernel
theorem dX2_takeOut_11 : decode cX2_takeOut 11 = .ok (.iload_n 3, 1) := by decide +kernel
theorem dX2_takeOut_12 : decode cX2_takeOut 12 = .ok (.aload_n 0, 1) := by decide +kernel
theorem dX2_takeOut_13 : decode cX2_takeOut 13 = .ok (.getfield 15, 3) := by decide +kernel
theorem dX2_takeOut_16 : decode cX2_takeOut 16 = .ok (.if_icmp .ge 23, 3) := by decide +kernel
theorem dX2_takeOut_19 : decode cX2_takeOut 19 = .ok (.aload_n 0, 1) := by decide +kernel
theorem dX2_takeOut_20 : decode cX2_takeOut 20 = .ok (.getfield 9, 3) := by decide +kernel
theorem dX2_takeOut_23 : decode cX2_takeOut 23 = .ok (.iload_n 3, 1) := by decide +kernel
theorem dX2_takeOut_24 : decode cX2_takeOut 24 = .ok (.iconst 1, 1) := by decide +kernel
theorem dX2_takeOut_25 : decode cX2_takeOut 25 = .ok (.isub, 1) := by decide +kernel
theorem dX2_takeOut_26 : decode cX2_takeOut 26 = .ok (.aload_n 0, 1) := by decide +kernel
theorem dX2_takeOut_27 : decode cX2_takeOut 27 = .ok (.getfield 9, 3) := by decide +kernel
theorem dX2_takeOut_30 : decode cX2_takeOut 30 = .ok (.iload_n 3, 1) := by decide +kernel
theorem dX2_takeOut_31 : decode cX2_takeOut 31 = .ok (.iaload, 1) := by decide +kernel
theorem dX2_takeOut_32 : decode cX2_takeOut 32 = .ok (.iastore, 1) := by decide +kernel
theorem dX2_takeOut_33 : decode cX2_takeOut 33 = .ok (.iinc 3 1, 3) := by decide +kernel
theorem dX2_takeOut_36 : decode cX2_takeOut 36 = .ok (.goto (-25), 3) := by decide +kernel
theorem dX2_takeOut_39 : decode cX2_takeOut 39 = .ok (.aload_n 0, 1) := by decide +kernel
theorem dX2_takeOut_40 : decode cX2_takeOut 40 = .ok (.dup, 1) := by decide +kernel
theorem dX2_takeOut_41 : decode cX2_takeOut 41 = .ok (.getfield 15, 3) := by decide +kernel
theorem dX2_takeOut_44 : decode cX2_takeOut 44 = .ok (.iconst 1, 1) := by decide +kernel
theorem dX2_takeOut_45 : decode cX2_takeOut 45 = .ok (.isub, 1) := by decide +kernel
theorem dX2_takeOut_46 : decode cX2_takeOut 46 = .ok (.putfield 15, 3) := by decide +kernel
theorem dX2_takeOut_49 : decode cX2_takeOut 49 = .ok (.iload_n 2, 1) := by decide +kernel
theorem dX2_takeOut_50 : decode cX2_takeOut 50 = .ok (.ireturn, 1) := by decide +kernel
theorem dX2_exchange_0 : decode cX2_exchange 0 = .ok (.aload_n 0, 1) := by decide +kernel
theorem dX2_exchange_1 : decode cX2_exchange 1 = .ok (.getfield 9, 3) := by decide +kernel
theorem dX2_exchange_4 : decode cX2_exchange 4 = .ok (.iload_n 1, 1) := by decide +kernel
theorem dX2_exchange_5 : decode cX2_exchange 5 = .ok (.iaload, 1) := by decide +kernel
theorem dX2_exchange_6 : decode cX2_exchange 6 = .ok (.istore_n 3, 1) := by decide +kernel
theorem dX2_exchange_7 : decode cX2_exchange 7 = .ok (.aload_n 0, 1) := by decide +kernel
theorem dX2_exchange_8 : decode cX2_exchange 8 = .ok (.getfield 9, 3) := by decide +kernel
theorem dX2_exchange_11 : decode cX2_exchange 11 = .ok (.iload_n 1, 1) := by decide +kernel
theorem dX2_exchange_12 : decode cX2_exchange 12 = .ok (.aload_n 0, 1) := by decide +kernel
theorem dX2_exchange_13 : decode cX2_exchange 13 = .ok (.getfield 9, 3) := by decide +kernel
theorem dX2_exchange_16 : decode cX2_exchange 16 = .ok (.iload_n 2, 1) := by decide +kernel
theorem dX2_exchange_17 : decode cX2_exchange 17 = .ok (.iaload, 1) := by decide +kernel
theorem dX2_exchange_18 : decode cX2_exchange 18 = .ok (.iastore, 1) := by decide +kernel
theorem dX2_exchange_19 : decode cX2_exchange 19 = .ok (.aload_n 0, 1) := by decide +kernel
theorem dX2_exchange_20 : decode cX2_exchange 20 = .ok (.getfield 9, 3) := by decide +kernel
theorem dX2_exchange_23 : decode cX2_exchange 23 = .ok (.iload_n 2, 1) := by decide +kernel
theorem dX2_exchange_24 : decode cX2_exchange 24 = .ok (.iload_n 3, 1) := by decide +kernel
theorem dX2_exchange_25 : decode cX2_exchange 25 = .ok (.iastore, 1) := by decide +kernel
theorem dX2_exchange_26 : decode cX2_exchange 26 = .ok (.return_, 1) := by decide +kernel
theorem dX2_firstPlaceOf_0 : decode cX2_firstPlaceOf 0 = .ok (.iconst 0, 1) := by decide +kernel
theorem dX2_firstPlaceOf_1 : decode cX2_firstPlaceOf 1 = .ok (.istore_n 2, 1) := by decide +kernel
theorem dX2_firstPlaceOf_2 : decode cX2_firstPlaceOf 2 = .ok (.iload_n 2, 1) := by decide +kernel
theorem dX2_firstPlaceOf_3 : decode cX2_firstPlaceOf 3 = .ok (.aload_n 0, 1) := by decide +kernel
theorem dX2_firstPlaceOf_4 : decode cX2_firstPlaceOf 4 = .ok (.getfield 15, 3) := by decide +kernel
theorem dX2_firstPlaceOf_7 : decode cX2_firstPlaceOf 7 = .ok (.if_icmp .ge 21, 3) := by decide +kernel
theorem dX2_firstPlaceOf_10 : decode cX2_firstPlaceOf 10 = .ok (.aload_n 0, 1) := by decide +kernel
theorem dX2_firstPlaceOf_11 : decode cX2_firstPlaceOf 11 = .ok (.getfield 9, 3) := by decide +kernel
theorem dX2_firstPlaceOf_14 : decode cX2_firstPlaceOf 14 = .ok (.iload_n 2, 1) := by decide +kernel
theorem dX2_firstPlaceOf_15 : decode cX2_firstPlaceOf 15 = .ok (.iaload, 1) := by decide +kernel
theorem dX2_firstPlaceOf_16 : decode cX2_firstPlaceOf 16 = .ok (.iload_n 1, 1) := by decide +kernel
theorem dX2_firstPlaceOf_17 : decode cX2_firstPlaceOf 17 = .ok (.if_icmp .ne 5, 3) := by decide +kernel
theorem dX2_firstPlaceOf_20 : decode cX2_firstPlaceOf 20 = .ok (.iload_n 2, 1) := by decide +kernel
theorem dX2_firstPlaceOf_21 : decode cX2_firstPlaceOf 21 = .ok (.ireturn, 1) := by decide +kernel
theorem dX2_firstPlaceOf_22 : decode cX2_firstPlaceOf 22 = .ok (.iinc 2 1, 3) := by decide +kernel
theorem dX2_firstPlaceOf_25 : decode cX2_firstPlaceOf 25 = .ok (.goto (-23), 3) := by decide +kernel
theorem dX2_firstPlaceOf_28 : decode cX2_firstPlaceOf 28 = .ok (.iconst (-1), 1) := by decide +kernel
theorem dX2_firstPlaceOf_29 : decode cX2_firstPlaceOf 29 = .ok (.ireturn, 1) := by decide +kernel
theorem dX3_init_0 : decode cX3_init 0 = .ok (.aload_n 0, 1) := by decide +kernel
theorem dX3_init_1 : decode cX3_init 1 = .ok (.invokespecial 3, 3) := by decide +kernel
theorem dX3_init_4 : decode cX3_init 4 = .ok (.aload_n 0, 1) := by decide +kernel
theorem dX3_init_5 : decode cX3_init 5 = .ok (.new 9, 3) := by decide +kernel
theorem dX3_init_8 : decode cX3_init 8 = .ok (.dup, 1) := by decide +kernel
theorem dX3_init_9 : decode cX3_init 9 = .ok (.invokespecial 11, 3) := by decide +kernel
theorem dX3_init_12 : decode cX3_init 12 = .ok (.putfield 12, 3) := by decide +kernel
theorem dX3_init_15 : decode cX3_init 15 = .ok (.aload_n 0, 1) := by decide +kernel
theorem dX3_init_16 : decode cX3_init 16 = .ok (.new 9, 3) := by decide +kernel
theorem dX3_init_19 : decode cX3_init 19 = .ok (.dup, 1) := by decide +kernel
theorem dX3_init_20 : decode cX3_init 20 = .ok (.invokespecial 11, 3) := by decide +kernel
theorem dX3_init_23 : decode cX3_init 23 = .ok (.putfield 18, 3) := by decide +kernel
theorem dX3_init_26 : decode cX3_init 26 = .ok (.aload_n 0, 1) := by decide +kernel
theorem dX3_init_27 : decode cX3_init 27 = .ok (.aload_n 1, 1) := by decide +kernel
theorem dX3_init_28 : decode cX3_init 28 = .ok (.putfield 21, 3) := by decide +kernel
theorem dX3_init_31 : decode cX3_init 31 = .ok (.return_, 1) := by decide +kernel
theorem dX3_resultOf_0 : decode cX3_resultOf 0 = .ok (.aload_n 0, 1) := by decide +kernel
theorem dX3_resultOf_1 : decode cX3_resultOf 1 = .ok (.getfield 12, 3) := by decide +kernel
theorem dX3_resultOf_4 : decode cX3_resultOf 4 = .ok (.iload_n 3, 1) := by decide +kernel
theorem dX3_resultOf_5 : decode cX3_resultOf 5 = .ok (.invokevirtual 25, 3) := by decide +kernel
theorem dX3_resultOf_8 : decode cX3_resultOf 8 = .ok (.aload_n 0, 1) := by decide +kernel
theorem dX3_resultOf_9 : decode cX3_resultOf 9 = .ok (.getfield 18, 3) := by decide +kernel
theorem dX3_resultOf_12 : decode cX3_resultOf 12 = .ok (.iload_n 3, 1) := by decide +kernel
theorem dX3_resultOf_13 : decode cX3_resultOf 13 = .ok (.invokevirtual 25, 3) := by decide +kernel
theorem dX3_resultOf_16 : decode cX3_resultOf 16 = .ok (.iconst 1, 1) := by decide +kernel
theorem dX3_resultOf_17 : decode cX3_resultOf 17 = .ok (.istore 4, 2) := by decide +kernel
theorem dX3_resultOf_19 : decode cX3_resultOf 19 = .ok (.iload 4, 2) := by decide +kernel
theorem dX3_resultOf_21 : decode cX3_resultOf 21 = .ok (.bipush 12, 2) := by decide +kernel
theorem dX3_resultOf_23 : decode cX3_resultOf 23 = .ok (.if_icmp .gt 60, 3) := by decide +kernel
theorem dX3_resultOf_26 : decode cX3_resultOf 26 = .ok (.aload_n 0, 1) := by decide +kernel
theorem dX3_resultOf_27 : decode cX3_resultOf 27 = .ok (.iload 4, 2) := by decide +kernel
theorem dX3_resultOf_29 : decode cX3_resultOf 29 = .ok (.putfield 29, 3) := by decide +kernel
theorem dX3_resultOf_32 : decode cX3_resultOf 32 = .ok (.aload_n 0, 1) := by decide +kernel
theorem dX3_resultOf_33 : decode cX3_resultOf 33 = .ok (.getfield 12, 3) := by decide +kernel
theorem dX3_resultOf_36 : decode cX3_resultOf 36 = .ok (.aload_n 0, 1) := by decide +kernel
theorem dX3_resultOf_37 : decode cX3_resultOf 37 = .ok (.getfield 18, 3) := by decide +kernel
theorem dX3_resultOf_40 : decode cX3_resultOf 40 = .ok (.aload_n 1, 1) := by decide +kernel
theorem dX3_resultOf_41 : decode cX3_resultOf 41 = .ok (.aload_n 0, 1) := by decide +kernel
theorem dX3_resultOf_42 : decode cX3_resultOf 42 = .ok (.getfield 21, 3) := by decide +kernel
theorem dX3_resultOf_45 : decode cX3_resultOf 45 = .ok (.iload 4, 2) := by decide +kernel
theorem dX3_resultOf_47 : decode cX3_resultOf 47 = .ok (.invokevirtual 33, 3) := by decide +kernel
theorem dX3_resultOf_50 : decode cX3_resultOf 50 = .ok (.ifCond .ne 33, 3) := by decide +kernel
theorem dX3_resultOf_53 : decode cX3_resultOf 53 = .ok (.aload_n 0, 1) := by decide +kernel
theorem dX3_resultOf_54 : decode cX3_resultOf 54 = .ok (.getfield 18, 3) := by decide +kernel
theorem dX3_resultOf_57 : decode cX3_resultOf 57 = .ok (.aload_n 0, 1) := by decide +kernel
theorem dX3_resultOf_58 : decode cX3_resultOf 58 = .ok (.getfield 12, 3) := by decide +kernel
theorem dX3_resultOf_61 : decode cX3_resultOf 61 = .ok (.aload_n 2, 1) := by decide +kernel
theorem dX3_resultOf_62 : decode cX3_resultOf 62 = .ok (.aload_n 0, 1) := by decide +kernel
theorem dX3_resultOf_63 : decode cX3_resultOf 63 = .ok (.getfield 21, 3) := by decide +kernel
theorem dX3_resultOf_66 : decode cX3_resultOf 66 = .ok (.iload 4, 2) := by decide +kernel
theorem dX3_resultOf_68 : decode cX3_resultOf 68 = .ok (.invokevirtual 33, 3) := by decide +kernel
theorem dX3_resultOf_71 : decode cX3_resultOf 71 = .ok (.ifCond .eq 6, 3) := by decide +kernel
theorem dX3_resultOf_74 : decode cX3_resultOf 74 = .ok (.goto 9, 3) := by decide +kernel
theorem dX3_resultOf_77 : decode cX3_resultOf 77 = .ok (.iinc 4 1, 3) := by decide +kernel
theorem dX3_resultOf_80 : decode cX3_resultOf 80 = .ok (.goto (-61), 3) := by decide +kernel
theorem dX3_resultOf_83 : decode cX3_resultOf 83 = .ok (.aload_n 0, 1) := by decide +kernel
theorem dX3_resultOf_84 : decode cX3_resultOf 84 = .ok (.getfield 12, 3) := by decide +kernel
theorem dX3_resultOf_87 : decode cX3_resultOf 87 = .ok (.getfield 37, 3) := by decide +kernel
theorem dX3_resultOf_90 : decode cX3_resultOf 90 = .ok (.aload_n 0, 1) := by decide +kernel
theorem dX3_resultOf_91 : decode cX3_resultOf 91 = .ok (.getfield 18, 3) := by decide +kernel
theorem dX3_resultOf_94 : decode cX3_resultOf 94 = .ok (.getfield 37, 3) := by decide +kernel
theorem dX3_resultOf_97 : decode cX3_resultOf 97 = .ok (.invokestatic 40, 3) := by decide +kernel
theorem dX3_resultOf_100 : decode cX3_resultOf 100 = .ok (.ireturn, 1) := by decide +kernel
