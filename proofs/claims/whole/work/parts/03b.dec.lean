theorem dX4_init_0 : decode cX4_init 0 = .ok (.aload_n 0, 1) := by decide +kernel
theorem dX4_init_1 : decode cX4_init 1 = .ok (.invokespecial 3, 3) := by decide +kernel
theorem dX4_init_4 : decode cX4_init 4 = .ok (.aload_n 0, 1) := by decide +kernel
theorem dX4_init_5 : decode cX4_init 5 = .ok (.iconst 5, 1) := by decide +kernel
theorem dX4_init_6 : decode cX4_init 6 = .ok (.newarray .int, 2) := by decide +kernel
theorem dX4_init_8 : decode cX4_init 8 = .ok (.putfield 9, 3) := by decide +kernel
theorem dX4_init_11 : decode cX4_init 11 = .ok (.aload_n 0, 1) := by decide +kernel
theorem dX4_init_12 : decode cX4_init 12 = .ok (.iconst 5, 1) := by decide +kernel
theorem dX4_init_13 : decode cX4_init 13 = .ok (.newarray .int, 2) := by decide +kernel
theorem dX4_init_15 : decode cX4_init 15 = .ok (.putfield 15, 3) := by decide +kernel
theorem dX4_init_18 : decode cX4_init 18 = .ok (.aload_n 0, 1) := by decide +kernel
theorem dX4_init_19 : decode cX4_init 19 = .ok (.sipush 1024, 3) := by decide +kernel
theorem dX4_init_22 : decode cX4_init 22 = .ok (.newarray .int, 2) := by decide +kernel
theorem dX4_init_24 : decode cX4_init 24 = .ok (.putfield 18, 3) := by decide +kernel
theorem dX4_init_27 : decode cX4_init 27 = .ok (.return_, 1) := by decide +kernel
theorem dX4_find_0 : decode cX4_find 0 = .ok (.aload_n 0, 1) := by decide +kernel
theorem dX4_find_1 : decode cX4_find 1 = .ok (.iload_n 2, 1) := by decide +kernel
theorem dX4_find_2 : decode cX4_find 2 = .ok (.putfield 21, 3) := by decide +kernel
theorem dX4_find_5 : decode cX4_find 5 = .ok (.aload_n 0, 1) := by decide +kernel
theorem dX4_find_6 : decode cX4_find 6 = .ok (.iconst 0, 1) := by decide +kernel
theorem dX4_find_7 : decode cX4_find 7 = .ok (.putfield 25, 3) := by decide +kernel
theorem dX4_find_10 : decode cX4_find 10 = .ok (.aload_n 0, 1) := by decide +kernel
theorem dX4_find_11 : decode cX4_find 11 = .ok (.aload_n 1, 1) := by decide +kernel
theorem dX4_find_12 : decode cX4_find 12 = .ok (.invokevirtual 28, 3) := by decide +kernel
theorem dX4_find_15 : decode cX4_find 15 = .ok (.iconst 1, 1) := by decide +kernel
theorem dX4_find_16 : decode cX4_find 16 = .ok (.aload_n 0, 1) := by decide +kernel
theorem dX4_find_17 : decode cX4_find 17 = .ok (.getfield 21, 3) := by decide +kernel
theorem dX4_find_20 : decode cX4_find 20 = .ok (.ishl, 1) := by decide +kernel
theorem dX4_find_21 : decode cX4_find 21 = .ok (.istore_n 3, 1) := by decide +kernel
theorem dX4_find_22 : decode cX4_find 22 = .ok (.iconst 1, 1) := by decide +kernel
theorem dX4_find_23 : decode cX4_find 23 = .ok (.istore 4, 2) := by decide +kernel
theorem dX4_find_25 : decode cX4_find 25 = .ok (.iload 4, 2) := by decide +kernel
theorem dX4_find_27 : decode cX4_find 27 = .ok (.iload_n 3, 1) := by decide +kernel
theorem dX4_find_28 : decode cX4_find 28 = .ok (.if_icmp .ge 73, 3) := by decide +kernel
theorem dX4_find_31 : decode cX4_find 31 = .ok (.iload 4, 2) := by decide +kernel
theorem dX4_find_33 : decode cX4_find 33 = .ok (.invokestatic 32, 3) := by decide +kernel
theorem dX4_find_36 : decode cX4_find 36 = .ok (.iconst 1, 1) := by decide +kernel
theorem dX4_find_37 : decode cX4_find 37 = .ok (.isub, 1) := by decide +kernel
theorem dX4_find_38 : decode cX4_find 38 = .ok (.istore 5, 2) := by decide +kernel
theorem dX4_find_40 : decode cX4_find 40 = .ok (.iconst 0, 1) := by decide +kernel
theorem dX4_find_41 : decode cX4_find 41 = .ok (.istore 6, 2) := by decide +kernel
theorem dX4_find_43 : decode cX4_find 43 = .ok (.iload 6, 2) := by decide +kernel
theorem dX4_find_45 : decode cX4_find 45 = .ok (.iload_n 3, 1) := by decide +kernel
theorem dX4_find_46 : decode cX4_find 46 = .ok (.if_icmp .ge 49, 3) := by decide +kernel
theorem dX4_find_49 : decode cX4_find 49 = .ok (.iload 6, 2) := by decide +kernel
theorem dX4_find_51 : decode cX4_find 51 = .ok (.invokestatic 32, 3) := by decide +kernel
theorem dX4_find_54 : decode cX4_find 54 = .ok (.iload 5, 2) := by decide +kernel
theorem dX4_find_56 : decode cX4_find 56 = .ok (.if_icmp .ne 33, 3) := by decide +kernel
theorem dX4_find_59 : decode cX4_find 59 = .ok (.aload_n 0, 1) := by decide +kernel
theorem dX4_find_60 : decode cX4_find 60 = .ok (.iload 4, 2) := by decide +kernel
theorem dX4_find_62 : decode cX4_find 62 = .ok (.iload 6, 2) := by decide +kernel
theorem dX4_find_64 : decode cX4_find 64 = .ok (.invokevirtual 38, 3) := by decide +kernel
theorem dX4_find_67 : decode cX4_find 67 = .ok (.ifCond .eq 22, 3) := by decide +kernel
theorem dX4_find_70 : decode cX4_find 70 = .ok (.aload_n 0, 1) := by decide +kernel
theorem dX4_find_71 : decode cX4_find 71 = .ok (.aload_n 1, 1) := by decide +kernel
theorem dX4_find_72 : decode cX4_find 72 = .ok (.invokevirtual 42, 3) := by decide +kernel
theorem dX4_find_75 : decode cX4_find 75 = .ok (.ifCond .eq 14, 3) := by decide +kernel
theorem dX4_find_78 : decode cX4_find 78 = .ok (.aload_n 0, 1) := by decide +kernel
theorem dX4_find_79 : decode cX4_find 79 = .ok (.invokevirtual 46, 3) := by decide +kernel
theorem dX4_find_82 : decode cX4_find 82 = .ok (.ifCond .eq 7, 3) := by decide +kernel
theorem dX4_find_85 : decode cX4_find 85 = .ok (.aload_n 0, 1) := by decide +kernel
theorem dX4_find_86 : decode cX4_find 86 = .ok (.invokevirtual 50, 3) := by decide +kernel
theorem dX4_find_89 : decode cX4_find 89 = .ok (.iinc 6 1, 3) := by decide +kernel
theorem dX4_find_92 : decode cX4_find 92 = .ok (.goto (-49), 3) := by decide +kernel
theorem dX4_find_95 : decode cX4_find 95 = .ok (.iinc 4 1, 3) := by decide +kernel
theorem dX4_find_98 : decode cX4_find 98 = .ok (.goto (-73), 3) := by decide +kernel
theorem dX4_find_101 : decode cX4_find 101 = .ok (.return_, 1) := by decide +kernel
theorem dX4_isWithin_0 : decode cX4_isWithin 0 = .ok (.iconst 0, 1) := by decide +kernel
theorem dX4_isWithin_1 : decode cX4_isWithin 1 = .ok (.istore_n 3, 1) := by decide +kernel
theorem dX4_isWithin_2 : decode cX4_isWithin 2 = .ok (.iload_n 3, 1) := by decide +kernel
theorem dX4_isWithin_3 : decode cX4_isWithin 3 = .ok (.aload_n 0, 1) := by decide +kernel
theorem dX4_isWithin_4 : decode cX4_isWithin 4 = .ok (.getfield 21, 3) := by decide +kernel
theorem dX4_isWithin_7 : decode cX4_isWithin 7 = .ok (.if_icmp .ge 28, 3) := by decide +kernel
theorem dX4_isWithin_10 : decode cX4_isWithin 10 = .ok (.aload_n 0, 1) := by decide +kernel
theorem dX4_isWithin_11 : decode cX4_isWithin 11 = .ok (.getfield 9, 3) := by decide +kernel
theorem dX4_isWithin_14 : decode cX4_isWithin 14 = .ok (.iload_n 3, 1) := by decide +kernel
theorem dX4_isWithin_15 : decode cX4_isWithin 15 = .ok (.iaload, 1) := by decide +kernel
theorem dX4_isWithin_16 : decode cX4_isWithin 16 = .ok (.iload_n 2, 1) := by decide +kernel
theorem dX4_isWithin_17 : decode cX4_isWithin 17 = .ok (.imul, 1) := by decide +kernel
theorem dX4_isWithin_18 : decode cX4_isWithin 18 = .ok (.iload_n 1, 1) := by decide +kernel
theorem dX4_isWithin_19 : decode cX4_isWithin 19 = .ok (.aload_n 0, 1) := by decide +kernel
theorem dX4_isWithin_20 : decode cX4_isWithin 20 = .ok (.getfield 25, 3) := by decide +kernel
theorem dX4_isWithin_23 : decode cX4_isWithin 23 = .ok (.imul, 1) := by decide +kernel
theorem dX4_isWithin_24 : decode cX4_isWithin 24 = .ok (.if_icmp .le 5, 3) := by decide +kernel
theorem dX4_isWithin_27 : decode cX4_isWithin 27 = .ok (.iconst 0, 1) := by decide +kernel
theorem dX4_isWithin_28 : decode cX4_isWithin 28 = .ok (.ireturn, 1) := by decide +kernel
theorem dX4_isWithin_29 : decode cX4_isWithin 29 = .ok (.iinc 3 1, 3) := by decide +kernel
theorem dX4_isWithin_32 : decode cX4_isWithin 32 = .ok (.goto (-30), 3) := by decide +kernel
theorem dX4_isWithin_35 : decode cX4_isWithin 35 = .ok (.iconst 1, 1) := by decide +kernel
theorem dX4_isWithin_36 : decode cX4_isWithin 36 = .ok (.ireturn, 1) := by decide +kernel
theorem dX4_findMinors_0 : decode cX4_findMinors 0 = .ok (.iconst 1, 1) := by decide +kernel
theorem dX4_findMinors_1 : decode cX4_findMinors 1 = .ok (.aload_n 0, 1) := by decide +kernel
theorem dX4_findMinors_2 : decode cX4_findMinors 2 = .ok (.getfield 21, 3) := by decide +kernel
theorem dX4_findMinors_5 : decode cX4_findMinors 5 = .ok (.ishl, 1) := by decide +kernel
theorem dX4_findMinors_6 : decode cX4_findMinors 6 = .ok (.istore_n 2, 1) := by decide +kernel
theorem dX4_findMinors_7 : decode cX4_findMinors 7 = .ok (.aload_n 0, 1) := by decide +kernel
theorem dX4_findMinors_8 : decode cX4_findMinors 8 = .ok (.getfield 18, 3) := by decide +kernel
theorem dX4_findMinors_11 : decode cX4_findMinors 11 = .ok (.iconst 0, 1) := by decide +kernel
theorem dX4_findMinors_12 : decode cX4_findMinors 12 = .ok (.iconst 1, 1) := by decide +kernel
theorem dX4_findMinors_13 : decode cX4_findMinors 13 = .ok (.iastore, 1) := by decide +kernel
theorem dX4_findMinors_14 : decode cX4_findMinors 14 = .ok (.iconst 1, 1) := by decide +kernel
theorem dX4_findMinors_15 : decode cX4_findMinors 15 = .ok (.istore_n 3, 1) := by decide +kernel
theorem dX4_findMinors_16 : decode cX4_findMinors 16 = .ok (.iload_n 3, 1) := by decide +kernel
theorem dX4_findMinors_17 : decode cX4_findMinors 17 = .ok (.iload_n 2, 1) := by decide +kernel
theorem dX4_findMinors_18 : decode cX4_findMinors 18 = .ok (.if_icmp .ge 60, 3) := by decide +kernel
theorem dX4_findMinors_21 : decode cX4_findMinors 21 = .ok (.iload_n 3, 1) := by decide +kernel
theorem dX4_findMinors_22 : decode cX4_findMinors 22 = .ok (.invokestatic 32, 3) := by decide +kernel
theorem dX4_findMinors_25 : decode cX4_findMinors 25 = .ok (.istore 4, 2) := by decide +kernel
theorem dX4_findMinors_27 : decode cX4_findMinors 27 = .ok (.iconst 1, 1) := by decide +kernel
theorem dX4_findMinors_28 : decode cX4_findMinors 28 = .ok (.istore 5, 2) := by decide +kernel
theorem dX4_findMinors_30 : decode cX4_findMinors 30 = .ok (.iload 5, 2) := by decide +kernel
theorem dX4_findMinors_32 : decode cX4_findMinors 32 = .ok (.iload_n 2, 1) := by decide +kernel
theorem dX4_findMinors_33 : decode cX4_findMinors 33 = .ok (.if_icmp .ge 39, 3) := by decide +kernel
theorem dX4_findMinors_36 : decode cX4_findMinors 36 = .ok (.iload 5, 2) := by decide +kernel
theorem dX4_findMinors_38 : decode cX4_findMinors 38 = .ok (.invokestatic 32, 3) := by decide +kernel
theorem dX4_findMinors_41 : decode cX4_findMinors 41 = .ok (.iload 4, 2) := by decide +kernel
theorem dX4_findMinors_43 : decode cX4_findMinors 43 = .ok (.if_icmp .ne 23, 3) := by decide +kernel
theorem dX4_findMinors_46 : decode cX4_findMinors 46 = .ok (.aload_n 0, 1) := by decide +kernel
theorem dX4_findMinors_47 : decode cX4_findMinors 47 = .ok (.getfield 18, 3) := by decide +kernel
theorem dX4_findMinors_50 : decode cX4_findMinors 50 = .ok (.iload_n 3, 1) := by decide +kernel
theorem dX4_findMinors_51 : decode cX4_findMinors 51 = .ok (.bipush 32, 2) := by decide +kernel
theorem dX4_findMinors_53 : decode cX4_findMinors 53 = .ok (.imul, 1) := by decide +kernel
theorem dX4_findMinors_54 : decode cX4_findMinors 54 = .ok (.iload 5, 2) := by decide +kernel
theorem dX4_findMinors_56 : decode cX4_findMinors 56 = .ok (.iadd, 1) := by decide +kernel
theorem dX4_findMinors_57 : decode cX4_findMinors 57 = .ok (.aload_n 0, 1) := by decide +kernel
theorem dX4_findMinors_58 : decode cX4_findMinors 58 = .ok (.aload_n 1, 1) := by decide +kernel
theorem dX4_findMinors_59 : decode cX4_findMinors 59 = .ok (.iload_n 3, 1) := by decide +kernel
theorem dX4_findMinors_60 : decode cX4_findMinors 60 = .ok (.iload 5, 2) := by decide +kernel
theorem dX4_findMinors_62 : decode cX4_findMinors 62 = .ok (.invokevirtual 53, 3) := by decide +kernel
theorem dX4_findMinors_65 : decode cX4_findMinors 65 = .ok (.iastore, 1) := by decide +kernel
theorem dX4_findMinors_66 : decode cX4_findMinors 66 = .ok (.iinc 5 1, 3) := by decide +kernel
theorem dX4_findMinors_69 : decode cX4_findMinors 69 = .ok (.goto (-39), 3) := by decide +kernel
theorem dX4_findMinors_72 : decode cX4_findMinors 72 = .ok (.iinc 3 1, 3) := by decide +kernel
theorem dX4_findMinors_75 : decode cX4_findMinors 75 = .ok (.goto (-59), 3) := by decide +kernel
theorem dX4_findMinors_78 : decode cX4_findMinors 78 = .ok (.return_, 1) := by decide +kernel
theorem dX4_minorOf_0 : decode cX4_minorOf 0 = .ok (.aload_n 0, 1) := by decide +kernel
theorem dX4_minorOf_1 : decode cX4_minorOf 1 = .ok (.iload_n 3, 1) := by decide +kernel
theorem dX4_minorOf_2 : decode cX4_minorOf 2 = .ok (.invokevirtual 57, 3) := by decide +kernel
theorem dX4_minorOf_5 : decode cX4_minorOf 5 = .ok (.istore 4, 2) := by decide +kernel
theorem dX4_minorOf_7 : decode cX4_minorOf 7 = .ok (.iload_n 3, 1) := by decide +kernel
theorem dX4_minorOf_8 : decode cX4_minorOf 8 = .ok (.iload_n 3, 1) := by decide +kernel
theorem dX4_minorOf_9 : decode cX4_minorOf 9 = .ok (.iconst 1, 1) := by decide +kernel
theorem dX4_minorOf_10 : decode cX4_minorOf 10 = .ok (.isub, 1) := by decide +kernel
theorem dX4_minorOf_11 : decode cX4_minorOf 11 = .ok (.iand, 1) := by decide +kernel
theorem dX4_minorOf_12 : decode cX4_minorOf 12 = .ok (.istore 5, 2) := by decide +kernel
theorem dX4_minorOf_14 : decode cX4_minorOf 14 = .ok (.iconst 1, 1) := by decide +kernel
theorem dX4_minorOf_15 : decode cX4_minorOf 15 = .ok (.istore 6, 2) := by decide +kernel
theorem dX4_minorOf_17 : decode cX4_minorOf 17 = .ok (.iconst 0, 1) := by decide +kernel
theorem dX4_minorOf_18 : decode cX4_minorOf 18 = .ok (.istore 7, 2) := by decide +kernel
theorem dX4_minorOf_20 : decode cX4_minorOf 20 = .ok (.iconst 0, 1) := by decide +kernel
theorem dX4_minorOf_21 : decode cX4_minorOf 21 = .ok (.istore 8, 2) := by decide +kernel
theorem dX4_minorOf_23 : decode cX4_minorOf 23 = .ok (.iload 8, 2) := by decide +kernel
theorem dX4_minorOf_25 : decode cX4_minorOf 25 = .ok (.aload_n 0, 1) := by decide +kernel
theorem dX4_minorOf_26 : decode cX4_minorOf 26 = .ok (.getfield 21, 3) := by decide +kernel
theorem dX4_minorOf_29 : decode cX4_minorOf 29 = .ok (.if_icmp .ge 56, 3) := by decide +kernel
theorem dX4_minorOf_32 : decode cX4_minorOf 32 = .ok (.iload_n 2, 1) := by decide +kernel
theorem dX4_minorOf_33 : decode cX4_minorOf 33 = .ok (.iload 8, 2) := by decide +kernel
theorem dX4_minorOf_35 : decode cX4_minorOf 35 = .ok (.invokestatic 60, 3) := by decide +kernel
theorem dX4_minorOf_38 : decode cX4_minorOf 38 = .ok (.ifCond .eq 41, 3) := by decide +kernel
theorem dX4_minorOf_41 : decode cX4_minorOf 41 = .ok (.iload 7, 2) := by decide +kernel
theorem dX4_minorOf_43 : decode cX4_minorOf 43 = .ok (.iload 6, 2) := by decide +kernel
theorem dX4_minorOf_45 : decode cX4_minorOf 45 = .ok (.aload_n 1, 1) := by decide +kernel
theorem dX4_minorOf_46 : decode cX4_minorOf 46 = .ok (.iload 8, 2) := by decide +kernel
theorem dX4_minorOf_48 : decode cX4_minorOf 48 = .ok (.aaload, 1) := by decide +kernel
theorem dX4_minorOf_49 : decode cX4_minorOf 49 = .ok (.iload 4, 2) := by decide +kernel
theorem dX4_minorOf_51 : decode cX4_minorOf 51 = .ok (.iaload, 1) := by decide +kernel
theorem dX4_minorOf_52 : decode cX4_minorOf 52 = .ok (.imul, 1) := by decide +kernel
theorem dX4_minorOf_53 : decode cX4_minorOf 53 = .ok (.aload_n 0, 1) := by decide +kernel
theorem dX4_minorOf_54 : decode cX4_minorOf 54 = .ok (.getfield 18, 3) := by decide +kernel
theorem dX4_minorOf_57 : decode cX4_minorOf 57 = .ok (.iload_n 2, 1) := by decide +kernel
theorem dX4_minorOf_58 : decode cX4_minorOf 58 = .ok (.iconst 1, 1) := by decide +kernel
theorem dX4_minorOf_59 : decode cX4_minorOf 59 = .ok (.iload 8, 2) := by decide +kernel
theorem dX4_minorOf_61 : decode cX4_minorOf 61 = .ok (.ishl, 1) := by decide +kernel
theorem dX4_minorOf_62 : decode cX4_minorOf 62 = .ok (.ixor, 1) := by decide +kernel
theorem dX4_minorOf_63 : decode cX4_minorOf 63 = .ok (.bipush 32, 2) := by decide +kernel
theorem dX4_minorOf_65 : decode cX4_minorOf 65 = .ok (.imul, 1) := by decide +kernel
theorem dX4_minorOf_66 : decode cX4_minorOf 66 = .ok (.iload 5, 2) := by decide +kernel
theorem dX4_minorOf_68 : decode cX4_minorOf 68 = .ok (.iadd, 1) := by decide +kernel
theorem dX4_minorOf_69 : decode cX4_minorOf 69 = .ok (.iaload, 1) := by decide +kernel
theorem dX4_minorOf_70 : decode cX4_minorOf 70 = .ok (.imul, 1) := by decide +kernel
theorem dX4_minorOf_71 : decode cX4_minorOf 71 = .ok (.iadd, 1) := by decide +kernel
theorem dX4_minorOf_72 : decode cX4_minorOf 72 = .ok (.istore 7, 2) := by decide +kernel
theorem dX4_minorOf_74 : decode cX4_minorOf 74 = .ok (.iload 6, 2) := by decide +kernel
theorem dX4_minorOf_76 : decode cX4_minorOf 76 = .ok (.ineg, 1) := by decide +kernel
theorem dX4_minorOf_77 : decode cX4_minorOf 77 = .ok (.istore 6, 2) := by decide +kernel
theorem dX4_minorOf_79 : decode cX4_minorOf 79 = .ok (.iinc 8 1, 3) := by decide +kernel
theorem dX4_minorOf_82 : decode cX4_minorOf 82 = .ok (.goto (-59), 3) := by decide +kernel
theorem dX4_minorOf_85 : decode cX4_minorOf 85 = .ok (.iload 7, 2) := by decide +kernel
theorem dX4_minorOf_87 : decode cX4_minorOf 87 = .ok (.ireturn, 1) := by decide +kernel
theorem dX4_leastOf_0 : decode cX4_leastOf 0 = .ok (.iconst 0, 1) := by decide +kernel
theorem dX4_leastOf_1 : decode cX4_leastOf 1 = .ok (.istore_n 2, 1) := by decide +kernel
theorem dX4_leastOf_2 : decode cX4_leastOf 2 = .ok (.iload_n 2, 1) := by decide +kernel
theorem dX4_leastOf_3 : decode cX4_leastOf 3 = .ok (.aload_n 0, 1) := by decide +kernel
theorem dX4_leastOf_4 : decode cX4_leastOf 4 = .ok (.getfield 21, 3) := by decide +kernel
theorem dX4_leastOf_7 : decode cX4_leastOf 7 = .ok (.iconst 1, 1) := by decide +kernel
theorem dX4_leastOf_8 : decode cX4_leastOf 8 = .ok (.isub, 1) := by decide +kernel
theorem dX4_leastOf_9 : decode cX4_leastOf 9 = .ok (.if_icmp .ge 17, 3) := by decide +kernel
theorem dX4_leastOf_12 : decode cX4_leastOf 12 = .ok (.iload_n 1, 1) := by decide +kernel
theorem dX4_leastOf_13 : decode cX4_leastOf 13 = .ok (.iload_n 2, 1) := by decide +kernel
theorem dX4_leastOf_14 : decode cX4_leastOf 14 = .ok (.invokestatic 60, 3) := by decide +kernel
theorem dX4_leastOf_17 : decode cX4_leastOf 17 = .ok (.ifCond .ne 9, 3) := by decide +kernel
theorem dX4_leastOf_20 : decode cX4_leastOf 20 = .ok (.iinc 2 1, 3) := by decide +kernel
theorem dX4_leastOf_23 : decode cX4_leastOf 23 = .ok (.goto (-21), 3) := by decide +kernel
theorem dX4_leastOf_26 : decode cX4_leastOf 26 = .ok (.iload_n 2, 1) := by decide +kernel
theorem dX4_leastOf_27 : decode cX4_leastOf 27 = .ok (.ireturn, 1) := by decide +kernel
theorem dX4_isIn_0 : decode cX4_isIn 0 = .ok (.iload_n 0, 1) := by decide +kernel
theorem dX4_isIn_1 : decode cX4_isIn 1 = .ok (.iload_n 1, 1) := by decide +kernel
theorem dX4_isIn_2 : decode cX4_isIn 2 = .ok (.ishr, 1) := by decide +kernel
theorem dX4_isIn_3 : decode cX4_isIn 3 = .ok (.iconst 1, 1) := by decide +kernel
theorem dX4_isIn_4 : decode cX4_isIn 4 = .ok (.iand, 1) := by decide +kernel
theorem dX4_isIn_5 : decode cX4_isIn 5 = .ok (.iconst 1, 1) := by decide +kernel
theorem dX4_isIn_6 : decode cX4_isIn 6 = .ok (.if_icmp .ne 7, 3) := by decide +kernel
theorem dX4_isIn_9 : decode cX4_isIn 9 = .ok (.iconst 1, 1) := by decide +kernel
theorem dX4_isIn_10 : decode cX4_isIn 10 = .ok (.goto 4, 3) := by decide +kernel
theorem dX4_isIn_13 : decode cX4_isIn 13 = .ok (.iconst 0, 1) := by decide +kernel
theorem dX4_isIn_14 : decode cX4_isIn 14 = .ok (.ireturn, 1) := by decide +kernel
theorem dX4_tryCorner_0 : decode cX4_tryCorner 0 = .ok (.iconst 1, 1) := by decide +kernel
theorem dX4_tryCorner_1 : decode cX4_tryCorner 1 = .ok (.istore_n 3, 1) := by decide +kernel
theorem dX4_tryCorner_2 : decode cX4_tryCorner 2 = .ok (.iconst 0, 1) := by decide +kernel
theorem dX4_tryCorner_3 : decode cX4_tryCorner 3 = .ok (.istore 4, 2) := by decide +kernel
theorem dX4_tryCorner_5 : decode cX4_tryCorner 5 = .ok (.iconst 0, 1) := by decide +kernel
theorem dX4_tryCorner_6 : decode cX4_tryCorner 6 = .ok (.istore 5, 2) := by decide +kernel
theorem dX4_tryCorner_8 : decode cX4_tryCorner 8 = .ok (.aload_n 0, 1) := by decide +kernel
theorem dX4_tryCorner_9 : decode cX4_tryCorner 9 = .ok (.iconst 0, 1) := by decide +kernel
theorem dX4_tryCorner_10 : decode cX4_tryCorner 10 = .ok (.putfield 63, 3) := by decide +kernel
theorem dX4_tryCorner_13 : decode cX4_tryCorner 13 = .ok (.iconst 0, 1) := by decide +kernel
theorem dX4_tryCorner_14 : decode cX4_tryCorner 14 = .ok (.istore 6, 2) := by decide +kernel
theorem dX4_tryCorner_16 : decode cX4_tryCorner 16 = .ok (.iload 6, 2) := by decide +kernel
theorem dX4_tryCorner_18 : decode cX4_tryCorner 18 = .ok (.aload_n 0, 1) := by decide +kernel
theorem dX4_tryCorner_19 : decode cX4_tryCorner 19 = .ok (.getfield 21, 3) := by decide +kernel
theorem dX4_tryCorner_22 : decode cX4_tryCorner 22 = .ok (.if_icmp .ge 114, 3) := by decide +kernel
theorem dX4_tryCorner_25 : decode cX4_tryCorner 25 = .ok (.aload_n 0, 1) := by decide +kernel
theorem dX4_tryCorner_26 : decode cX4_tryCorner 26 = .ok (.getfield 15, 3) := by decide +kernel
theorem dX4_tryCorner_29 : decode cX4_tryCorner 29 = .ok (.iload 6, 2) := by decide +kernel
theorem dX4_tryCorner_31 : decode cX4_tryCorner 31 = .ok (.iconst 0, 1) := by decide +kernel
theorem dX4_tryCorner_32 : decode cX4_tryCorner 32 = .ok (.iastore, 1) := by decide +kernel
theorem dX4_tryCorner_33 : decode cX4_tryCorner 33 = .ok (.iload_n 1, 1) := by decide +kernel
theorem dX4_tryCorner_34 : decode cX4_tryCorner 34 = .ok (.iload 6, 2) := by decide +kernel
theorem dX4_tryCorner_36 : decode cX4_tryCorner 36 = .ok (.invokestatic 60, 3) := by decide +kernel
theorem dX4_tryCorner_39 : decode cX4_tryCorner 39 = .ok (.ifCond .eq 31, 3) := by decide +kernel
theorem dX4_tryCorner_42 : decode cX4_tryCorner 42 = .ok (.aload_n 0, 1) := by decide +kernel
theorem dX4_tryCorner_43 : decode cX4_tryCorner 43 = .ok (.getfield 15, 3) := by decide +kernel
theorem dX4_tryCorner_46 : decode cX4_tryCorner 46 = .ok (.iload 6, 2) := by decide +kernel
theorem dX4_tryCorner_48 : decode cX4_tryCorner 48 = .ok (.iload_n 3, 1) := by decide +kernel
theorem dX4_tryCorner_49 : decode cX4_tryCorner 49 = .ok (.aload_n 0, 1) := by decide +kernel
theorem dX4_tryCorner_50 : decode cX4_tryCorner 50 = .ok (.getfield 18, 3) := by decide +kernel
theorem dX4_tryCorner_53 : decode cX4_tryCorner 53 = .ok (.iload_n 1, 1) := by decide +kernel
theorem dX4_tryCorner_54 : decode cX4_tryCorner 54 = .ok (.iconst 1, 1) := by decide +kernel
theorem dX4_tryCorner_55 : decode cX4_tryCorner 55 = .ok (.iload 6, 2) := by decide +kernel
theorem dX4_tryCorner_57 : decode cX4_tryCorner 57 = .ok (.ishl, 1) := by decide +kernel
theorem dX4_tryCorner_58 : decode cX4_tryCorner 58 = .ok (.ixor, 1) := by decide +kernel
theorem dX4_tryCorner_59 : decode cX4_tryCorner 59 = .ok (.bipush 32, 2) := by decide +kernel
theorem dX4_tryCorner_61 : decode cX4_tryCorner 61 = .ok (.imul, 1) := by decide +kernel
theorem dX4_tryCorner_62 : decode cX4_tryCorner 62 = .ok (.iload_n 2, 1) := by decide +kernel
theorem dX4_tryCorner_63 : decode cX4_tryCorner 63 = .ok (.iadd, 1) := by decide +kernel
theorem dX4_tryCorner_64 : decode cX4_tryCorner 64 = .ok (.iaload, 1) := by decide +kernel
theorem dX4_tryCorner_65 : decode cX4_tryCorner 65 = .ok (.imul, 1) := by decide +kernel
theorem dX4_tryCorner_66 : decode cX4_tryCorner 66 = .ok (.iastore, 1) := by decide +kernel
theorem dX4_tryCorner_67 : decode cX4_tryCorner 67 = .ok (.iload_n 3, 1) := by decide +kernel
theorem dX4_tryCorner_68 : decode cX4_tryCorner 68 = .ok (.ineg, 1) := by decide +kernel
theorem dX4_tryCorner_69 : decode cX4_tryCorner 69 = .ok (.istore_n 3, 1) := by decide +kernel
theorem dX4_tryCorner_70 : decode cX4_tryCorner 70 = .ok (.iload 4, 2) := by decide +kernel
theorem dX4_tryCorner_72 : decode cX4_tryCorner 72 = .ok (.ifCond .ne 13, 3) := by decide +kernel
theorem dX4_tryCorner_75 : decode cX4_tryCorner 75 = .ok (.aload_n 0, 1) := by decide +kernel
theorem dX4_tryCorner_76 : decode cX4_tryCorner 76 = .ok (.getfield 15, 3) := by decide +kernel
theorem dX4_tryCorner_79 : decode cX4_tryCorner 79 = .ok (.iload 6, 2) := by decide +kernel
theorem dX4_tryCorner_81 : decode cX4_tryCorner 81 = .ok (.iaload, 1) := by decide +kernel
theorem dX4_tryCorner_82 : decode cX4_tryCorner 82 = .ok (.ifCond .le 7, 3) := by decide +kernel
theorem dX4_tryCorner_85 : decode cX4_tryCorner 85 = .ok (.iconst 1, 1) := by decide +kernel
theorem dX4_tryCorner_86 : decode cX4_tryCorner 86 = .ok (.goto 4, 3) := by decide +kernel
theorem dX4_tryCorner_89 : decode cX4_tryCorner 89 = .ok (.iconst 0, 1) := by decide +kernel
theorem dX4_tryCorner_90 : decode cX4_tryCorner 90 = .ok (.istore 4, 2) := by decide +kernel
theorem dX4_tryCorner_92 : decode cX4_tryCorner 92 = .ok (.iload 5, 2) := by decide +kernel
theorem dX4_tryCorner_94 : decode cX4_tryCorner 94 = .ok (.ifCond .ne 13, 3) := by decide +kernel
theorem dX4_tryCorner_97 : decode cX4_tryCorner 97 = .ok (.aload_n 0, 1) := by decide +kernel
theorem dX4_tryCorner_98 : decode cX4_tryCorner 98 = .ok (.getfield 15, 3) := by decide +kernel
theorem dX4_tryCorner_101 : decode cX4_tryCorner 101 = .ok (.iload 6, 2) := by decide +kernel
theorem dX4_tryCorner_103 : decode cX4_tryCorner 103 = .ok (.iaload, 1) := by decide +kernel
theorem dX4_tryCorner_104 : decode cX4_tryCorner 104 = .ok (.ifCond .ge 7, 3) := by decide +kernel
theorem dX4_tryCorner_107 : decode cX4_tryCorner 107 = .ok (.iconst 1, 1) := by decide +kernel
theorem dX4_tryCorner_108 : decode cX4_tryCorner 108 = .ok (.goto 4, 3) := by decide +kernel
theorem dX4_tryCorner_111 : decode cX4_tryCorner 111 = .ok (.iconst 0, 1) := by decide +kernel
theorem dX4_tryCorner_112 : decode cX4_tryCorner 112 = .ok (.istore 5, 2) := by decide +kernel
theorem dX4_tryCorner_114 : decode cX4_tryCorner 114 = .ok (.aload_n 0, 1) := by decide +kernel
theorem dX4_tryCorner_115 : decode cX4_tryCorner 115 = .ok (.dup, 1) := by decide +kernel
theorem dX4_tryCorner_116 : decode cX4_tryCorner 116 = .ok (.getfield 63, 3) := by decide +kernel
theorem dX4_tryCorner_119 : decode cX4_tryCorner 119 = .ok (.aload_n 0, 1) := by decide +kernel
theorem dX4_tryCorner_120 : decode cX4_tryCorner 120 = .ok (.getfield 15, 3) := by decide +kernel
theorem dX4_tryCorner_123 : decode cX4_tryCorner 123 = .ok (.iload 6, 2) := by decide +kernel
theorem dX4_tryCorner_125 : decode cX4_tryCorner 125 = .ok (.iaload, 1) := by decide +kernel
theorem dX4_tryCorner_126 : decode cX4_tryCorner 126 = .ok (.iadd, 1) := by decide +kernel
theorem dX4_tryCorner_127 : decode cX4_tryCorner 127 = .ok (.putfield 63, 3) := by decide +kernel
theorem dX4_tryCorner_130 : decode cX4_tryCorner 130 = .ok (.iinc 6 1, 3) := by decide +kernel
theorem dX4_tryCorner_133 : decode cX4_tryCorner 133 = .ok (.goto (-117), 3) := by decide +kernel
theorem dX4_tryCorner_136 : decode cX4_tryCorner 136 = .ok (.iload 5, 2) := by decide +kernel
theorem dX4_tryCorner_138 : decode cX4_tryCorner 138 = .ok (.ifCond .eq 7, 3) := by decide +kernel
theorem dX4_tryCorner_141 : decode cX4_tryCorner 141 = .ok (.aload_n 0, 1) := by decide +kernel
theorem dX4_tryCorner_142 : decode cX4_tryCorner 142 = .ok (.invokevirtual 66, 3) := by decide +kernel
theorem dX4_tryCorner_145 : decode cX4_tryCorner 145 = .ok (.iload 4, 2) := by decide +kernel
theorem dX4_tryCorner_147 : decode cX4_tryCorner 147 = .ok (.iload 5, 2) := by decide +kernel
theorem dX4_tryCorner_149 : decode cX4_tryCorner 149 = .ok (.if_icmp .eq 7, 3) := by decide +kernel
theorem dX4_tryCorner_152 : decode cX4_tryCorner 152 = .ok (.iconst 1, 1) := by decide +kernel
theorem dX4_tryCorner_153 : decode cX4_tryCorner 153 = .ok (.goto 4, 3) := by decide +kernel
theorem dX4_tryCorner_156 : decode cX4_tryCorner 156 = .ok (.iconst 0, 1) := by decide +kernel
theorem dX4_tryCorner_157 : decode cX4_tryCorner 157 = .ok (.ireturn, 1) := by decide +kernel
theorem dX4_turnSigns_0 : decode cX4_turnSigns 0 = .ok (.iconst 0, 1) := by decide +kernel
theorem dX4_turnSigns_1 : decode cX4_turnSigns 1 = .ok (.istore_n 1, 1) := by decide +kernel
theorem dX4_turnSigns_2 : decode cX4_turnSigns 2 = .ok (.iload_n 1, 1) := by decide +kernel
theorem dX4_turnSigns_3 : decode cX4_turnSigns 3 = .ok (.aload_n 0, 1) := by decide +kernel
theorem dX4_turnSigns_4 : decode cX4_turnSigns 4 = .ok (.getfield 21, 3) := by decide +kernel
theorem dX4_turnSigns_7 : decode cX4_turnSigns 7 = .ok (.if_icmp .ge 22, 3) := by decide +kernel
theorem dX4_turnSigns_10 : decode cX4_turnSigns 10 = .ok (.aload_n 0, 1) := by decide +kernel
theorem dX4_turnSigns_11 : decode cX4_turnSigns 11 = .ok (.getfield 15, 3) := by decide +kernel
theorem dX4_turnSigns_14 : decode cX4_turnSigns 14 = .ok (.iload_n 1, 1) := by decide +kernel
theorem dX4_turnSigns_15 : decode cX4_turnSigns 15 = .ok (.aload_n 0, 1) := by decide +kernel
theorem dX4_turnSigns_16 : decode cX4_turnSigns 16 = .ok (.getfield 15, 3) := by decide +kernel
theorem dX4_turnSigns_19 : decode cX4_turnSigns 19 = .ok (.iload_n 1, 1) := by decide +kernel
theorem dX4_turnSigns_20 : decode cX4_turnSigns 20 = .ok (.iaload, 1) := by decide +kernel
theorem dX4_turnSigns_21 : decode cX4_turnSigns 21 = .ok (.ineg, 1) := by decide +kernel
theorem dX4_turnSigns_22 : decode cX4_turnSigns 22 = .ok (.iastore, 1) := by decide +kernel
theorem dX4_turnSigns_23 : decode cX4_turnSigns 23 = .ok (.iinc 1 1, 3) := by decide +kernel
theorem dX4_turnSigns_26 : decode cX4_turnSigns 26 = .ok (.goto (-24), 3) := by decide +kernel
theorem dX4_turnSigns_29 : decode cX4_turnSigns 29 = .ok (.aload_n 0, 1) := by decide +kernel
theorem dX4_turnSigns_30 : decode cX4_turnSigns 30 = .ok (.aload_n 0, 1) := by decide +kernel
theorem dX4_turnSigns_31 : decode cX4_turnSigns 31 = .ok (.getfield 63, 3) := by decide +kernel
theorem dX4_turnSigns_34 : decode cX4_turnSigns 34 = .ok (.ineg, 1) := by decide +kernel
theorem dX4_turnSigns_35 : decode cX4_turnSigns 35 = .ok (.putfield 63, 3) := by decide +kernel
theorem dX4_turnSigns_38 : decode cX4_turnSigns 38 = .ok (.return_, 1) := by decide +kernel
theorem dX4_isHolding_0 : decode cX4_isHolding 0 = .ok (.iconst 0, 1) := by decide +kernel
theorem dX4_isHolding_1 : decode cX4_isHolding 1 = .ok (.istore_n 2, 1) := by decide +kernel
theorem dX4_isHolding_2 : decode cX4_isHolding 2 = .ok (.iload_n 2, 1) := by decide +kernel
theorem dX4_isHolding_3 : decode cX4_isHolding 3 = .ok (.aload_n 0, 1) := by decide +kernel
theorem dX4_isHolding_4 : decode cX4_isHolding 4 = .ok (.getfield 21, 3) := by decide +kernel
theorem dX4_isHolding_7 : decode cX4_isHolding 7 = .ok (.if_icmp .ge 52, 3) := by decide +kernel
theorem dX4_isHolding_10 : decode cX4_isHolding 10 = .ok (.iconst 0, 1) := by decide +kernel
theorem dX4_isHolding_11 : decode cX4_isHolding 11 = .ok (.istore_n 3, 1) := by decide +kernel
theorem dX4_isHolding_12 : decode cX4_isHolding 12 = .ok (.iconst 0, 1) := by decide +kernel
theorem dX4_isHolding_13 : decode cX4_isHolding 13 = .ok (.istore 4, 2) := by decide +kernel
theorem dX4_isHolding_15 : decode cX4_isHolding 15 = .ok (.iload 4, 2) := by decide +kernel
theorem dX4_isHolding_17 : decode cX4_isHolding 17 = .ok (.aload_n 0, 1) := by decide +kernel
theorem dX4_isHolding_18 : decode cX4_isHolding 18 = .ok (.getfield 21, 3) := by decide +kernel
theorem dX4_isHolding_21 : decode cX4_isHolding 21 = .ok (.if_icmp .ge 26, 3) := by decide +kernel
theorem dX4_isHolding_24 : decode cX4_isHolding 24 = .ok (.iload_n 3, 1) := by decide +kernel
theorem dX4_isHolding_25 : decode cX4_isHolding 25 = .ok (.aload_n 0, 1) := by decide +kernel
theorem dX4_isHolding_26 : decode cX4_isHolding 26 = .ok (.getfield 15, 3) := by decide +kernel
theorem dX4_isHolding_29 : decode cX4_isHolding 29 = .ok (.iload 4, 2) := by decide +kernel
theorem dX4_isHolding_31 : decode cX4_isHolding 31 = .ok (.iaload, 1) := by decide +kernel
theorem dX4_isHolding_32 : decode cX4_isHolding 32 = .ok (.aload_n 1, 1) := by decide +kernel
theorem dX4_isHolding_33 : decode cX4_isHolding 33 = .ok (.iload 4, 2) := by decide +kernel
theorem dX4_isHolding_35 : decode cX4_isHolding 35 = .ok (.aaload, 1) := by decide +kernel
theorem dX4_isHolding_36 : decode cX4_isHolding 36 = .ok (.iload_n 2, 1) := by decide +kernel
theorem dX4_isHolding_37 : decode cX4_isHolding 37 = .ok (.iaload, 1) := by decide +kernel
theorem dX4_isHolding_38 : decode cX4_isHolding 38 = .ok (.imul, 1) := by decide +kernel
theorem dX4_isHolding_39 : decode cX4_isHolding 39 = .ok (.iadd, 1) := by decide +kernel
theorem dX4_isHolding_40 : decode cX4_isHolding 40 = .ok (.istore_n 3, 1) := by decide +kernel
theorem dX4_isHolding_41 : decode cX4_isHolding 41 = .ok (.iinc 4 1, 3) := by decide +kernel
theorem dX4_isHolding_44 : decode cX4_isHolding 44 = .ok (.goto (-29), 3) := by decide +kernel
theorem dX4_isHolding_47 : decode cX4_isHolding 47 = .ok (.iload_n 3, 1) := by decide +kernel
theorem dX4_isHolding_48 : decode cX4_isHolding 48 = .ok (.ifCond .ge 5, 3) := by decide +kernel
theorem dX4_isHolding_51 : decode cX4_isHolding 51 = .ok (.iconst 0, 1) := by decide +kernel
theorem dX4_isHolding_52 : decode cX4_isHolding 52 = .ok (.ireturn, 1) := by decide +kernel
theorem dX4_isHolding_53 : decode cX4_isHolding 53 = .ok (.iinc 2 1, 3) := by decide +kernel
theorem dX4_isHolding_56 : decode cX4_isHolding 56 = .ok (.goto (-54), 3) := by decide +kernel
theorem dX4_isHolding_59 : decode cX4_isHolding 59 = .ok (.iconst 1, 1) := by decide +kernel
theorem dX4_isHolding_60 : decode cX4_isHolding 60 = .ok (.ireturn, 1) := by decide +kernel
theorem dX4_isGreater_0 : decode cX4_isGreater 0 = .ok (.aload_n 0, 1) := by decide +kernel
theorem dX4_isGreater_1 : decode cX4_isGreater 1 = .ok (.getfield 25, 3) := by decide +kernel
theorem dX4_isGreater_4 : decode cX4_isGreater 4 = .ok (.ifCond .ne 5, 3) := by decide +kernel
theorem dX4_isGreater_7 : decode cX4_isGreater 7 = .ok (.iconst 1, 1) := by decide +kernel
theorem dX4_isGreater_8 : decode cX4_isGreater 8 = .ok (.ireturn, 1) := by decide +kernel
theorem dX4_isGreater_9 : decode cX4_isGreater 9 = .ok (.iconst 0, 1) := by decide +kernel
theorem dX4_isGreater_10 : decode cX4_isGreater 10 = .ok (.istore_n 1, 1) := by decide +kernel
theorem dX4_isGreater_11 : decode cX4_isGreater 11 = .ok (.iload_n 1, 1) := by decide +kernel
theorem dX4_isGreater_12 : decode cX4_isGreater 12 = .ok (.aload_n 0, 1) := by decide +kernel
theorem dX4_isGreater_13 : decode cX4_isGreater 13 = .ok (.getfield 21, 3) := by decide +kernel
theorem dX4_isGreater_16 : decode cX4_isGreater 16 = .ok (.if_icmp .ge 47, 3) := by decide +kernel
theorem dX4_isGreater_19 : decode cX4_isGreater 19 = .ok (.aload_n 0, 1) := by decide +kernel
theorem dX4_isGreater_20 : decode cX4_isGreater 20 = .ok (.getfield 15, 3) := by decide +kernel
theorem dX4_isGreater_23 : decode cX4_isGreater 23 = .ok (.iload_n 1, 1) := by decide +kernel
theorem dX4_isGreater_24 : decode cX4_isGreater 24 = .ok (.iaload, 1) := by decide +kernel
theorem dX4_isGreater_25 : decode cX4_isGreater 25 = .ok (.aload_n 0, 1) := by decide +kernel
theorem dX4_isGreater_26 : decode cX4_isGreater 26 = .ok (.getfield 25, 3) := by decide +kernel
theorem dX4_isGreater_29 : decode cX4_isGreater 29 = .ok (.imul, 1) := by decide +kernel
theorem dX4_isGreater_30 : decode cX4_isGreater 30 = .ok (.aload_n 0, 1) := by decide +kernel
theorem dX4_isGreater_31 : decode cX4_isGreater 31 = .ok (.getfield 9, 3) := by decide +kernel
theorem dX4_isGreater_34 : decode cX4_isGreater 34 = .ok (.iload_n 1, 1) := by decide +kernel
theorem dX4_isGreater_35 : decode cX4_isGreater 35 = .ok (.iaload, 1) := by decide +kernel
theorem dX4_isGreater_36 : decode cX4_isGreater 36 = .ok (.aload_n 0, 1) := by decide +kernel
theorem dX4_isGreater_37 : decode cX4_isGreater 37 = .ok (.getfield 63, 3) := by decide +kernel
theorem dX4_isGreater_40 : decode cX4_isGreater 40 = .ok (.imul, 1) := by decide +kernel
theorem dX4_isGreater_41 : decode cX4_isGreater 41 = .ok (.isub, 1) := by decide +kernel
theorem dX4_isGreater_42 : decode cX4_isGreater 42 = .ok (.istore_n 2, 1) := by decide +kernel
theorem dX4_isGreater_43 : decode cX4_isGreater 43 = .ok (.iload_n 2, 1) := by decide +kernel
theorem dX4_isGreater_44 : decode cX4_isGreater 44 = .ok (.ifCond .eq 13, 3) := by decide +kernel
theorem dX4_isGreater_47 : decode cX4_isGreater 47 = .ok (.iload_n 2, 1) := by decide +kernel
theorem dX4_isGreater_48 : decode cX4_isGreater 48 = .ok (.ifCond .le 7, 3) := by decide +kernel
theorem dX4_isGreater_51 : decode cX4_isGreater 51 = .ok (.iconst 1, 1) := by decide +kernel
theorem dX4_isGreater_52 : decode cX4_isGreater 52 = .ok (.goto 4, 3) := by decide +kernel
theorem dX4_isGreater_55 : decode cX4_isGreater 55 = .ok (.iconst 0, 1) := by decide +kernel
theorem dX4_isGreater_56 : decode cX4_isGreater 56 = .ok (.ireturn, 1) := by decide +kernel
theorem dX4_isGreater_57 : decode cX4_isGreater 57 = .ok (.iinc 1 1, 3) := by decide +kernel
theorem dX4_isGreater_60 : decode cX4_isGreater 60 = .ok (.goto (-49), 3) := by decide +kernel
theorem dX4_isGreater_63 : decode cX4_isGreater 63 = .ok (.iconst 0, 1) := by decide +kernel
theorem dX4_isGreater_64 : decode cX4_isGreater 64 = .ok (.ireturn, 1) := by decide +kernel
theorem dX4_takeTried_0 : decode cX4_takeTried 0 = .ok (.iconst 0, 1) := by decide +kernel
theorem dX4_takeTried_1 : decode cX4_takeTried 1 = .ok (.istore_n 1, 1) := by decide +kernel
theorem dX4_takeTried_2 : decode cX4_takeTried 2 = .ok (.iload_n 1, 1) := by decide +kernel
theorem dX4_takeTried_3 : decode cX4_takeTried 3 = .ok (.aload_n 0, 1) := by decide +kernel
theorem dX4_takeTried_4 : decode cX4_takeTried 4 = .ok (.getfield 21, 3) := by decide +kernel
theorem dX4_takeTried_7 : decode cX4_takeTried 7 = .ok (.if_icmp .ge 21, 3) := by decide +kernel
theorem dX4_takeTried_10 : decode cX4_takeTried 10 = .ok (.aload_n 0, 1) := by decide +kernel
theorem dX4_takeTried_11 : decode cX4_takeTried 11 = .ok (.getfield 9, 3) := by decide +kernel
theorem dX4_takeTried_14 : decode cX4_takeTried 14 = .ok (.iload_n 1, 1) := by decide +kernel
theorem dX4_takeTried_15 : decode cX4_takeTried 15 = .ok (.aload_n 0, 1) := by decide +kernel
theorem dX4_takeTried_16 : decode cX4_takeTried 16 = .ok (.getfield 15, 3) := by decide +kernel
theorem dX4_takeTried_19 : decode cX4_takeTried 19 = .ok (.iload_n 1, 1) := by decide +kernel
theorem dX4_takeTried_20 : decode cX4_takeTried 20 = .ok (.iaload, 1) := by decide +kernel
theorem dX4_takeTried_21 : decode cX4_takeTried 21 = .ok (.iastore, 1) := by decide +kernel
theorem dX4_takeTried_22 : decode cX4_takeTried 22 = .ok (.iinc 1 1, 3) := by decide +kernel
theorem dX4_takeTried_25 : decode cX4_takeTried 25 = .ok (.goto (-23), 3) := by decide +kernel
theorem dX4_takeTried_28 : decode cX4_takeTried 28 = .ok (.aload_n 0, 1) := by decide +kernel
theorem dX4_takeTried_29 : decode cX4_takeTried 29 = .ok (.aload_n 0, 1) := by decide +kernel
theorem dX4_takeTried_30 : decode cX4_takeTried 30 = .ok (.getfield 63, 3) := by decide +kernel
theorem dX4_takeTried_33 : decode cX4_takeTried 33 = .ok (.putfield 25, 3) := by decide +kernel
theorem dX4_takeTried_36 : decode cX4_takeTried 36 = .ok (.return_, 1) := by decide +kernel
