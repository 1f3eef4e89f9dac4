theorem dX9_solve_186 : decode cX9_solve 186 = .ok (.lastore, 1) := by decide +kernel
theorem dX9_solve_187 : decode cX9_solve 187 = .ok (.iinc 1 1, 3) := by decide +kernel
theorem dX9_solve_190 : decode cX9_solve 190 = .ok (.goto (-80), 3) := by decide +kernel
theorem dX9_solve_193 : decode cX9_solve 193 = .ok (.iconst 1, 1) := by decide +kernel
theorem dX9_solve_194 : decode cX9_solve 194 = .ok (.ireturn, 1) := by decide +kernel
theorem dX9_holds_0 : decode cX9_holds 0 = .ok (.lconst 1, 1) := by decide +kernel
theorem dX9_holds_1 : decode cX9_holds 1 = .ok (.lstore_n 1, 1) := by decide +kernel
theorem dX9_holds_2 : decode cX9_holds 2 = .ok (.iconst 1, 1) := by decide +kernel
theorem dX9_holds_3 : decode cX9_holds 3 = .ok (.istore_n 3, 1) := by decide +kernel
theorem dX9_holds_4 : decode cX9_holds 4 = .ok (.iconst 0, 1) := by decide +kernel
theorem dX9_holds_5 : decode cX9_holds 5 = .ok (.istore 4, 2) := by decide +kernel
theorem dX9_holds_7 : decode cX9_holds 7 = .ok (.iload 4, 2) := by decide +kernel
theorem dX9_holds_9 : decode cX9_holds 9 = .ok (.aload_n 0, 1) := by decide +kernel
theorem dX9_holds_10 : decode cX9_holds 10 = .ok (.getfield 79, 3) := by decide +kernel
theorem dX9_holds_13 : decode cX9_holds 13 = .ok (.if_icmp .ge 53, 3) := by decide +kernel
theorem dX9_holds_16 : decode cX9_holds 16 = .ok (.iload_n 3, 1) := by decide +kernel
theorem dX9_holds_17 : decode cX9_holds 17 = .ok (.ifCond .eq 19, 3) := by decide +kernel
theorem dX9_holds_20 : decode cX9_holds 20 = .ok (.aload_n 0, 1) := by decide +kernel
theorem dX9_holds_21 : decode cX9_holds 21 = .ok (.getfield 57, 3) := by decide +kernel
theorem dX9_holds_24 : decode cX9_holds 24 = .ok (.iload 4, 2) := by decide +kernel
theorem dX9_holds_26 : decode cX9_holds 26 = .ok (.laload, 1) := by decide +kernel
theorem dX9_holds_27 : decode cX9_holds 27 = .ok (.lconst 0, 1) := by decide +kernel
theorem dX9_holds_28 : decode cX9_holds 28 = .ok (.lcmp, 1) := by decide +kernel
theorem dX9_holds_29 : decode cX9_holds 29 = .ok (.ifCond .lt 7, 3) := by decide +kernel
theorem dX9_holds_32 : decode cX9_holds 32 = .ok (.iconst 1, 1) := by decide +kernel
theorem dX9_holds_33 : decode cX9_holds 33 = .ok (.goto 4, 3) := by decide +kernel
theorem dX9_holds_36 : decode cX9_holds 36 = .ok (.iconst 0, 1) := by decide +kernel
theorem dX9_holds_37 : decode cX9_holds 37 = .ok (.istore_n 3, 1) := by decide +kernel
theorem dX9_holds_38 : decode cX9_holds 38 = .ok (.lload_n 1, 1) := by decide +kernel
theorem dX9_holds_39 : decode cX9_holds 39 = .ok (.lload_n 1, 1) := by decide +kernel
theorem dX9_holds_40 : decode cX9_holds 40 = .ok (.aload_n 0, 1) := by decide +kernel
theorem dX9_holds_41 : decode cX9_holds 41 = .ok (.getfield 60, 3) := by decide +kernel
theorem dX9_holds_44 : decode cX9_holds 44 = .ok (.iload 4, 2) := by decide +kernel
theorem dX9_holds_46 : decode cX9_holds 46 = .ok (.laload, 1) := by decide +kernel
theorem dX9_holds_47 : decode cX9_holds 47 = .ok (.invokestatic 144, 3) := by decide +kernel
theorem dX9_holds_50 : decode cX9_holds 50 = .ok (.ldiv, 1) := by decide +kernel
theorem dX9_holds_51 : decode cX9_holds 51 = .ok (.aload_n 0, 1) := by decide +kernel
theorem dX9_holds_52 : decode cX9_holds 52 = .ok (.getfield 60, 3) := by decide +kernel
theorem dX9_holds_55 : decode cX9_holds 55 = .ok (.iload 4, 2) := by decide +kernel
theorem dX9_holds_57 : decode cX9_holds 57 = .ok (.laload, 1) := by decide +kernel
theorem dX9_holds_58 : decode cX9_holds 58 = .ok (.lmul, 1) := by decide +kernel
theorem dX9_holds_59 : decode cX9_holds 59 = .ok (.lstore_n 1, 1) := by decide +kernel
theorem dX9_holds_60 : decode cX9_holds 60 = .ok (.iinc 4 1, 3) := by decide +kernel
theorem dX9_holds_63 : decode cX9_holds 63 = .ok (.goto (-56), 3) := by decide +kernel
theorem dX9_holds_66 : decode cX9_holds 66 = .ok (.iconst 0, 1) := by decide +kernel
theorem dX9_holds_67 : decode cX9_holds 67 = .ok (.istore 4, 2) := by decide +kernel
theorem dX9_holds_69 : decode cX9_holds 69 = .ok (.iload 4, 2) := by decide +kernel
theorem dX9_holds_71 : decode cX9_holds 71 = .ok (.aload_n 0, 1) := by decide +kernel
theorem dX9_holds_72 : decode cX9_holds 72 = .ok (.getfield 79, 3) := by decide +kernel
theorem dX9_holds_75 : decode cX9_holds 75 = .ok (.if_icmp .ge 83, 3) := by decide +kernel
theorem dX9_holds_78 : decode cX9_holds 78 = .ok (.iload_n 3, 1) := by decide +kernel
theorem dX9_holds_79 : decode cX9_holds 79 = .ok (.ifCond .eq 79, 3) := by decide +kernel
theorem dX9_holds_82 : decode cX9_holds 82 = .ok (.lconst 0, 1) := by decide +kernel
theorem dX9_holds_83 : decode cX9_holds 83 = .ok (.lstore 5, 2) := by decide +kernel
theorem dX9_holds_85 : decode cX9_holds 85 = .ok (.iconst 0, 1) := by decide +kernel
theorem dX9_holds_86 : decode cX9_holds 86 = .ok (.istore 7, 2) := by decide +kernel
theorem dX9_holds_88 : decode cX9_holds 88 = .ok (.iload 7, 2) := by decide +kernel
theorem dX9_holds_90 : decode cX9_holds 90 = .ok (.aload_n 0, 1) := by decide +kernel
theorem dX9_holds_91 : decode cX9_holds 91 = .ok (.getfield 79, 3) := by decide +kernel
theorem dX9_holds_94 : decode cX9_holds 94 = .ok (.if_icmp .ge 45, 3) := by decide +kernel
theorem dX9_holds_97 : decode cX9_holds 97 = .ok (.lload 5, 2) := by decide +kernel
theorem dX9_holds_99 : decode cX9_holds 99 = .ok (.aload_n 0, 1) := by decide +kernel
theorem dX9_holds_100 : decode cX9_holds 100 = .ok (.getfield 57, 3) := by decide +kernel
theorem dX9_holds_103 : decode cX9_holds 103 = .ok (.iload 7, 2) := by decide +kernel
theorem dX9_holds_105 : decode cX9_holds 105 = .ok (.laload, 1) := by decide +kernel
theorem dX9_holds_106 : decode cX9_holds 106 = .ok (.lload_n 1, 1) := by decide +kernel
theorem dX9_holds_107 : decode cX9_holds 107 = .ok (.aload_n 0, 1) := by decide +kernel
theorem dX9_holds_108 : decode cX9_holds 108 = .ok (.getfield 60, 3) := by decide +kernel
theorem dX9_holds_111 : decode cX9_holds 111 = .ok (.iload 7, 2) := by decide +kernel
theorem dX9_holds_113 : decode cX9_holds 113 = .ok (.laload, 1) := by decide +kernel
theorem dX9_holds_114 : decode cX9_holds 114 = .ok (.ldiv, 1) := by decide +kernel
theorem dX9_holds_115 : decode cX9_holds 115 = .ok (.lmul, 1) := by decide +kernel
theorem dX9_holds_116 : decode cX9_holds 116 = .ok (.aload_n 0, 1) := by decide +kernel
theorem dX9_holds_117 : decode cX9_holds 117 = .ok (.getfield 50, 3) := by decide +kernel
theorem dX9_holds_120 : decode cX9_holds 120 = .ok (.iconst 5, 1) := by decide +kernel
theorem dX9_holds_121 : decode cX9_holds 121 = .ok (.iload 7, 2) := by decide +kernel
theorem dX9_holds_123 : decode cX9_holds 123 = .ok (.imul, 1) := by decide +kernel
theorem dX9_holds_124 : decode cX9_holds 124 = .ok (.iload 4, 2) := by decide +kernel
theorem dX9_holds_126 : decode cX9_holds 126 = .ok (.iadd, 1) := by decide +kernel
theorem dX9_holds_127 : decode cX9_holds 127 = .ok (.iaload, 1) := by decide +kernel
theorem dX9_holds_128 : decode cX9_holds 128 = .ok (.i2l, 1) := by decide +kernel
theorem dX9_holds_129 : decode cX9_holds 129 = .ok (.lmul, 1) := by decide +kernel
theorem dX9_holds_130 : decode cX9_holds 130 = .ok (.ladd, 1) := by decide +kernel
theorem dX9_holds_131 : decode cX9_holds 131 = .ok (.lstore 5, 2) := by decide +kernel
theorem dX9_holds_133 : decode cX9_holds 133 = .ok (.iinc 7 1, 3) := by decide +kernel
theorem dX9_holds_136 : decode cX9_holds 136 = .ok (.goto (-48), 3) := by decide +kernel
theorem dX9_holds_139 : decode cX9_holds 139 = .ok (.lload 5, 2) := by decide +kernel
theorem dX9_holds_141 : decode cX9_holds 141 = .ok (.lconst 0, 1) := by decide +kernel
theorem dX9_holds_142 : decode cX9_holds 142 = .ok (.lcmp, 1) := by decide +kernel
theorem dX9_holds_143 : decode cX9_holds 143 = .ok (.ifCond .lt 7, 3) := by decide +kernel
theorem dX9_holds_146 : decode cX9_holds 146 = .ok (.iconst 1, 1) := by decide +kernel
theorem dX9_holds_147 : decode cX9_holds 147 = .ok (.goto 4, 3) := by decide +kernel
theorem dX9_holds_150 : decode cX9_holds 150 = .ok (.iconst 0, 1) := by decide +kernel
theorem dX9_holds_151 : decode cX9_holds 151 = .ok (.istore_n 3, 1) := by decide +kernel
theorem dX9_holds_152 : decode cX9_holds 152 = .ok (.iinc 4 1, 3) := by decide +kernel
theorem dX9_holds_155 : decode cX9_holds 155 = .ok (.goto (-86), 3) := by decide +kernel
theorem dX9_holds_158 : decode cX9_holds 158 = .ok (.iload_n 3, 1) := by decide +kernel
theorem dX9_holds_159 : decode cX9_holds 159 = .ok (.ireturn, 1) := by decide +kernel
theorem dX9_isGreater_0 : decode cX9_isGreater 0 = .ok (.iconst 0, 1) := by decide +kernel
theorem dX9_isGreater_1 : decode cX9_isGreater 1 = .ok (.istore_n 1, 1) := by decide +kernel
theorem dX9_isGreater_2 : decode cX9_isGreater 2 = .ok (.iload_n 1, 1) := by decide +kernel
theorem dX9_isGreater_3 : decode cX9_isGreater 3 = .ok (.aload_n 0, 1) := by decide +kernel
theorem dX9_isGreater_4 : decode cX9_isGreater 4 = .ok (.getfield 79, 3) := by decide +kernel
theorem dX9_isGreater_7 : decode cX9_isGreater 7 = .ok (.if_icmp .ge 55, 3) := by decide +kernel
theorem dX9_isGreater_10 : decode cX9_isGreater 10 = .ok (.aload_n 0, 1) := by decide +kernel
theorem dX9_isGreater_11 : decode cX9_isGreater 11 = .ok (.getfield 57, 3) := by decide +kernel
theorem dX9_isGreater_14 : decode cX9_isGreater 14 = .ok (.iload_n 1, 1) := by decide +kernel
theorem dX9_isGreater_15 : decode cX9_isGreater 15 = .ok (.laload, 1) := by decide +kernel
theorem dX9_isGreater_16 : decode cX9_isGreater 16 = .ok (.aload_n 0, 1) := by decide +kernel
theorem dX9_isGreater_17 : decode cX9_isGreater 17 = .ok (.getfield 66, 3) := by decide +kernel
theorem dX9_isGreater_20 : decode cX9_isGreater 20 = .ok (.iload_n 1, 1) := by decide +kernel
theorem dX9_isGreater_21 : decode cX9_isGreater 21 = .ok (.laload, 1) := by decide +kernel
theorem dX9_isGreater_22 : decode cX9_isGreater 22 = .ok (.lmul, 1) := by decide +kernel
theorem dX9_isGreater_23 : decode cX9_isGreater 23 = .ok (.aload_n 0, 1) := by decide +kernel
theorem dX9_isGreater_24 : decode cX9_isGreater 24 = .ok (.getfield 63, 3) := by decide +kernel
theorem dX9_isGreater_27 : decode cX9_isGreater 27 = .ok (.iload_n 1, 1) := by decide +kernel
theorem dX9_isGreater_28 : decode cX9_isGreater 28 = .ok (.laload, 1) := by decide +kernel
theorem dX9_isGreater_29 : decode cX9_isGreater 29 = .ok (.aload_n 0, 1) := by decide +kernel
theorem dX9_isGreater_30 : decode cX9_isGreater 30 = .ok (.getfield 60, 3) := by decide +kernel
theorem dX9_isGreater_33 : decode cX9_isGreater 33 = .ok (.iload_n 1, 1) := by decide +kernel
theorem dX9_isGreater_34 : decode cX9_isGreater 34 = .ok (.laload, 1) := by decide +kernel
theorem dX9_isGreater_35 : decode cX9_isGreater 35 = .ok (.lmul, 1) := by decide +kernel
theorem dX9_isGreater_36 : decode cX9_isGreater 36 = .ok (.lsub, 1) := by decide +kernel
theorem dX9_isGreater_37 : decode cX9_isGreater 37 = .ok (.lstore_n 2, 1) := by decide +kernel
theorem dX9_isGreater_38 : decode cX9_isGreater 38 = .ok (.lload_n 2, 1) := by decide +kernel
theorem dX9_isGreater_39 : decode cX9_isGreater 39 = .ok (.lconst 0, 1) := by decide +kernel
theorem dX9_isGreater_40 : decode cX9_isGreater 40 = .ok (.lcmp, 1) := by decide +kernel
theorem dX9_isGreater_41 : decode cX9_isGreater 41 = .ok (.ifCond .eq 15, 3) := by decide +kernel
theorem dX9_isGreater_44 : decode cX9_isGreater 44 = .ok (.lload_n 2, 1) := by decide +kernel
theorem dX9_isGreater_45 : decode cX9_isGreater 45 = .ok (.lconst 0, 1) := by decide +kernel
theorem dX9_isGreater_46 : decode cX9_isGreater 46 = .ok (.lcmp, 1) := by decide +kernel
theorem dX9_isGreater_47 : decode cX9_isGreater 47 = .ok (.ifCond .le 7, 3) := by decide +kernel
theorem dX9_isGreater_50 : decode cX9_isGreater 50 = .ok (.iconst 1, 1) := by decide +kernel
theorem dX9_isGreater_51 : decode cX9_isGreater 51 = .ok (.goto 4, 3) := by decide +kernel
theorem dX9_isGreater_54 : decode cX9_isGreater 54 = .ok (.iconst 0, 1) := by decide +kernel
theorem dX9_isGreater_55 : decode cX9_isGreater 55 = .ok (.ireturn, 1) := by decide +kernel
theorem dX9_isGreater_56 : decode cX9_isGreater 56 = .ok (.iinc 1 1, 3) := by decide +kernel
theorem dX9_isGreater_59 : decode cX9_isGreater 59 = .ok (.goto (-57), 3) := by decide +kernel
theorem dX9_isGreater_62 : decode cX9_isGreater 62 = .ok (.iconst 0, 1) := by decide +kernel
theorem dX9_isGreater_63 : decode cX9_isGreater 63 = .ok (.ireturn, 1) := by decide +kernel
theorem dX9_ones_0 : decode cX9_ones 0 = .ok (.iconst 0, 1) := by decide +kernel
theorem dX9_ones_1 : decode cX9_ones 1 = .ok (.istore_n 1, 1) := by decide +kernel
theorem dX9_ones_2 : decode cX9_ones 2 = .ok (.iconst 0, 1) := by decide +kernel
theorem dX9_ones_3 : decode cX9_ones 3 = .ok (.istore_n 2, 1) := by decide +kernel
theorem dX9_ones_4 : decode cX9_ones 4 = .ok (.iload_n 2, 1) := by decide +kernel
theorem dX9_ones_5 : decode cX9_ones 5 = .ok (.bipush 10, 2) := by decide +kernel
theorem dX9_ones_7 : decode cX9_ones 7 = .ok (.if_icmp .ge 17, 3) := by decide +kernel
theorem dX9_ones_10 : decode cX9_ones 10 = .ok (.iload_n 1, 1) := by decide +kernel
theorem dX9_ones_11 : decode cX9_ones 11 = .ok (.iload_n 0, 1) := by decide +kernel
theorem dX9_ones_12 : decode cX9_ones 12 = .ok (.iload_n 2, 1) := by decide +kernel
theorem dX9_ones_13 : decode cX9_ones 13 = .ok (.ishr, 1) := by decide +kernel
theorem dX9_ones_14 : decode cX9_ones 14 = .ok (.iconst 1, 1) := by decide +kernel
theorem dX9_ones_15 : decode cX9_ones 15 = .ok (.iand, 1) := by decide +kernel
theorem dX9_ones_16 : decode cX9_ones 16 = .ok (.iadd, 1) := by decide +kernel
theorem dX9_ones_17 : decode cX9_ones 17 = .ok (.istore_n 1, 1) := by decide +kernel
theorem dX9_ones_18 : decode cX9_ones 18 = .ok (.iinc 2 1, 3) := by decide +kernel
theorem dX9_ones_21 : decode cX9_ones 21 = .ok (.goto (-17), 3) := by decide +kernel
theorem dX9_ones_24 : decode cX9_ones 24 = .ok (.iload_n 1, 1) := by decide +kernel
theorem dX9_ones_25 : decode cX9_ones 25 = .ok (.ireturn, 1) := by decide +kernel
theorem dX9_findMix_0 : decode cX9_findMix 0 = .ok (.aload_n 0, 1) := by decide +kernel
theorem dX9_findMix_1 : decode cX9_findMix 1 = .ok (.invokevirtual 125, 3) := by decide +kernel
theorem dX9_findMix_4 : decode cX9_findMix 4 = .ok (.iconst 0, 1) := by decide +kernel
theorem dX9_findMix_5 : decode cX9_findMix 5 = .ok (.istore_n 1, 1) := by decide +kernel
theorem dX9_findMix_6 : decode cX9_findMix 6 = .ok (.iload_n 1, 1) := by decide +kernel
theorem dX9_findMix_7 : decode cX9_findMix 7 = .ok (.aload_n 0, 1) := by decide +kernel
theorem dX9_findMix_8 : decode cX9_findMix 8 = .ok (.getfield 79, 3) := by decide +kernel
theorem dX9_findMix_11 : decode cX9_findMix 11 = .ok (.if_icmp .ge 25, 3) := by decide +kernel
theorem dX9_findMix_14 : decode cX9_findMix 14 = .ok (.aload_n 0, 1) := by decide +kernel
theorem dX9_findMix_15 : decode cX9_findMix 15 = .ok (.getfield 63, 3) := by decide +kernel
theorem dX9_findMix_18 : decode cX9_findMix 18 = .ok (.iload_n 1, 1) := by decide +kernel
theorem dX9_findMix_19 : decode cX9_findMix 19 = .ok (.ldc2_w 155, 3) := by decide +kernel
theorem dX9_findMix_22 : decode cX9_findMix 22 = .ok (.lastore, 1) := by decide +kernel
theorem dX9_findMix_23 : decode cX9_findMix 23 = .ok (.aload_n 0, 1) := by decide +kernel
theorem dX9_findMix_24 : decode cX9_findMix 24 = .ok (.getfield 66, 3) := by decide +kernel
theorem dX9_findMix_27 : decode cX9_findMix 27 = .ok (.iload_n 1, 1) := by decide +kernel
theorem dX9_findMix_28 : decode cX9_findMix 28 = .ok (.lconst 1, 1) := by decide +kernel
theorem dX9_findMix_29 : decode cX9_findMix 29 = .ok (.lastore, 1) := by decide +kernel
theorem dX9_findMix_30 : decode cX9_findMix 30 = .ok (.iinc 1 1, 3) := by decide +kernel
theorem dX9_findMix_33 : decode cX9_findMix 33 = .ok (.goto (-27), 3) := by decide +kernel
theorem dX9_findMix_36 : decode cX9_findMix 36 = .ok (.iconst 0, 1) := by decide +kernel
theorem dX9_findMix_37 : decode cX9_findMix 37 = .ok (.istore_n 1, 1) := by decide +kernel
theorem dX9_findMix_38 : decode cX9_findMix 38 = .ok (.iload_n 1, 1) := by decide +kernel
theorem dX9_findMix_39 : decode cX9_findMix 39 = .ok (.iconst 1, 1) := by decide +kernel
theorem dX9_findMix_40 : decode cX9_findMix 40 = .ok (.iconst 2, 1) := by decide +kernel
theorem dX9_findMix_41 : decode cX9_findMix 41 = .ok (.aload_n 0, 1) := by decide +kernel
theorem dX9_findMix_42 : decode cX9_findMix 42 = .ok (.getfield 79, 3) := by decide +kernel
theorem dX9_findMix_45 : decode cX9_findMix 45 = .ok (.imul, 1) := by decide +kernel
theorem dX9_findMix_46 : decode cX9_findMix 46 = .ok (.ishl, 1) := by decide +kernel
theorem dX9_findMix_47 : decode cX9_findMix 47 = .ok (.if_icmp .ge 88, 3) := by decide +kernel
theorem dX9_findMix_50 : decode cX9_findMix 50 = .ok (.iload_n 1, 1) := by decide +kernel
theorem dX9_findMix_51 : decode cX9_findMix 51 = .ok (.invokestatic 157, 3) := by decide +kernel
theorem dX9_findMix_54 : decode cX9_findMix 54 = .ok (.aload_n 0, 1) := by decide +kernel
theorem dX9_findMix_55 : decode cX9_findMix 55 = .ok (.getfield 79, 3) := by decide +kernel
theorem dX9_findMix_58 : decode cX9_findMix 58 = .ok (.iconst 1, 1) := by decide +kernel
theorem dX9_findMix_59 : decode cX9_findMix 59 = .ok (.isub, 1) := by decide +kernel
theorem dX9_findMix_60 : decode cX9_findMix 60 = .ok (.if_icmp .ne 69, 3) := by decide +kernel
theorem dX9_findMix_63 : decode cX9_findMix 63 = .ok (.aload_n 0, 1) := by decide +kernel
theorem dX9_findMix_64 : decode cX9_findMix 64 = .ok (.iload_n 1, 1) := by decide +kernel
theorem dX9_findMix_65 : decode cX9_findMix 65 = .ok (.invokevirtual 160, 3) := by decide +kernel
theorem dX9_findMix_68 : decode cX9_findMix 68 = .ok (.aload_n 0, 1) := by decide +kernel
theorem dX9_findMix_69 : decode cX9_findMix 69 = .ok (.invokevirtual 163, 3) := by decide +kernel
theorem dX9_findMix_72 : decode cX9_findMix 72 = .ok (.ifCond .eq 57, 3) := by decide +kernel
theorem dX9_findMix_75 : decode cX9_findMix 75 = .ok (.aload_n 0, 1) := by decide +kernel
theorem dX9_findMix_76 : decode cX9_findMix 76 = .ok (.invokevirtual 166, 3) := by decide +kernel
theorem dX9_findMix_79 : decode cX9_findMix 79 = .ok (.ifCond .eq 50, 3) := by decide +kernel
theorem dX9_findMix_82 : decode cX9_findMix 82 = .ok (.aload_n 0, 1) := by decide +kernel
theorem dX9_findMix_83 : decode cX9_findMix 83 = .ok (.invokevirtual 169, 3) := by decide +kernel
theorem dX9_findMix_86 : decode cX9_findMix 86 = .ok (.ifCond .eq 43, 3) := by decide +kernel
theorem dX9_findMix_89 : decode cX9_findMix 89 = .ok (.iconst 0, 1) := by decide +kernel
theorem dX9_findMix_90 : decode cX9_findMix 90 = .ok (.istore_n 2, 1) := by decide +kernel
theorem dX9_findMix_91 : decode cX9_findMix 91 = .ok (.iload_n 2, 1) := by decide +kernel
theorem dX9_findMix_92 : decode cX9_findMix 92 = .ok (.aload_n 0, 1) := by decide +kernel
theorem dX9_findMix_93 : decode cX9_findMix 93 = .ok (.getfield 79, 3) := by decide +kernel
theorem dX9_findMix_96 : decode cX9_findMix 96 = .ok (.if_icmp .ge 33, 3) := by decide +kernel
theorem dX9_findMix_99 : decode cX9_findMix 99 = .ok (.aload_n 0, 1) := by decide +kernel
theorem dX9_findMix_100 : decode cX9_findMix 100 = .ok (.getfield 63, 3) := by decide +kernel
theorem dX9_findMix_103 : decode cX9_findMix 103 = .ok (.iload_n 2, 1) := by decide +kernel
theorem dX9_findMix_104 : decode cX9_findMix 104 = .ok (.aload_n 0, 1) := by decide +kernel
theorem dX9_findMix_105 : decode cX9_findMix 105 = .ok (.getfield 57, 3) := by decide +kernel
theorem dX9_findMix_108 : decode cX9_findMix 108 = .ok (.iload_n 2, 1) := by decide +kernel
theorem dX9_findMix_109 : decode cX9_findMix 109 = .ok (.laload, 1) := by decide +kernel
theorem dX9_findMix_110 : decode cX9_findMix 110 = .ok (.lastore, 1) := by decide +kernel
theorem dX9_findMix_111 : decode cX9_findMix 111 = .ok (.aload_n 0, 1) := by decide +kernel
theorem dX9_findMix_112 : decode cX9_findMix 112 = .ok (.getfield 66, 3) := by decide +kernel
theorem dX9_findMix_115 : decode cX9_findMix 115 = .ok (.iload_n 2, 1) := by decide +kernel
theorem dX9_findMix_116 : decode cX9_findMix 116 = .ok (.aload_n 0, 1) := by decide +kernel
theorem dX9_findMix_117 : decode cX9_findMix 117 = .ok (.getfield 60, 3) := by decide +kernel
theorem dX9_findMix_120 : decode cX9_findMix 120 = .ok (.iload_n 2, 1) := by decide +kernel
theorem dX9_findMix_121 : decode cX9_findMix 121 = .ok (.laload, 1) := by decide +kernel
theorem dX9_findMix_122 : decode cX9_findMix 122 = .ok (.lastore, 1) := by decide +kernel
theorem dX9_findMix_123 : decode cX9_findMix 123 = .ok (.iinc 2 1, 3) := by decide +kernel
theorem dX9_findMix_126 : decode cX9_findMix 126 = .ok (.goto (-35), 3) := by decide +kernel
theorem dX9_findMix_129 : decode cX9_findMix 129 = .ok (.iinc 1 1, 3) := by decide +kernel
theorem dX9_findMix_132 : decode cX9_findMix 132 = .ok (.goto (-94), 3) := by decide +kernel
theorem dX9_findMix_135 : decode cX9_findMix 135 = .ok (.return_, 1) := by decide +kernel
theorem dX9_share_0 : decode cX9_share 0 = .ok (.aload_n 0, 1) := by decide +kernel
theorem dX9_share_1 : decode cX9_share 1 = .ok (.iload_n 1, 1) := by decide +kernel
theorem dX9_share_2 : decode cX9_share 2 = .ok (.invokevirtual 86, 3) := by decide +kernel
theorem dX9_share_5 : decode cX9_share 5 = .ok (.ifCond .eq 12, 3) := by decide +kernel
theorem dX9_share_8 : decode cX9_share 8 = .ok (.iload_n 2, 1) := by decide +kernel
theorem dX9_share_9 : decode cX9_share 9 = .ok (.iconst 0, 1) := by decide +kernel
theorem dX9_share_10 : decode cX9_share 10 = .ok (.iconst 1, 1) := by decide +kernel
theorem dX9_share_11 : decode cX9_share 11 = .ok (.invokestatic 75, 3) := by decide +kernel
theorem dX9_share_14 : decode cX9_share 14 = .ok (.ifCond .ne 7, 3) := by decide +kernel
theorem dX9_share_17 : decode cX9_share 17 = .ok (.ldc2_w 172, 3) := by decide +kernel
theorem dX9_share_20 : decode cX9_share 20 = .ok (.lreturn, 1) := by decide +kernel
theorem dX9_share_21 : decode cX9_share 21 = .ok (.aload_n 0, 1) := by decide +kernel
theorem dX9_share_22 : decode cX9_share 22 = .ok (.invokevirtual 174, 3) := by decide +kernel
theorem dX9_share_25 : decode cX9_share 25 = .ok (.iload_n 2, 1) := by decide +kernel
theorem dX9_share_26 : decode cX9_share 26 = .ok (.ifCond .ne 12, 3) := by decide +kernel
theorem dX9_share_29 : decode cX9_share 29 = .ok (.aload_n 0, 1) := by decide +kernel
theorem dX9_share_30 : decode cX9_share 30 = .ok (.getfield 63, 3) := by decide +kernel
theorem dX9_share_33 : decode cX9_share 33 = .ok (.iload_n 1, 1) := by decide +kernel
theorem dX9_share_34 : decode cX9_share 34 = .ok (.laload, 1) := by decide +kernel
theorem dX9_share_35 : decode cX9_share 35 = .ok (.goto 9, 3) := by decide +kernel
theorem dX9_share_38 : decode cX9_share 38 = .ok (.aload_n 0, 1) := by decide +kernel
theorem dX9_share_39 : decode cX9_share 39 = .ok (.getfield 66, 3) := by decide +kernel
theorem dX9_share_42 : decode cX9_share 42 = .ok (.iload_n 1, 1) := by decide +kernel
theorem dX9_share_43 : decode cX9_share 43 = .ok (.laload, 1) := by decide +kernel
theorem dX9_share_44 : decode cX9_share 44 = .ok (.lreturn, 1) := by decide +kernel
theorem dX9_live_0 : decode cX9_live 0 = .ok (.aload_n 0, 1) := by decide +kernel
theorem dX9_live_1 : decode cX9_live 1 = .ok (.getfield 79, 3) := by decide +kernel
theorem dX9_live_4 : decode cX9_live 4 = .ok (.ifCond .ne 6, 3) := by decide +kernel
theorem dX9_live_7 : decode cX9_live 7 = .ok (.bipush (-3), 2) := by decide +kernel
theorem dX9_live_9 : decode cX9_live 9 = .ok (.ireturn, 1) := by decide +kernel
theorem dX9_live_10 : decode cX9_live 10 = .ok (.aload_n 0, 1) := by decide +kernel
theorem dX9_live_11 : decode cX9_live 11 = .ok (.invokevirtual 174, 3) := by decide +kernel
theorem dX9_live_14 : decode cX9_live 14 = .ok (.iconst 0, 1) := by decide +kernel
theorem dX9_live_15 : decode cX9_live 15 = .ok (.istore_n 1, 1) := by decide +kernel
theorem dX9_live_16 : decode cX9_live 16 = .ok (.iconst 0, 1) := by decide +kernel
theorem dX9_live_17 : decode cX9_live 17 = .ok (.istore_n 2, 1) := by decide +kernel
theorem dX9_live_18 : decode cX9_live 18 = .ok (.iload_n 2, 1) := by decide +kernel
theorem dX9_live_19 : decode cX9_live 19 = .ok (.aload_n 0, 1) := by decide +kernel
theorem dX9_live_20 : decode cX9_live 20 = .ok (.getfield 79, 3) := by decide +kernel
theorem dX9_live_23 : decode cX9_live 23 = .ok (.if_icmp .ge 28, 3) := by decide +kernel
theorem dX9_live_26 : decode cX9_live 26 = .ok (.iload_n 1, 1) := by decide +kernel
theorem dX9_live_27 : decode cX9_live 27 = .ok (.aload_n 0, 1) := by decide +kernel
theorem dX9_live_28 : decode cX9_live 28 = .ok (.getfield 63, 3) := by decide +kernel
theorem dX9_live_31 : decode cX9_live 31 = .ok (.iload_n 2, 1) := by decide +kernel
theorem dX9_live_32 : decode cX9_live 32 = .ok (.laload, 1) := by decide +kernel
theorem dX9_live_33 : decode cX9_live 33 = .ok (.lconst 0, 1) := by decide +kernel
theorem dX9_live_34 : decode cX9_live 34 = .ok (.lcmp, 1) := by decide +kernel
theorem dX9_live_35 : decode cX9_live 35 = .ok (.ifCond .le 7, 3) := by decide +kernel
theorem dX9_live_38 : decode cX9_live 38 = .ok (.iconst 1, 1) := by decide +kernel
theorem dX9_live_39 : decode cX9_live 39 = .ok (.goto 4, 3) := by decide +kernel
theorem dX9_live_42 : decode cX9_live 42 = .ok (.iconst 0, 1) := by decide +kernel
theorem dX9_live_43 : decode cX9_live 43 = .ok (.iadd, 1) := by decide +kernel
theorem dX9_live_44 : decode cX9_live 44 = .ok (.istore_n 1, 1) := by decide +kernel
theorem dX9_live_45 : decode cX9_live 45 = .ok (.iinc 2 1, 3) := by decide +kernel
theorem dX9_live_48 : decode cX9_live 48 = .ok (.goto (-30), 3) := by decide +kernel
theorem dX9_live_51 : decode cX9_live 51 = .ok (.iload_n 1, 1) := by decide +kernel
theorem dX9_live_52 : decode cX9_live 52 = .ok (.ireturn, 1) := by decide +kernel
theorem dX9_standingOf_0 : decode cX9_standingOf 0 = .ok (.iconst 0, 1) := by decide +kernel
theorem dX9_standingOf_1 : decode cX9_standingOf 1 = .ok (.istore_n 2, 1) := by decide +kernel
theorem dX9_standingOf_2 : decode cX9_standingOf 2 = .ok (.iconst 0, 1) := by decide +kernel
theorem dX9_standingOf_3 : decode cX9_standingOf 3 = .ok (.istore_n 3, 1) := by decide +kernel
theorem dX9_standingOf_4 : decode cX9_standingOf 4 = .ok (.iload_n 3, 1) := by decide +kernel
theorem dX9_standingOf_5 : decode cX9_standingOf 5 = .ok (.aload_n 0, 1) := by decide +kernel
theorem dX9_standingOf_6 : decode cX9_standingOf 6 = .ok (.getfield 79, 3) := by decide +kernel
theorem dX9_standingOf_9 : decode cX9_standingOf 9 = .ok (.if_icmp .ge 18, 3) := by decide +kernel
theorem dX9_standingOf_12 : decode cX9_standingOf 12 = .ok (.iload_n 2, 1) := by decide +kernel
theorem dX9_standingOf_13 : decode cX9_standingOf 13 = .ok (.aload_n 0, 1) := by decide +kernel
theorem dX9_standingOf_14 : decode cX9_standingOf 14 = .ok (.iload_n 1, 1) := by decide +kernel
theorem dX9_standingOf_15 : decode cX9_standingOf 15 = .ok (.iload_n 3, 1) := by decide +kernel
theorem dX9_standingOf_16 : decode cX9_standingOf 16 = .ok (.invokevirtual 122, 3) := by decide +kernel
theorem dX9_standingOf_19 : decode cX9_standingOf 19 = .ok (.iadd, 1) := by decide +kernel
theorem dX9_standingOf_20 : decode cX9_standingOf 20 = .ok (.istore_n 2, 1) := by decide +kernel
theorem dX9_standingOf_21 : decode cX9_standingOf 21 = .ok (.iinc 3 1, 3) := by decide +kernel
theorem dX9_standingOf_24 : decode cX9_standingOf 24 = .ok (.goto (-20), 3) := by decide +kernel
theorem dX9_standingOf_27 : decode cX9_standingOf 27 = .ok (.iload_n 2, 1) := by decide +kernel
theorem dX9_standingOf_28 : decode cX9_standingOf 28 = .ok (.ireturn, 1) := by decide +kernel
theorem dX9_standing_0 : decode cX9_standing 0 = .ok (.aload_n 0, 1) := by decide +kernel
theorem dX9_standing_1 : decode cX9_standing 1 = .ok (.iload_n 1, 1) := by decide +kernel
theorem dX9_standing_2 : decode cX9_standing 2 = .ok (.invokevirtual 86, 3) := by decide +kernel
theorem dX9_standing_5 : decode cX9_standing 5 = .ok (.ifCond .eq 11, 3) := by decide +kernel
theorem dX9_standing_8 : decode cX9_standing 8 = .ok (.aload_n 0, 1) := by decide +kernel
theorem dX9_standing_9 : decode cX9_standing 9 = .ok (.iload_n 1, 1) := by decide +kernel
theorem dX9_standing_10 : decode cX9_standing 10 = .ok (.invokevirtual 177, 3) := by decide +kernel
theorem dX9_standing_13 : decode cX9_standing 13 = .ok (.goto 5, 3) := by decide +kernel
theorem dX9_standing_16 : decode cX9_standing 16 = .ok (.ldc 121, 2) := by decide +kernel
theorem dX9_standing_18 : decode cX9_standing 18 = .ok (.ireturn, 1) := by decide +kernel
theorem dX9_placeOf_0 : decode cX9_placeOf 0 = .ok (.iconst 0, 1) := by decide +kernel
theorem dX9_placeOf_1 : decode cX9_placeOf 1 = .ok (.istore_n 3, 1) := by decide +kernel
theorem dX9_placeOf_2 : decode cX9_placeOf 2 = .ok (.iload_n 3, 1) := by decide +kernel
theorem dX9_placeOf_3 : decode cX9_placeOf 3 = .ok (.aload_n 0, 1) := by decide +kernel
theorem dX9_placeOf_4 : decode cX9_placeOf 4 = .ok (.getfield 19, 3) := by decide +kernel
theorem dX9_placeOf_7 : decode cX9_placeOf 7 = .ok (.iload_n 1, 1) := by decide +kernel
theorem dX9_placeOf_8 : decode cX9_placeOf 8 = .ok (.iaload, 1) := by decide +kernel
theorem dX9_placeOf_9 : decode cX9_placeOf 9 = .ok (.if_icmp .ge 26, 3) := by decide +kernel
theorem dX9_placeOf_12 : decode cX9_placeOf 12 = .ok (.aload_n 0, 1) := by decide +kernel
theorem dX9_placeOf_13 : decode cX9_placeOf 13 = .ok (.getfield 22, 3) := by decide +kernel
theorem dX9_placeOf_16 : decode cX9_placeOf 16 = .ok (.bipush 10, 2) := by decide +kernel
theorem dX9_placeOf_18 : decode cX9_placeOf 18 = .ok (.iload_n 1, 1) := by decide +kernel
theorem dX9_placeOf_19 : decode cX9_placeOf 19 = .ok (.imul, 1) := by decide +kernel
theorem dX9_placeOf_20 : decode cX9_placeOf 20 = .ok (.iload_n 3, 1) := by decide +kernel
theorem dX9_placeOf_21 : decode cX9_placeOf 21 = .ok (.iadd, 1) := by decide +kernel
theorem dX9_placeOf_22 : decode cX9_placeOf 22 = .ok (.iaload, 1) := by decide +kernel
theorem dX9_placeOf_23 : decode cX9_placeOf 23 = .ok (.iload_n 2, 1) := by decide +kernel
theorem dX9_placeOf_24 : decode cX9_placeOf 24 = .ok (.if_icmp .ne 5, 3) := by decide +kernel
theorem dX9_placeOf_27 : decode cX9_placeOf 27 = .ok (.iload_n 3, 1) := by decide +kernel
theorem dX9_placeOf_28 : decode cX9_placeOf 28 = .ok (.ireturn, 1) := by decide +kernel
theorem dX9_placeOf_29 : decode cX9_placeOf 29 = .ok (.iinc 3 1, 3) := by decide +kernel
theorem dX9_placeOf_32 : decode cX9_placeOf 32 = .ok (.goto (-30), 3) := by decide +kernel
theorem dX9_placeOf_35 : decode cX9_placeOf 35 = .ok (.iconst (-1), 1) := by decide +kernel
theorem dX9_placeOf_36 : decode cX9_placeOf 36 = .ok (.ireturn, 1) := by decide +kernel
theorem dX9_putBack_0 : decode cX9_putBack 0 = .ok (.aload_n 0, 1) := by decide +kernel
theorem dX9_putBack_1 : decode cX9_putBack 1 = .ok (.getfield 19, 3) := by decide +kernel
theorem dX9_putBack_4 : decode cX9_putBack 4 = .ok (.iload_n 1, 1) := by decide +kernel
theorem dX9_putBack_5 : decode cX9_putBack 5 = .ok (.iaload, 1) := by decide +kernel
theorem dX9_putBack_6 : decode cX9_putBack 6 = .ok (.istore 4, 2) := by decide +kernel
theorem dX9_putBack_8 : decode cX9_putBack 8 = .ok (.iload 4, 2) := by decide +kernel
theorem dX9_putBack_10 : decode cX9_putBack 10 = .ok (.iload_n 2, 1) := by decide +kernel
theorem dX9_putBack_11 : decode cX9_putBack 11 = .ok (.if_icmp .le 35, 3) := by decide +kernel
theorem dX9_putBack_14 : decode cX9_putBack 14 = .ok (.aload_n 0, 1) := by decide +kernel
theorem dX9_putBack_15 : decode cX9_putBack 15 = .ok (.getfield 22, 3) := by decide +kernel
theorem dX9_putBack_18 : decode cX9_putBack 18 = .ok (.bipush 10, 2) := by decide +kernel
theorem dX9_putBack_20 : decode cX9_putBack 20 = .ok (.iload_n 1, 1) := by decide +kernel
theorem dX9_putBack_21 : decode cX9_putBack 21 = .ok (.imul, 1) := by decide +kernel
theorem dX9_putBack_22 : decode cX9_putBack 22 = .ok (.iload 4, 2) := by decide +kernel
theorem dX9_putBack_24 : decode cX9_putBack 24 = .ok (.iadd, 1) := by decide +kernel
theorem dX9_putBack_25 : decode cX9_putBack 25 = .ok (.aload_n 0, 1) := by decide +kernel
theorem dX9_putBack_26 : decode cX9_putBack 26 = .ok (.getfield 22, 3) := by decide +kernel
theorem dX9_putBack_29 : decode cX9_putBack 29 = .ok (.bipush 10, 2) := by decide +kernel
theorem dX9_putBack_31 : decode cX9_putBack 31 = .ok (.iload_n 1, 1) := by decide +kernel
theorem dX9_putBack_32 : decode cX9_putBack 32 = .ok (.imul, 1) := by decide +kernel
theorem dX9_putBack_33 : decode cX9_putBack 33 = .ok (.iload 4, 2) := by decide +kernel
theorem dX9_putBack_35 : decode cX9_putBack 35 = .ok (.iadd, 1) := by decide +kernel
theorem dX9_putBack_36 : decode cX9_putBack 36 = .ok (.iconst 1, 1) := by decide +kernel
theorem dX9_putBack_37 : decode cX9_putBack 37 = .ok (.isub, 1) := by decide +kernel
theorem dX9_putBack_38 : decode cX9_putBack 38 = .ok (.iaload, 1) := by decide +kernel
theorem dX9_putBack_39 : decode cX9_putBack 39 = .ok (.iastore, 1) := by decide +kernel
theorem dX9_putBack_40 : decode cX9_putBack 40 = .ok (.iinc 4 (-1), 3) := by decide +kernel
theorem dX9_putBack_43 : decode cX9_putBack 43 = .ok (.goto (-35), 3) := by decide +kernel
theorem dX9_putBack_46 : decode cX9_putBack 46 = .ok (.aload_n 0, 1) := by decide +kernel
theorem dX9_putBack_47 : decode cX9_putBack 47 = .ok (.getfield 22, 3) := by decide +kernel
theorem dX9_putBack_50 : decode cX9_putBack 50 = .ok (.bipush 10, 2) := by decide +kernel
theorem dX9_putBack_52 : decode cX9_putBack 52 = .ok (.iload_n 1, 1) := by decide +kernel
theorem dX9_putBack_53 : decode cX9_putBack 53 = .ok (.imul, 1) := by decide +kernel
theorem dX9_putBack_54 : decode cX9_putBack 54 = .ok (.iload_n 2, 1) := by decide +kernel
theorem dX9_putBack_55 : decode cX9_putBack 55 = .ok (.iadd, 1) := by decide +kernel
theorem dX9_putBack_56 : decode cX9_putBack 56 = .ok (.iload_n 3, 1) := by decide +kernel
theorem dX9_putBack_57 : decode cX9_putBack 57 = .ok (.iastore, 1) := by decide +kernel
theorem dX9_putBack_58 : decode cX9_putBack 58 = .ok (.aload_n 0, 1) := by decide +kernel
theorem dX9_putBack_59 : decode cX9_putBack 59 = .ok (.getfield 19, 3) := by decide +kernel
theorem dX9_putBack_62 : decode cX9_putBack 62 = .ok (.iload_n 1, 1) := by decide +kernel
theorem dX9_putBack_63 : decode cX9_putBack 63 = .ok (.dup2, 1) := by decide +kernel
theorem dX9_putBack_64 : decode cX9_putBack 64 = .ok (.iaload, 1) := by decide +kernel
theorem dX9_putBack_65 : decode cX9_putBack 65 = .ok (.iconst 1, 1) := by decide +kernel
theorem dX9_putBack_66 : decode cX9_putBack 66 = .ok (.iadd, 1) := by decide +kernel
theorem dX9_putBack_67 : decode cX9_putBack 67 = .ok (.iastore, 1) := by decide +kernel
theorem dX9_putBack_68 : decode cX9_putBack 68 = .ok (.return_, 1) := by decide +kernel
theorem dX9_worth_0 : decode cX9_worth 0 = .ok (.aload_n 0, 1) := by decide +kernel
theorem dX9_worth_1 : decode cX9_worth 1 = .ok (.iload_n 1, 1) := by decide +kernel
theorem dX9_worth_2 : decode cX9_worth 2 = .ok (.invokevirtual 86, 3) := by decide +kernel
theorem dX9_worth_5 : decode cX9_worth 5 = .ok (.ifCond .eq 20, 3) := by decide +kernel
theorem dX9_worth_8 : decode cX9_worth 8 = .ok (.aload_n 0, 1) := by decide +kernel
theorem dX9_worth_9 : decode cX9_worth 9 = .ok (.iload_n 2, 1) := by decide +kernel
theorem dX9_worth_10 : decode cX9_worth 10 = .ok (.invokevirtual 82, 3) := by decide +kernel
theorem dX9_worth_13 : decode cX9_worth 13 = .ok (.ifCond .eq 12, 3) := by decide +kernel
theorem dX9_worth_16 : decode cX9_worth 16 = .ok (.aload_n 0, 1) := by decide +kernel
theorem dX9_worth_17 : decode cX9_worth 17 = .ok (.iload_n 1, 1) := by decide +kernel
theorem dX9_worth_18 : decode cX9_worth 18 = .ok (.iload_n 2, 1) := by decide +kernel
theorem dX9_worth_19 : decode cX9_worth 19 = .ok (.invokevirtual 180, 3) := by decide +kernel
theorem dX9_worth_22 : decode cX9_worth 22 = .ok (.goto 4, 3) := by decide +kernel
theorem dX9_worth_25 : decode cX9_worth 25 = .ok (.iconst (-1), 1) := by decide +kernel
theorem dX9_worth_26 : decode cX9_worth 26 = .ok (.istore_n 3, 1) := by decide +kernel
theorem dX9_worth_27 : decode cX9_worth 27 = .ok (.iload_n 3, 1) := by decide +kernel
theorem dX9_worth_28 : decode cX9_worth 28 = .ok (.iconst (-1), 1) := by decide +kernel
theorem dX9_worth_29 : decode cX9_worth 29 = .ok (.if_icmp .ne 6, 3) := by decide +kernel
theorem dX9_worth_32 : decode cX9_worth 32 = .ok (.ldc 121, 2) := by decide +kernel
theorem dX9_worth_34 : decode cX9_worth 34 = .ok (.ireturn, 1) := by decide +kernel
theorem dX9_worth_35 : decode cX9_worth 35 = .ok (.aload_n 0, 1) := by decide +kernel
theorem dX9_worth_36 : decode cX9_worth 36 = .ok (.iload_n 1, 1) := by decide +kernel
theorem dX9_worth_37 : decode cX9_worth 37 = .ok (.invokevirtual 177, 3) := by decide +kernel
theorem dX9_worth_40 : decode cX9_worth 40 = .ok (.istore 4, 2) := by decide +kernel
theorem dX9_worth_42 : decode cX9_worth 42 = .ok (.aload_n 0, 1) := by decide +kernel
theorem dX9_worth_43 : decode cX9_worth 43 = .ok (.iload_n 1, 1) := by decide +kernel
theorem dX9_worth_44 : decode cX9_worth 44 = .ok (.iload_n 3, 1) := by decide +kernel
theorem dX9_worth_45 : decode cX9_worth 45 = .ok (.invokevirtual 93, 3) := by decide +kernel
theorem dX9_worth_48 : decode cX9_worth 48 = .ok (.aload_n 0, 1) := by decide +kernel
theorem dX9_worth_49 : decode cX9_worth 49 = .ok (.iload_n 1, 1) := by decide +kernel
theorem dX9_worth_50 : decode cX9_worth 50 = .ok (.invokevirtual 177, 3) := by decide +kernel
theorem dX9_worth_53 : decode cX9_worth 53 = .ok (.istore 5, 2) := by decide +kernel
theorem dX9_worth_55 : decode cX9_worth 55 = .ok (.aload_n 0, 1) := by decide +kernel
theorem dX9_worth_56 : decode cX9_worth 56 = .ok (.iload_n 1, 1) := by decide +kernel
theorem dX9_worth_57 : decode cX9_worth 57 = .ok (.iload_n 3, 1) := by decide +kernel
theorem dX9_worth_58 : decode cX9_worth 58 = .ok (.iload_n 2, 1) := by decide +kernel
theorem dX9_worth_59 : decode cX9_worth 59 = .ok (.invokevirtual 183, 3) := by decide +kernel
theorem dX9_worth_62 : decode cX9_worth 62 = .ok (.iload 4, 2) := by decide +kernel
theorem dX9_worth_64 : decode cX9_worth 64 = .ok (.iload 5, 2) := by decide +kernel
theorem dX9_worth_66 : decode cX9_worth 66 = .ok (.isub, 1) := by decide +kernel
theorem dX9_worth_67 : decode cX9_worth 67 = .ok (.ireturn, 1) := by decide +kernel
theorem dX9_idle_0 : decode cX9_idle 0 = .ok (.aload_n 0, 1) := by decide +kernel
theorem dX9_idle_1 : decode cX9_idle 1 = .ok (.iload_n 1, 1) := by decide +kernel
theorem dX9_idle_2 : decode cX9_idle 2 = .ok (.invokevirtual 86, 3) := by decide +kernel
theorem dX9_idle_5 : decode cX9_idle 5 = .ok (.ifCond .eq 11, 3) := by decide +kernel
theorem dX9_idle_8 : decode cX9_idle 8 = .ok (.aload_n 0, 1) := by decide +kernel
theorem dX9_idle_9 : decode cX9_idle 9 = .ok (.iload_n 2, 1) := by decide +kernel
theorem dX9_idle_10 : decode cX9_idle 10 = .ok (.invokevirtual 82, 3) := by decide +kernel
theorem dX9_idle_13 : decode cX9_idle 13 = .ok (.ifCond .ne 6, 3) := by decide +kernel
theorem dX9_idle_16 : decode cX9_idle 16 = .ok (.bipush (-2), 2) := by decide +kernel
theorem dX9_idle_18 : decode cX9_idle 18 = .ok (.ireturn, 1) := by decide +kernel
theorem dX9_idle_19 : decode cX9_idle 19 = .ok (.aload_n 0, 1) := by decide +kernel
theorem dX9_idle_20 : decode cX9_idle 20 = .ok (.iload_n 1, 1) := by decide +kernel
theorem dX9_idle_21 : decode cX9_idle 21 = .ok (.iload_n 2, 1) := by decide +kernel
theorem dX9_idle_22 : decode cX9_idle 22 = .ok (.invokevirtual 180, 3) := by decide +kernel
theorem dX9_idle_25 : decode cX9_idle 25 = .ok (.istore_n 3, 1) := by decide +kernel
theorem dX9_idle_26 : decode cX9_idle 26 = .ok (.iload_n 3, 1) := by decide +kernel
theorem dX9_idle_27 : decode cX9_idle 27 = .ok (.iconst (-1), 1) := by decide +kernel
theorem dX9_idle_28 : decode cX9_idle 28 = .ok (.if_icmp .ne 6, 3) := by decide +kernel
theorem dX9_idle_31 : decode cX9_idle 31 = .ok (.bipush (-3), 2) := by decide +kernel
theorem dX9_idle_33 : decode cX9_idle 33 = .ok (.ireturn, 1) := by decide +kernel
theorem dX9_idle_34 : decode cX9_idle 34 = .ok (.iconst 0, 1) := by decide +kernel
theorem dX9_idle_35 : decode cX9_idle 35 = .ok (.istore 4, 2) := by decide +kernel
theorem dX9_idle_37 : decode cX9_idle 37 = .ok (.iload 4, 2) := by decide +kernel
theorem dX9_idle_39 : decode cX9_idle 39 = .ok (.aload_n 0, 1) := by decide +kernel
theorem dX9_idle_40 : decode cX9_idle 40 = .ok (.getfield 79, 3) := by decide +kernel
theorem dX9_idle_43 : decode cX9_idle 43 = .ok (.if_icmp .ge 23, 3) := by decide +kernel
theorem dX9_idle_46 : decode cX9_idle 46 = .ok (.aload_n 0, 1) := by decide +kernel
theorem dX9_idle_47 : decode cX9_idle 47 = .ok (.getfield 69, 3) := by decide +kernel
theorem dX9_idle_50 : decode cX9_idle 50 = .ok (.iload 4, 2) := by decide +kernel
theorem dX9_idle_52 : decode cX9_idle 52 = .ok (.aload_n 0, 1) := by decide +kernel
theorem dX9_idle_53 : decode cX9_idle 53 = .ok (.iload_n 1, 1) := by decide +kernel
theorem dX9_idle_54 : decode cX9_idle 54 = .ok (.iload 4, 2) := by decide +kernel
theorem dX9_idle_56 : decode cX9_idle 56 = .ok (.invokevirtual 122, 3) := by decide +kernel
theorem dX9_idle_59 : decode cX9_idle 59 = .ok (.iastore, 1) := by decide +kernel
theorem dX9_idle_60 : decode cX9_idle 60 = .ok (.iinc 4 1, 3) := by decide +kernel
theorem dX9_idle_63 : decode cX9_idle 63 = .ok (.goto (-26), 3) := by decide +kernel
theorem dX9_idle_66 : decode cX9_idle 66 = .ok (.aload_n 0, 1) := by decide +kernel
theorem dX9_idle_67 : decode cX9_idle 67 = .ok (.iload_n 1, 1) := by decide +kernel
theorem dX9_idle_68 : decode cX9_idle 68 = .ok (.iload_n 3, 1) := by decide +kernel
theorem dX9_idle_69 : decode cX9_idle 69 = .ok (.invokevirtual 93, 3) := by decide +kernel
theorem dX9_idle_72 : decode cX9_idle 72 = .ok (.iconst 1, 1) := by decide +kernel
theorem dX9_idle_73 : decode cX9_idle 73 = .ok (.istore 4, 2) := by decide +kernel
theorem dX9_idle_75 : decode cX9_idle 75 = .ok (.iconst 0, 1) := by decide +kernel
theorem dX9_idle_76 : decode cX9_idle 76 = .ok (.istore 5, 2) := by decide +kernel
theorem dX9_idle_78 : decode cX9_idle 78 = .ok (.iload 5, 2) := by decide +kernel
theorem dX9_idle_80 : decode cX9_idle 80 = .ok (.aload_n 0, 1) := by decide +kernel
theorem dX9_idle_81 : decode cX9_idle 81 = .ok (.getfield 79, 3) := by decide +kernel
theorem dX9_idle_84 : decode cX9_idle 84 = .ok (.if_icmp .ge 38, 3) := by decide +kernel
theorem dX9_idle_87 : decode cX9_idle 87 = .ok (.iload 4, 2) := by decide +kernel
theorem dX9_idle_89 : decode cX9_idle 89 = .ok (.ifCond .eq 24, 3) := by decide +kernel
theorem dX9_idle_92 : decode cX9_idle 92 = .ok (.aload_n 0, 1) := by decide +kernel
theorem dX9_idle_93 : decode cX9_idle 93 = .ok (.getfield 69, 3) := by decide +kernel
theorem dX9_idle_96 : decode cX9_idle 96 = .ok (.iload 5, 2) := by decide +kernel
theorem dX9_idle_98 : decode cX9_idle 98 = .ok (.iaload, 1) := by decide +kernel
theorem dX9_idle_99 : decode cX9_idle 99 = .ok (.aload_n 0, 1) := by decide +kernel
theorem dX9_idle_100 : decode cX9_idle 100 = .ok (.iload_n 1, 1) := by decide +kernel
theorem dX9_idle_101 : decode cX9_idle 101 = .ok (.iload 5, 2) := by decide +kernel
theorem dX9_idle_103 : decode cX9_idle 103 = .ok (.invokevirtual 122, 3) := by decide +kernel
theorem dX9_idle_106 : decode cX9_idle 106 = .ok (.if_icmp .ne 7, 3) := by decide +kernel
theorem dX9_idle_109 : decode cX9_idle 109 = .ok (.iconst 1, 1) := by decide +kernel
theorem dX9_idle_110 : decode cX9_idle 110 = .ok (.goto 4, 3) := by decide +kernel
theorem dX9_idle_113 : decode cX9_idle 113 = .ok (.iconst 0, 1) := by decide +kernel
theorem dX9_idle_114 : decode cX9_idle 114 = .ok (.istore 4, 2) := by decide +kernel
theorem dX9_idle_116 : decode cX9_idle 116 = .ok (.iinc 5 1, 3) := by decide +kernel
theorem dX9_idle_119 : decode cX9_idle 119 = .ok (.goto (-41), 3) := by decide +kernel
theorem dX9_idle_122 : decode cX9_idle 122 = .ok (.aload_n 0, 1) := by decide +kernel
theorem dX9_idle_123 : decode cX9_idle 123 = .ok (.iload_n 1, 1) := by decide +kernel
theorem dX9_idle_124 : decode cX9_idle 124 = .ok (.iload_n 3, 1) := by decide +kernel
theorem dX9_idle_125 : decode cX9_idle 125 = .ok (.iload_n 2, 1) := by decide +kernel
theorem dX9_idle_126 : decode cX9_idle 126 = .ok (.invokevirtual 183, 3) := by decide +kernel
theorem dX9_idle_129 : decode cX9_idle 129 = .ok (.iload 4, 2) := by decide +kernel
theorem dX9_idle_131 : decode cX9_idle 131 = .ok (.ifCond .eq 7, 3) := by decide +kernel
theorem dX9_idle_134 : decode cX9_idle 134 = .ok (.iconst 1, 1) := by decide +kernel
theorem dX9_idle_135 : decode cX9_idle 135 = .ok (.goto 4, 3) := by decide +kernel
theorem dX9_idle_138 : decode cX9_idle 138 = .ok (.iconst 0, 1) := by decide +kernel
theorem dX9_idle_139 : decode cX9_idle 139 = .ok (.ireturn, 1) := by decide +kernel
theorem dX9_isRemedied_0 : decode cX9_isRemedied 0 = .ok (.aload_n 0, 1) := by decide +kernel
theorem dX9_isRemedied_1 : decode cX9_isRemedied 1 = .ok (.invokevirtual 174, 3) := by decide +kernel
theorem dX9_isRemedied_4 : decode cX9_isRemedied 4 = .ok (.iconst 1, 1) := by decide +kernel
theorem dX9_isRemedied_5 : decode cX9_isRemedied 5 = .ok (.istore_n 3, 1) := by decide +kernel
theorem dX9_isRemedied_6 : decode cX9_isRemedied 6 = .ok (.iconst 0, 1) := by decide +kernel
theorem dX9_isRemedied_7 : decode cX9_isRemedied 7 = .ok (.istore 4, 2) := by decide +kernel
theorem dX9_isRemedied_9 : decode cX9_isRemedied 9 = .ok (.iload 4, 2) := by decide +kernel
theorem dX9_isRemedied_11 : decode cX9_isRemedied 11 = .ok (.aload_n 0, 1) := by decide +kernel
theorem dX9_isRemedied_12 : decode cX9_isRemedied 12 = .ok (.getfield 79, 3) := by decide +kernel
theorem dX9_isRemedied_15 : decode cX9_isRemedied 15 = .ok (.if_icmp .ge 43, 3) := by decide +kernel
theorem dX9_isRemedied_18 : decode cX9_isRemedied 18 = .ok (.iload_n 3, 1) := by decide +kernel
theorem dX9_isRemedied_19 : decode cX9_isRemedied 19 = .ok (.ifCond .eq 31, 3) := by decide +kernel
theorem dX9_isRemedied_22 : decode cX9_isRemedied 22 = .ok (.aload_n 0, 1) := by decide +kernel
theorem dX9_isRemedied_23 : decode cX9_isRemedied 23 = .ok (.getfield 63, 3) := by decide +kernel
theorem dX9_isRemedied_26 : decode cX9_isRemedied 26 = .ok (.iload 4, 2) := by decide +kernel
theorem dX9_isRemedied_28 : decode cX9_isRemedied 28 = .ok (.laload, 1) := by decide +kernel
theorem dX9_isRemedied_29 : decode cX9_isRemedied 29 = .ok (.iload_n 2, 1) := by decide +kernel
theorem dX9_isRemedied_30 : decode cX9_isRemedied 30 = .ok (.i2l, 1) := by decide +kernel
theorem dX9_isRemedied_31 : decode cX9_isRemedied 31 = .ok (.lmul, 1) := by decide +kernel
theorem dX9_isRemedied_32 : decode cX9_isRemedied 32 = .ok (.iload_n 1, 1) := by decide +kernel
theorem dX9_isRemedied_33 : decode cX9_isRemedied 33 = .ok (.i2l, 1) := by decide +kernel
theorem dX9_isRemedied_34 : decode cX9_isRemedied 34 = .ok (.aload_n 0, 1) := by decide +kernel
theorem dX9_isRemedied_35 : decode cX9_isRemedied 35 = .ok (.getfield 66, 3) := by decide +kernel
theorem dX9_isRemedied_38 : decode cX9_isRemedied 38 = .ok (.iload 4, 2) := by decide +kernel
theorem dX9_isRemedied_40 : decode cX9_isRemedied 40 = .ok (.laload, 1) := by decide +kernel
theorem dX9_isRemedied_41 : decode cX9_isRemedied 41 = .ok (.lmul, 1) := by decide +kernel
theorem dX9_isRemedied_42 : decode cX9_isRemedied 42 = .ok (.lcmp, 1) := by decide +kernel
theorem dX9_isRemedied_43 : decode cX9_isRemedied 43 = .ok (.ifCond .gt 7, 3) := by decide +kernel
theorem dX9_isRemedied_46 : decode cX9_isRemedied 46 = .ok (.iconst 1, 1) := by decide +kernel
theorem dX9_isRemedied_47 : decode cX9_isRemedied 47 = .ok (.goto 4, 3) := by decide +kernel
theorem dX9_isRemedied_50 : decode cX9_isRemedied 50 = .ok (.iconst 0, 1) := by decide +kernel
theorem dX9_isRemedied_51 : decode cX9_isRemedied 51 = .ok (.istore_n 3, 1) := by decide +kernel
theorem dX9_isRemedied_52 : decode cX9_isRemedied 52 = .ok (.iinc 4 1, 3) := by decide +kernel
theorem dX9_isRemedied_55 : decode cX9_isRemedied 55 = .ok (.goto (-46), 3) := by decide +kernel
theorem dX9_isRemedied_58 : decode cX9_isRemedied 58 = .ok (.iload_n 3, 1) := by decide +kernel
theorem dX9_isRemedied_59 : decode cX9_isRemedied 59 = .ok (.ireturn, 1) := by decide +kernel
theorem dX9_remedy_0 : decode cX9_remedy 0 = .ok (.iload_n 2, 1) := by decide +kernel
theorem dX9_remedy_1 : decode cX9_remedy 1 = .ok (.iconst 1, 1) := by decide +kernel
theorem dX9_remedy_2 : decode cX9_remedy 2 = .ok (.bipush 20, 2) := by decide +kernel
theorem dX9_remedy_4 : decode cX9_remedy 4 = .ok (.invokestatic 75, 3) := by decide +kernel
theorem dX9_remedy_7 : decode cX9_remedy 7 = .ok (.ifCond .eq 12, 3) := by decide +kernel
theorem dX9_remedy_10 : decode cX9_remedy 10 = .ok (.iload_n 1, 1) := by decide +kernel
theorem dX9_remedy_11 : decode cX9_remedy 11 = .ok (.iconst 1, 1) := by decide +kernel
theorem dX9_remedy_12 : decode cX9_remedy 12 = .ok (.iload_n 2, 1) := by decide +kernel
theorem dX9_remedy_13 : decode cX9_remedy 13 = .ok (.invokestatic 75, 3) := by decide +kernel
theorem dX9_remedy_16 : decode cX9_remedy 16 = .ok (.ifCond .ne 6, 3) := by decide +kernel
theorem dX9_remedy_19 : decode cX9_remedy 19 = .ok (.bipush (-2), 2) := by decide +kernel
theorem dX9_remedy_21 : decode cX9_remedy 21 = .ok (.ireturn, 1) := by decide +kernel
theorem dX9_remedy_22 : decode cX9_remedy 22 = .ok (.aload_n 0, 1) := by decide +kernel
theorem dX9_remedy_23 : decode cX9_remedy 23 = .ok (.getfield 79, 3) := by decide +kernel
theorem dX9_remedy_26 : decode cX9_remedy 26 = .ok (.ifCond .ne 6, 3) := by decide +kernel
theorem dX9_remedy_29 : decode cX9_remedy 29 = .ok (.bipush (-3), 2) := by decide +kernel
theorem dX9_remedy_31 : decode cX9_remedy 31 = .ok (.ireturn, 1) := by decide +kernel
theorem dX9_remedy_32 : decode cX9_remedy 32 = .ok (.iconst 1, 1) := by decide +kernel
theorem dX9_remedy_33 : decode cX9_remedy 33 = .ok (.istore_n 3, 1) := by decide +kernel
theorem dX9_remedy_34 : decode cX9_remedy 34 = .ok (.iload_n 3, 1) := by decide +kernel
theorem dX9_remedy_35 : decode cX9_remedy 35 = .ok (.bipush 9, 2) := by decide +kernel
theorem dX9_remedy_37 : decode cX9_remedy 37 = .ok (.if_icmp .gt 120, 3) := by decide +kernel
theorem dX9_remedy_40 : decode cX9_remedy 40 = .ok (.iconst 0, 1) := by decide +kernel
theorem dX9_remedy_41 : decode cX9_remedy 41 = .ok (.istore 4, 2) := by decide +kernel
theorem dX9_remedy_43 : decode cX9_remedy 43 = .ok (.iload 4, 2) := by decide +kernel
theorem dX9_remedy_45 : decode cX9_remedy 45 = .ok (.aload_n 0, 1) := by decide +kernel
theorem dX9_remedy_46 : decode cX9_remedy 46 = .ok (.getfield 72, 3) := by decide +kernel
theorem dX9_remedy_49 : decode cX9_remedy 49 = .ok (.if_icmp .ge 102, 3) := by decide +kernel
theorem dX9_remedy_52 : decode cX9_remedy 52 = .ok (.iconst 0, 1) := by decide +kernel
theorem dX9_remedy_53 : decode cX9_remedy 53 = .ok (.istore 5, 2) := by decide +kernel
theorem dX9_remedy_55 : decode cX9_remedy 55 = .ok (.iload 5, 2) := by decide +kernel
theorem dX9_remedy_57 : decode cX9_remedy 57 = .ok (.iconst 2, 1) := by decide +kernel
theorem dX9_remedy_58 : decode cX9_remedy 58 = .ok (.if_icmp .ge 87, 3) := by decide +kernel
theorem dX9_remedy_61 : decode cX9_remedy 61 = .ok (.aload_n 0, 1) := by decide +kernel
theorem dX9_remedy_62 : decode cX9_remedy 62 = .ok (.getfield 16, 3) := by decide +kernel
theorem dX9_remedy_65 : decode cX9_remedy 65 = .ok (.iload 4, 2) := by decide +kernel
theorem dX9_remedy_67 : decode cX9_remedy 67 = .ok (.iaload, 1) := by decide +kernel
theorem dX9_remedy_68 : decode cX9_remedy 68 = .ok (.istore 6, 2) := by decide +kernel
theorem dX9_remedy_70 : decode cX9_remedy 70 = .ok (.iload 5, 2) := by decide +kernel
theorem dX9_remedy_72 : decode cX9_remedy 72 = .ok (.ifCond .ne 10, 3) := by decide +kernel
theorem dX9_remedy_75 : decode cX9_remedy 75 = .ok (.iload 6, 2) := by decide +kernel
theorem dX9_remedy_77 : decode cX9_remedy 77 = .ok (.iload_n 3, 1) := by decide +kernel
theorem dX9_remedy_78 : decode cX9_remedy 78 = .ok (.isub, 1) := by decide +kernel
theorem dX9_remedy_79 : decode cX9_remedy 79 = .ok (.goto 7, 3) := by decide +kernel
theorem dX9_remedy_82 : decode cX9_remedy 82 = .ok (.iload 6, 2) := by decide +kernel
theorem dX9_remedy_84 : decode cX9_remedy 84 = .ok (.iload_n 3, 1) := by decide +kernel
theorem dX9_remedy_85 : decode cX9_remedy 85 = .ok (.iadd, 1) := by decide +kernel
theorem dX9_remedy_86 : decode cX9_remedy 86 = .ok (.istore 7, 2) := by decide +kernel
theorem dX9_remedy_88 : decode cX9_remedy 88 = .ok (.iload 7, 2) := by decide +kernel
theorem dX9_remedy_90 : decode cX9_remedy 90 = .ok (.iconst 0, 1) := by decide +kernel
theorem dX9_remedy_91 : decode cX9_remedy 91 = .ok (.bipush 9, 2) := by decide +kernel
theorem dX9_remedy_93 : decode cX9_remedy 93 = .ok (.invokestatic 75, 3) := by decide +kernel
theorem dX9_remedy_96 : decode cX9_remedy 96 = .ok (.ifCond .eq 43, 3) := by decide +kernel
theorem dX9_remedy_99 : decode cX9_remedy 99 = .ok (.aload_n 0, 1) := by decide +kernel
theorem dX9_remedy_100 : decode cX9_remedy 100 = .ok (.getfield 16, 3) := by decide +kernel
theorem dX9_remedy_103 : decode cX9_remedy 103 = .ok (.iload 4, 2) := by decide +kernel
theorem dX9_remedy_105 : decode cX9_remedy 105 = .ok (.iload 7, 2) := by decide +kernel
theorem dX9_remedy_107 : decode cX9_remedy 107 = .ok (.iastore, 1) := by decide +kernel
theorem dX9_remedy_108 : decode cX9_remedy 108 = .ok (.aload_n 0, 1) := by decide +kernel
theorem dX9_remedy_109 : decode cX9_remedy 109 = .ok (.iload_n 1, 1) := by decide +kernel
theorem dX9_remedy_110 : decode cX9_remedy 110 = .ok (.iload_n 2, 1) := by decide +kernel
theorem dX9_remedy_111 : decode cX9_remedy 111 = .ok (.invokevirtual 186, 3) := by decide +kernel
theorem dX9_remedy_114 : decode cX9_remedy 114 = .ok (.istore 8, 2) := by decide +kernel
theorem dX9_remedy_116 : decode cX9_remedy 116 = .ok (.aload_n 0, 1) := by decide +kernel
theorem dX9_remedy_117 : decode cX9_remedy 117 = .ok (.getfield 16, 3) := by decide +kernel
theorem dX9_remedy_120 : decode cX9_remedy 120 = .ok (.iload 4, 2) := by decide +kernel
theorem dX9_remedy_122 : decode cX9_remedy 122 = .ok (.iload 6, 2) := by decide +kernel
theorem dX9_remedy_124 : decode cX9_remedy 124 = .ok (.iastore, 1) := by decide +kernel
theorem dX9_remedy_125 : decode cX9_remedy 125 = .ok (.iload 8, 2) := by decide +kernel
theorem dX9_remedy_127 : decode cX9_remedy 127 = .ok (.ifCond .eq 12, 3) := by decide +kernel
theorem dX9_remedy_130 : decode cX9_remedy 130 = .ok (.bipush 10, 2) := by decide +kernel
theorem dX9_remedy_132 : decode cX9_remedy 132 = .ok (.iload 4, 2) := by decide +kernel
theorem dX9_remedy_134 : decode cX9_remedy 134 = .ok (.imul, 1) := by decide +kernel
theorem dX9_remedy_135 : decode cX9_remedy 135 = .ok (.iload 7, 2) := by decide +kernel
theorem dX9_remedy_137 : decode cX9_remedy 137 = .ok (.iadd, 1) := by decide +kernel
theorem dX9_remedy_138 : decode cX9_remedy 138 = .ok (.ireturn, 1) := by decide +kernel
theorem dX9_remedy_139 : decode cX9_remedy 139 = .ok (.iinc 5 1, 3) := by decide +kernel
theorem dX9_remedy_142 : decode cX9_remedy 142 = .ok (.goto (-87), 3) := by decide +kernel
theorem dX9_remedy_145 : decode cX9_remedy 145 = .ok (.iinc 4 1, 3) := by decide +kernel
theorem dX9_remedy_148 : decode cX9_remedy 148 = .ok (.goto (-105), 3) := by decide +kernel
theorem dX9_remedy_151 : decode cX9_remedy 151 = .ok (.iinc 3 1, 3) := by decide +kernel
theorem dX9_remedy_154 : decode cX9_remedy 154 = .ok (.goto (-120), 3) := by decide +kernel
theorem dX9_remedy_157 : decode cX9_remedy 157 = .ok (.iconst (-1), 1) := by decide +kernel
theorem dX9_remedy_158 : decode cX9_remedy 158 = .ok (.ireturn, 1) := by decide +kernel
theorem dX9_count_0 : decode cX9_count 0 = .ok (.iconst 0, 1) := by decide +kernel
theorem dX9_count_1 : decode cX9_count 1 = .ok (.istore_n 2, 1) := by decide +kernel
theorem dX9_count_2 : decode cX9_count 2 = .ok (.iload_n 1, 1) := by decide +kernel
theorem dX9_count_3 : decode cX9_count 3 = .ok (.tableswitch 71 0 3 #[29, 34, 39, 66], 29) := by decide +kernel
theorem dX9_count_32 : decode cX9_count 32 = .ok (.aload_n 0, 1) := by decide +kernel
theorem dX9_count_33 : decode cX9_count 33 = .ok (.getfield 72, 3) := by decide +kernel
theorem dX9_count_36 : decode cX9_count 36 = .ok (.ireturn, 1) := by decide +kernel
theorem dX9_count_37 : decode cX9_count 37 = .ok (.aload_n 0, 1) := by decide +kernel
theorem dX9_count_38 : decode cX9_count 38 = .ok (.getfield 79, 3) := by decide +kernel
theorem dX9_count_41 : decode cX9_count 41 = .ok (.ireturn, 1) := by decide +kernel
theorem dX9_count_42 : decode cX9_count 42 = .ok (.iconst 0, 1) := by decide +kernel
theorem dX9_count_43 : decode cX9_count 43 = .ok (.istore_n 3, 1) := by decide +kernel
theorem dX9_count_44 : decode cX9_count 44 = .ok (.iload_n 3, 1) := by decide +kernel
theorem dX9_count_45 : decode cX9_count 45 = .ok (.aload_n 0, 1) := by decide +kernel
theorem dX9_count_46 : decode cX9_count 46 = .ok (.getfield 79, 3) := by decide +kernel
theorem dX9_count_49 : decode cX9_count 49 = .ok (.if_icmp .ge 18, 3) := by decide +kernel
theorem dX9_count_52 : decode cX9_count 52 = .ok (.iload_n 2, 1) := by decide +kernel
theorem dX9_count_53 : decode cX9_count 53 = .ok (.aload_n 0, 1) := by decide +kernel
theorem dX9_count_54 : decode cX9_count 54 = .ok (.getfield 19, 3) := by decide +kernel
theorem dX9_count_57 : decode cX9_count 57 = .ok (.iload_n 3, 1) := by decide +kernel
theorem dX9_count_58 : decode cX9_count 58 = .ok (.iaload, 1) := by decide +kernel
theorem dX9_count_59 : decode cX9_count 59 = .ok (.iadd, 1) := by decide +kernel
theorem dX9_count_60 : decode cX9_count 60 = .ok (.istore_n 2, 1) := by decide +kernel
theorem dX9_count_61 : decode cX9_count 61 = .ok (.iinc 3 1, 3) := by decide +kernel
theorem dX9_count_64 : decode cX9_count 64 = .ok (.goto (-20), 3) := by decide +kernel
theorem dX9_count_67 : decode cX9_count 67 = .ok (.iload_n 2, 1) := by decide +kernel
theorem dX9_count_68 : decode cX9_count 68 = .ok (.ireturn, 1) := by decide +kernel
theorem dX9_count_69 : decode cX9_count 69 = .ok (.aload_n 0, 1) := by decide +kernel
theorem dX9_count_70 : decode cX9_count 70 = .ok (.getfield 25, 3) := by decide +kernel
theorem dX9_count_73 : decode cX9_count 73 = .ok (.ireturn, 1) := by decide +kernel
theorem dX9_count_74 : decode cX9_count 74 = .ok (.bipush (-2), 2) := by decide +kernel
theorem dX9_count_76 : decode cX9_count 76 = .ok (.ireturn, 1) := by decide +kernel
