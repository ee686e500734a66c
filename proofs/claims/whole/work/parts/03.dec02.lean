theorem dX9_keep_50 : decode cX9_keep 50 = .ok (.istore_n 1, 1) := by decide +kernel
theorem dX9_keep_51 : decode cX9_keep 51 = .ok (.iload_n 1, 1) := by decide +kernel
theorem dX9_keep_52 : decode cX9_keep 52 = .ok (.bipush 103, 2) := by decide +kernel
theorem dX9_keep_54 : decode cX9_keep 54 = .ok (.if_icmp .ge 29, 3) := by decide +kernel
theorem dX9_keep_57 : decode cX9_keep 57 = .ok (.aload_n 0, 1) := by decide +kernel
theorem dX9_keep_58 : decode cX9_keep 58 = .ok (.getfield 13, 3) := by decide +kernel
theorem dX9_keep_61 : decode cX9_keep 61 = .ok (.bipush 103, 2) := by decide +kernel
theorem dX9_keep_63 : decode cX9_keep 63 = .ok (.aload_n 0, 1) := by decide +kernel
theorem dX9_keep_64 : decode cX9_keep 64 = .ok (.getfield 65, 3) := by decide +kernel
theorem dX9_keep_67 : decode cX9_keep 67 = .ok (.imul, 1) := by decide +kernel
theorem dX9_keep_68 : decode cX9_keep 68 = .ok (.iload_n 1, 1) := by decide +kernel
theorem dX9_keep_69 : decode cX9_keep 69 = .ok (.iadd, 1) := by decide +kernel
theorem dX9_keep_70 : decode cX9_keep 70 = .ok (.aload_n 0, 1) := by decide +kernel
theorem dX9_keep_71 : decode cX9_keep 71 = .ok (.getfield 7, 3) := by decide +kernel
theorem dX9_keep_74 : decode cX9_keep 74 = .ok (.iload_n 1, 1) := by decide +kernel
theorem dX9_keep_75 : decode cX9_keep 75 = .ok (.iaload, 1) := by decide +kernel
theorem dX9_keep_76 : decode cX9_keep 76 = .ok (.iastore, 1) := by decide +kernel
theorem dX9_keep_77 : decode cX9_keep 77 = .ok (.iinc 1 1, 3) := by decide +kernel
theorem dX9_keep_80 : decode cX9_keep 80 = .ok (.goto (-29), 3) := by decide +kernel
theorem dX9_keep_83 : decode cX9_keep 83 = .ok (.aload_n 0, 1) := by decide +kernel
theorem dX9_keep_84 : decode cX9_keep 84 = .ok (.dup, 1) := by decide +kernel
theorem dX9_keep_85 : decode cX9_keep 85 = .ok (.getfield 65, 3) := by decide +kernel
theorem dX9_keep_88 : decode cX9_keep 88 = .ok (.iconst 1, 1) := by decide +kernel
theorem dX9_keep_89 : decode cX9_keep 89 = .ok (.iadd, 1) := by decide +kernel
theorem dX9_keep_90 : decode cX9_keep 90 = .ok (.putfield 65, 3) := by decide +kernel
theorem dX9_keep_93 : decode cX9_keep 93 = .ok (.return_, 1) := by decide +kernel
theorem dX9_begins_0 : decode cX9_begins 0 = .ok (.aload_n 0, 1) := by decide +kernel
theorem dX9_begins_1 : decode cX9_begins 1 = .ok (.iconst 0, 1) := by decide +kernel
theorem dX9_begins_2 : decode cX9_begins 2 = .ok (.putfield 69, 3) := by decide +kernel
theorem dX9_begins_5 : decode cX9_begins 5 = .ok (.aload_n 0, 1) := by decide +kernel
theorem dX9_begins_6 : decode cX9_begins 6 = .ok (.iload_n 1, 1) := by decide +kernel
theorem dX9_begins_7 : decode cX9_begins 7 = .ok (.putfield 72, 3) := by decide +kernel
theorem dX9_begins_10 : decode cX9_begins 10 = .ok (.aload_n 0, 1) := by decide +kernel
theorem dX9_begins_11 : decode cX9_begins 11 = .ok (.iload_n 2, 1) := by decide +kernel
theorem dX9_begins_12 : decode cX9_begins 12 = .ok (.putfield 75, 3) := by decide +kernel
theorem dX9_begins_15 : decode cX9_begins 15 = .ok (.iconst 0, 1) := by decide +kernel
theorem dX9_begins_16 : decode cX9_begins 16 = .ok (.istore_n 3, 1) := by decide +kernel
theorem dX9_begins_17 : decode cX9_begins 17 = .ok (.iload_n 3, 1) := by decide +kernel
theorem dX9_begins_18 : decode cX9_begins 18 = .ok (.bipush 127, 2) := by decide +kernel
theorem dX9_begins_20 : decode cX9_begins 20 = .ok (.if_icmp .ge 38, 3) := by decide +kernel
theorem dX9_begins_23 : decode cX9_begins 23 = .ok (.aload_n 0, 1) := by decide +kernel
theorem dX9_begins_24 : decode cX9_begins 24 = .ok (.getfield 22, 3) := by decide +kernel
theorem dX9_begins_27 : decode cX9_begins 27 = .ok (.iload_n 3, 1) := by decide +kernel
theorem dX9_begins_28 : decode cX9_begins 28 = .ok (.iconst 0, 1) := by decide +kernel
theorem dX9_begins_29 : decode cX9_begins 29 = .ok (.iastore, 1) := by decide +kernel
theorem dX9_begins_30 : decode cX9_begins 30 = .ok (.aload_n 0, 1) := by decide +kernel
theorem dX9_begins_31 : decode cX9_begins 31 = .ok (.getfield 25, 3) := by decide +kernel
theorem dX9_begins_34 : decode cX9_begins 34 = .ok (.iload_n 3, 1) := by decide +kernel
theorem dX9_begins_35 : decode cX9_begins 35 = .ok (.iconst 0, 1) := by decide +kernel
theorem dX9_begins_36 : decode cX9_begins 36 = .ok (.iastore, 1) := by decide +kernel
theorem dX9_begins_37 : decode cX9_begins 37 = .ok (.aload_n 0, 1) := by decide +kernel
theorem dX9_begins_38 : decode cX9_begins 38 = .ok (.getfield 28, 3) := by decide +kernel
theorem dX9_begins_41 : decode cX9_begins 41 = .ok (.iload_n 3, 1) := by decide +kernel
theorem dX9_begins_42 : decode cX9_begins 42 = .ok (.ldc 78, 2) := by decide +kernel
theorem dX9_begins_44 : decode cX9_begins 44 = .ok (.iastore, 1) := by decide +kernel
theorem dX9_begins_45 : decode cX9_begins 45 = .ok (.aload_n 0, 1) := by decide +kernel
theorem dX9_begins_46 : decode cX9_begins 46 = .ok (.getfield 31, 3) := by decide +kernel
theorem dX9_begins_49 : decode cX9_begins 49 = .ok (.iload_n 3, 1) := by decide +kernel
theorem dX9_begins_50 : decode cX9_begins 50 = .ok (.iconst 0, 1) := by decide +kernel
theorem dX9_begins_51 : decode cX9_begins 51 = .ok (.iastore, 1) := by decide +kernel
theorem dX9_begins_52 : decode cX9_begins 52 = .ok (.iinc 3 1, 3) := by decide +kernel
theorem dX9_begins_55 : decode cX9_begins 55 = .ok (.goto (-38), 3) := by decide +kernel
theorem dX9_begins_58 : decode cX9_begins 58 = .ok (.return_, 1) := by decide +kernel
theorem dX9_held_0 : decode cX9_held 0 = .ok (.lload_n 0, 1) := by decide +kernel
theorem dX9_held_1 : decode cX9_held 1 = .ok (.lconst 1, 1) := by decide +kernel
theorem dX9_held_2 : decode cX9_held 2 = .ok (.lcmp, 1) := by decide +kernel
theorem dX9_held_3 : decode cX9_held 3 = .ok (.ifCond .ge 7, 3) := by decide +kernel
theorem dX9_held_6 : decode cX9_held 6 = .ok (.iconst 1, 1) := by decide +kernel
theorem dX9_held_7 : decode cX9_held 7 = .ok (.goto 18, 3) := by decide +kernel
theorem dX9_held_10 : decode cX9_held 10 = .ok (.lload_n 0, 1) := by decide +kernel
theorem dX9_held_11 : decode cX9_held 11 = .ok (.ldc2_w 79, 3) := by decide +kernel
theorem dX9_held_14 : decode cX9_held 14 = .ok (.lcmp, 1) := by decide +kernel
theorem dX9_held_15 : decode cX9_held 15 = .ok (.ifCond .le 8, 3) := by decide +kernel
theorem dX9_held_18 : decode cX9_held 18 = .ok (.ldc 81, 2) := by decide +kernel
theorem dX9_held_20 : decode cX9_held 20 = .ok (.goto 5, 3) := by decide +kernel
theorem dX9_held_23 : decode cX9_held 23 = .ok (.lload_n 0, 1) := by decide +kernel
theorem dX9_held_24 : decode cX9_held 24 = .ok (.l2i, 1) := by decide +kernel
theorem dX9_held_25 : decode cX9_held 25 = .ok (.ireturn, 1) := by decide +kernel
theorem dX9_ownOf_0 : decode cX9_ownOf 0 = .ok (.aload_n 0, 1) := by decide +kernel
theorem dX9_ownOf_1 : decode cX9_ownOf 1 = .ok (.getfield 75, 3) := by decide +kernel
theorem dX9_ownOf_4 : decode cX9_ownOf 4 = .ok (.iconst 3, 1) := by decide +kernel
theorem dX9_ownOf_5 : decode cX9_ownOf 5 = .ok (.if_icmp .ne 14, 3) := by decide +kernel
theorem dX9_ownOf_8 : decode cX9_ownOf 8 = .ok (.aload_n 0, 1) := by decide +kernel
theorem dX9_ownOf_9 : decode cX9_ownOf 9 = .ok (.getfield 22, 3) := by decide +kernel
theorem dX9_ownOf_12 : decode cX9_ownOf 12 = .ok (.iload_n 1, 1) := by decide +kernel
theorem dX9_ownOf_13 : decode cX9_ownOf 13 = .ok (.iaload, 1) := by decide +kernel
theorem dX9_ownOf_14 : decode cX9_ownOf 14 = .ok (.iconst 2, 1) := by decide +kernel
theorem dX9_ownOf_15 : decode cX9_ownOf 15 = .ok (.idiv, 1) := by decide +kernel
theorem dX9_ownOf_16 : decode cX9_ownOf 16 = .ok (.goto 9, 3) := by decide +kernel
theorem dX9_ownOf_19 : decode cX9_ownOf 19 = .ok (.aload_n 0, 1) := by decide +kernel
theorem dX9_ownOf_20 : decode cX9_ownOf 20 = .ok (.getfield 22, 3) := by decide +kernel
theorem dX9_ownOf_23 : decode cX9_ownOf 23 = .ok (.iload_n 1, 1) := by decide +kernel
theorem dX9_ownOf_24 : decode cX9_ownOf 24 = .ok (.iaload, 1) := by decide +kernel
theorem dX9_ownOf_25 : decode cX9_ownOf 25 = .ok (.istore_n 2, 1) := by decide +kernel
theorem dX9_ownOf_26 : decode cX9_ownOf 26 = .ok (.aload_n 0, 1) := by decide +kernel
theorem dX9_ownOf_27 : decode cX9_ownOf 27 = .ok (.getfield 75, 3) := by decide +kernel
theorem dX9_ownOf_30 : decode cX9_ownOf 30 = .ok (.iconst 3, 1) := by decide +kernel
theorem dX9_ownOf_31 : decode cX9_ownOf 31 = .ok (.if_icmp .ne 14, 3) := by decide +kernel
theorem dX9_ownOf_34 : decode cX9_ownOf 34 = .ok (.aload_n 0, 1) := by decide +kernel
theorem dX9_ownOf_35 : decode cX9_ownOf 35 = .ok (.getfield 25, 3) := by decide +kernel
theorem dX9_ownOf_38 : decode cX9_ownOf 38 = .ok (.iload_n 1, 1) := by decide +kernel
theorem dX9_ownOf_39 : decode cX9_ownOf 39 = .ok (.iaload, 1) := by decide +kernel
theorem dX9_ownOf_40 : decode cX9_ownOf 40 = .ok (.iconst 2, 1) := by decide +kernel
theorem dX9_ownOf_41 : decode cX9_ownOf 41 = .ok (.idiv, 1) := by decide +kernel
theorem dX9_ownOf_42 : decode cX9_ownOf 42 = .ok (.goto 9, 3) := by decide +kernel
theorem dX9_ownOf_45 : decode cX9_ownOf 45 = .ok (.aload_n 0, 1) := by decide +kernel
theorem dX9_ownOf_46 : decode cX9_ownOf 46 = .ok (.getfield 25, 3) := by decide +kernel
theorem dX9_ownOf_49 : decode cX9_ownOf 49 = .ok (.iload_n 1, 1) := by decide +kernel
theorem dX9_ownOf_50 : decode cX9_ownOf 50 = .ok (.iaload, 1) := by decide +kernel
theorem dX9_ownOf_51 : decode cX9_ownOf 51 = .ok (.istore_n 3, 1) := by decide +kernel
theorem dX9_ownOf_52 : decode cX9_ownOf 52 = .ok (.aload_n 0, 1) := by decide +kernel
theorem dX9_ownOf_53 : decode cX9_ownOf 53 = .ok (.getfield 75, 3) := by decide +kernel
theorem dX9_ownOf_56 : decode cX9_ownOf 56 = .ok (.iconst 1, 1) := by decide +kernel
theorem dX9_ownOf_57 : decode cX9_ownOf 57 = .ok (.if_icmp .ne 9, 3) := by decide +kernel
theorem dX9_ownOf_60 : decode cX9_ownOf 60 = .ok (.iload_n 3, 1) := by decide +kernel
theorem dX9_ownOf_61 : decode cX9_ownOf 61 = .ok (.iconst 1, 1) := by decide +kernel
theorem dX9_ownOf_62 : decode cX9_ownOf 62 = .ok (.iadd, 1) := by decide +kernel
theorem dX9_ownOf_63 : decode cX9_ownOf 63 = .ok (.goto 24, 3) := by decide +kernel
theorem dX9_ownOf_66 : decode cX9_ownOf 66 = .ok (.aload_n 0, 1) := by decide +kernel
theorem dX9_ownOf_67 : decode cX9_ownOf 67 = .ok (.getfield 75, 3) := by decide +kernel
theorem dX9_ownOf_70 : decode cX9_ownOf 70 = .ok (.iconst 2, 1) := by decide +kernel
theorem dX9_ownOf_71 : decode cX9_ownOf 71 = .ok (.if_icmp .ne 11, 3) := by decide +kernel
theorem dX9_ownOf_74 : decode cX9_ownOf 74 = .ok (.iconst 4, 1) := by decide +kernel
theorem dX9_ownOf_75 : decode cX9_ownOf 75 = .ok (.iload_n 3, 1) := by decide +kernel
theorem dX9_ownOf_76 : decode cX9_ownOf 76 = .ok (.imul, 1) := by decide +kernel
theorem dX9_ownOf_77 : decode cX9_ownOf 77 = .ok (.iconst 1, 1) := by decide +kernel
theorem dX9_ownOf_78 : decode cX9_ownOf 78 = .ok (.iadd, 1) := by decide +kernel
theorem dX9_ownOf_79 : decode cX9_ownOf 79 = .ok (.goto 8, 3) := by decide +kernel
theorem dX9_ownOf_82 : decode cX9_ownOf 82 = .ok (.iconst 2, 1) := by decide +kernel
theorem dX9_ownOf_83 : decode cX9_ownOf 83 = .ok (.iload_n 3, 1) := by decide +kernel
theorem dX9_ownOf_84 : decode cX9_ownOf 84 = .ok (.imul, 1) := by decide +kernel
theorem dX9_ownOf_85 : decode cX9_ownOf 85 = .ok (.iconst 1, 1) := by decide +kernel
theorem dX9_ownOf_86 : decode cX9_ownOf 86 = .ok (.iadd, 1) := by decide +kernel
theorem dX9_ownOf_87 : decode cX9_ownOf 87 = .ok (.istore 4, 2) := by decide +kernel
theorem dX9_ownOf_89 : decode cX9_ownOf 89 = .ok (.aload_n 0, 1) := by decide +kernel
theorem dX9_ownOf_90 : decode cX9_ownOf 90 = .ok (.getfield 75, 3) := by decide +kernel
theorem dX9_ownOf_93 : decode cX9_ownOf 93 = .ok (.iconst 1, 1) := by decide +kernel
theorem dX9_ownOf_94 : decode cX9_ownOf 94 = .ok (.if_icmp .ne 11, 3) := by decide +kernel
theorem dX9_ownOf_97 : decode cX9_ownOf 97 = .ok (.iload_n 2, 1) := by decide +kernel
theorem dX9_ownOf_98 : decode cX9_ownOf 98 = .ok (.iload_n 3, 1) := by decide +kernel
theorem dX9_ownOf_99 : decode cX9_ownOf 99 = .ok (.iadd, 1) := by decide +kernel
theorem dX9_ownOf_100 : decode cX9_ownOf 100 = .ok (.iconst 2, 1) := by decide +kernel
theorem dX9_ownOf_101 : decode cX9_ownOf 101 = .ok (.iadd, 1) := by decide +kernel
theorem dX9_ownOf_102 : decode cX9_ownOf 102 = .ok (.goto 32, 3) := by decide +kernel
theorem dX9_ownOf_105 : decode cX9_ownOf 105 = .ok (.aload_n 0, 1) := by decide +kernel
theorem dX9_ownOf_106 : decode cX9_ownOf 106 = .ok (.getfield 75, 3) := by decide +kernel
theorem dX9_ownOf_109 : decode cX9_ownOf 109 = .ok (.iconst 2, 1) := by decide +kernel
theorem dX9_ownOf_110 : decode cX9_ownOf 110 = .ok (.if_icmp .ne 15, 3) := by decide +kernel
theorem dX9_ownOf_113 : decode cX9_ownOf 113 = .ok (.iconst 4, 1) := by decide +kernel
theorem dX9_ownOf_114 : decode cX9_ownOf 114 = .ok (.iload_n 2, 1) := by decide +kernel
theorem dX9_ownOf_115 : decode cX9_ownOf 115 = .ok (.imul, 1) := by decide +kernel
theorem dX9_ownOf_116 : decode cX9_ownOf 116 = .ok (.iconst 4, 1) := by decide +kernel
theorem dX9_ownOf_117 : decode cX9_ownOf 117 = .ok (.iload_n 3, 1) := by decide +kernel
theorem dX9_ownOf_118 : decode cX9_ownOf 118 = .ok (.imul, 1) := by decide +kernel
theorem dX9_ownOf_119 : decode cX9_ownOf 119 = .ok (.iadd, 1) := by decide +kernel
theorem dX9_ownOf_120 : decode cX9_ownOf 120 = .ok (.iconst 2, 1) := by decide +kernel
theorem dX9_ownOf_121 : decode cX9_ownOf 121 = .ok (.iadd, 1) := by decide +kernel
theorem dX9_ownOf_122 : decode cX9_ownOf 122 = .ok (.goto 12, 3) := by decide +kernel
theorem dX9_ownOf_125 : decode cX9_ownOf 125 = .ok (.iconst 2, 1) := by decide +kernel
theorem dX9_ownOf_126 : decode cX9_ownOf 126 = .ok (.iload_n 2, 1) := by decide +kernel
theorem dX9_ownOf_127 : decode cX9_ownOf 127 = .ok (.imul, 1) := by decide +kernel
theorem dX9_ownOf_128 : decode cX9_ownOf 128 = .ok (.iconst 2, 1) := by decide +kernel
theorem dX9_ownOf_129 : decode cX9_ownOf 129 = .ok (.iload_n 3, 1) := by decide +kernel
theorem dX9_ownOf_130 : decode cX9_ownOf 130 = .ok (.imul, 1) := by decide +kernel
theorem dX9_ownOf_131 : decode cX9_ownOf 131 = .ok (.iadd, 1) := by decide +kernel
theorem dX9_ownOf_132 : decode cX9_ownOf 132 = .ok (.iconst 2, 1) := by decide +kernel
theorem dX9_ownOf_133 : decode cX9_ownOf 133 = .ok (.iadd, 1) := by decide +kernel
theorem dX9_ownOf_134 : decode cX9_ownOf 134 = .ok (.istore 5, 2) := by decide +kernel
theorem dX9_ownOf_136 : decode cX9_ownOf 136 = .ok (.ldc2_w 82, 3) := by decide +kernel
theorem dX9_ownOf_139 : decode cX9_ownOf 139 = .ok (.iload 4, 2) := by decide +kernel
theorem dX9_ownOf_141 : decode cX9_ownOf 141 = .ok (.i2l, 1) := by decide +kernel
theorem dX9_ownOf_142 : decode cX9_ownOf 142 = .ok (.lmul, 1) := by decide +kernel
theorem dX9_ownOf_143 : decode cX9_ownOf 143 = .ok (.iload 5, 2) := by decide +kernel
theorem dX9_ownOf_145 : decode cX9_ownOf 145 = .ok (.i2l, 1) := by decide +kernel
theorem dX9_ownOf_146 : decode cX9_ownOf 146 = .ok (.ldiv, 1) := by decide +kernel
theorem dX9_ownOf_147 : decode cX9_ownOf 147 = .ok (.invokestatic 84, 3) := by decide +kernel
theorem dX9_ownOf_150 : decode cX9_ownOf 150 = .ok (.ireturn, 1) := by decide +kernel
theorem dX9_nodeOf_0 : decode cX9_nodeOf 0 = .ok (.iconst 1, 1) := by decide +kernel
theorem dX9_nodeOf_1 : decode cX9_nodeOf 1 = .ok (.iload_n 0, 1) := by decide +kernel
theorem dX9_nodeOf_2 : decode cX9_nodeOf 2 = .ok (.ishl, 1) := by decide +kernel
theorem dX9_nodeOf_3 : decode cX9_nodeOf 3 = .ok (.iconst 1, 1) := by decide +kernel
theorem dX9_nodeOf_4 : decode cX9_nodeOf 4 = .ok (.isub, 1) := by decide +kernel
theorem dX9_nodeOf_5 : decode cX9_nodeOf 5 = .ok (.iload_n 1, 1) := by decide +kernel
theorem dX9_nodeOf_6 : decode cX9_nodeOf 6 = .ok (.iadd, 1) := by decide +kernel
theorem dX9_nodeOf_7 : decode cX9_nodeOf 7 = .ok (.ireturn, 1) := by decide +kernel
theorem dX9_guesses_0 : decode cX9_guesses 0 = .ok (.iconst 0, 1) := by decide +kernel
theorem dX9_guesses_1 : decode cX9_guesses 1 = .ok (.istore_n 1, 1) := by decide +kernel
theorem dX9_guesses_2 : decode cX9_guesses 2 = .ok (.iconst 0, 1) := by decide +kernel
theorem dX9_guesses_3 : decode cX9_guesses 3 = .ok (.istore_n 2, 1) := by decide +kernel
theorem dX9_guesses_4 : decode cX9_guesses 4 = .ok (.iload_n 2, 1) := by decide +kernel
theorem dX9_guesses_5 : decode cX9_guesses 5 = .ok (.aload_n 0, 1) := by decide +kernel
theorem dX9_guesses_6 : decode cX9_guesses 6 = .ok (.getfield 72, 3) := by decide +kernel
theorem dX9_guesses_9 : decode cX9_guesses 9 = .ok (.if_icmp .gt 69, 3) := by decide +kernel
theorem dX9_guesses_12 : decode cX9_guesses 12 = .ok (.aload_n 0, 1) := by decide +kernel
theorem dX9_guesses_13 : decode cX9_guesses 13 = .ok (.getfield 34, 3) := by decide +kernel
theorem dX9_guesses_16 : decode cX9_guesses 16 = .ok (.iload_n 2, 1) := by decide +kernel
theorem dX9_guesses_17 : decode cX9_guesses 17 = .ok (.iload_n 2, 1) := by decide +kernel
theorem dX9_guesses_18 : decode cX9_guesses 18 = .ok (.iload_n 1, 1) := by decide +kernel
theorem dX9_guesses_19 : decode cX9_guesses 19 = .ok (.invokestatic 88, 3) := by decide +kernel
theorem dX9_guesses_22 : decode cX9_guesses 22 = .ok (.iastore, 1) := by decide +kernel
theorem dX9_guesses_23 : decode cX9_guesses 23 = .ok (.aload_n 0, 1) := by decide +kernel
theorem dX9_guesses_24 : decode cX9_guesses 24 = .ok (.getfield 37, 3) := by decide +kernel
theorem dX9_guesses_27 : decode cX9_guesses 27 = .ok (.iload_n 2, 1) := by decide +kernel
theorem dX9_guesses_28 : decode cX9_guesses 28 = .ok (.aload_n 0, 1) := by decide +kernel
theorem dX9_guesses_29 : decode cX9_guesses 29 = .ok (.aload_n 0, 1) := by decide +kernel
theorem dX9_guesses_30 : decode cX9_guesses 30 = .ok (.getfield 34, 3) := by decide +kernel
theorem dX9_guesses_33 : decode cX9_guesses 33 = .ok (.iload_n 2, 1) := by decide +kernel
theorem dX9_guesses_34 : decode cX9_guesses 34 = .ok (.iaload, 1) := by decide +kernel
theorem dX9_guesses_35 : decode cX9_guesses 35 = .ok (.invokevirtual 92, 3) := by decide +kernel
theorem dX9_guesses_38 : decode cX9_guesses 38 = .ok (.iastore, 1) := by decide +kernel
theorem dX9_guesses_39 : decode cX9_guesses 39 = .ok (.iload_n 1, 1) := by decide +kernel
theorem dX9_guesses_40 : decode cX9_guesses 40 = .ok (.aload_n 0, 1) := by decide +kernel
theorem dX9_guesses_41 : decode cX9_guesses 41 = .ok (.getfield 69, 3) := by decide +kernel
theorem dX9_guesses_44 : decode cX9_guesses 44 = .ok (.iconst 1, 1) := by decide +kernel
theorem dX9_guesses_45 : decode cX9_guesses 45 = .ok (.isub, 1) := by decide +kernel
theorem dX9_guesses_46 : decode cX9_guesses 46 = .ok (.iload_n 2, 1) := by decide +kernel
theorem dX9_guesses_47 : decode cX9_guesses 47 = .ok (.isub, 1) := by decide +kernel
theorem dX9_guesses_48 : decode cX9_guesses 48 = .ok (.ifCond .lt 21, 3) := by decide +kernel
theorem dX9_guesses_51 : decode cX9_guesses 51 = .ok (.aload_n 0, 1) := by decide +kernel
theorem dX9_guesses_52 : decode cX9_guesses 52 = .ok (.getfield 19, 3) := by decide +kernel
theorem dX9_guesses_55 : decode cX9_guesses 55 = .ok (.aload_n 0, 1) := by decide +kernel
theorem dX9_guesses_56 : decode cX9_guesses 56 = .ok (.getfield 69, 3) := by decide +kernel
theorem dX9_guesses_59 : decode cX9_guesses 59 = .ok (.iconst 1, 1) := by decide +kernel
theorem dX9_guesses_60 : decode cX9_guesses 60 = .ok (.isub, 1) := by decide +kernel
theorem dX9_guesses_61 : decode cX9_guesses 61 = .ok (.iload_n 2, 1) := by decide +kernel
theorem dX9_guesses_62 : decode cX9_guesses 62 = .ok (.isub, 1) := by decide +kernel
theorem dX9_guesses_63 : decode cX9_guesses 63 = .ok (.iaload, 1) := by decide +kernel
theorem dX9_guesses_64 : decode cX9_guesses 64 = .ok (.iload_n 2, 1) := by decide +kernel
theorem dX9_guesses_65 : decode cX9_guesses 65 = .ok (.ishl, 1) := by decide +kernel
theorem dX9_guesses_66 : decode cX9_guesses 66 = .ok (.goto 4, 3) := by decide +kernel
theorem dX9_guesses_69 : decode cX9_guesses 69 = .ok (.iconst 0, 1) := by decide +kernel
theorem dX9_guesses_70 : decode cX9_guesses 70 = .ok (.ior, 1) := by decide +kernel
theorem dX9_guesses_71 : decode cX9_guesses 71 = .ok (.istore_n 1, 1) := by decide +kernel
theorem dX9_guesses_72 : decode cX9_guesses 72 = .ok (.iinc 2 1, 3) := by decide +kernel
theorem dX9_guesses_75 : decode cX9_guesses 75 = .ok (.goto (-71), 3) := by decide +kernel
theorem dX9_guesses_78 : decode cX9_guesses 78 = .ok (.aload_n 0, 1) := by decide +kernel
theorem dX9_guesses_79 : decode cX9_guesses 79 = .ok (.getfield 40, 3) := by decide +kernel
theorem dX9_guesses_82 : decode cX9_guesses 82 = .ok (.aload_n 0, 1) := by decide +kernel
theorem dX9_guesses_83 : decode cX9_guesses 83 = .ok (.getfield 72, 3) := by decide +kernel
theorem dX9_guesses_86 : decode cX9_guesses 86 = .ok (.aload_n 0, 1) := by decide +kernel
theorem dX9_guesses_87 : decode cX9_guesses 87 = .ok (.getfield 37, 3) := by decide +kernel
theorem dX9_guesses_90 : decode cX9_guesses 90 = .ok (.aload_n 0, 1) := by decide +kernel
theorem dX9_guesses_91 : decode cX9_guesses 91 = .ok (.getfield 72, 3) := by decide +kernel
theorem dX9_guesses_94 : decode cX9_guesses 94 = .ok (.iaload, 1) := by decide +kernel
theorem dX9_guesses_95 : decode cX9_guesses 95 = .ok (.iastore, 1) := by decide +kernel
theorem dX9_guesses_96 : decode cX9_guesses 96 = .ok (.aload_n 0, 1) := by decide +kernel
theorem dX9_guesses_97 : decode cX9_guesses 97 = .ok (.getfield 72, 3) := by decide +kernel
theorem dX9_guesses_100 : decode cX9_guesses 100 = .ok (.iconst 1, 1) := by decide +kernel
theorem dX9_guesses_101 : decode cX9_guesses 101 = .ok (.isub, 1) := by decide +kernel
theorem dX9_guesses_102 : decode cX9_guesses 102 = .ok (.istore_n 2, 1) := by decide +kernel
theorem dX9_guesses_103 : decode cX9_guesses 103 = .ok (.iload_n 2, 1) := by decide +kernel
theorem dX9_guesses_104 : decode cX9_guesses 104 = .ok (.ifCond .lt 60, 3) := by decide +kernel
theorem dX9_guesses_107 : decode cX9_guesses 107 = .ok (.aload_n 0, 1) := by decide +kernel
theorem dX9_guesses_108 : decode cX9_guesses 108 = .ok (.getfield 28, 3) := by decide +kernel
theorem dX9_guesses_111 : decode cX9_guesses 111 = .ok (.aload_n 0, 1) := by decide +kernel
theorem dX9_guesses_112 : decode cX9_guesses 112 = .ok (.getfield 34, 3) := by decide +kernel
theorem dX9_guesses_115 : decode cX9_guesses 115 = .ok (.iload_n 2, 1) := by decide +kernel
theorem dX9_guesses_116 : decode cX9_guesses 116 = .ok (.iaload, 1) := by decide +kernel
theorem dX9_guesses_117 : decode cX9_guesses 117 = .ok (.iaload, 1) := by decide +kernel
theorem dX9_guesses_118 : decode cX9_guesses 118 = .ok (.i2l, 1) := by decide +kernel
theorem dX9_guesses_119 : decode cX9_guesses 119 = .ok (.lstore_n 3, 1) := by decide +kernel
theorem dX9_guesses_120 : decode cX9_guesses 120 = .ok (.aload_n 0, 1) := by decide +kernel
theorem dX9_guesses_121 : decode cX9_guesses 121 = .ok (.getfield 40, 3) := by decide +kernel
theorem dX9_guesses_124 : decode cX9_guesses 124 = .ok (.iload_n 2, 1) := by decide +kernel
theorem dX9_guesses_125 : decode cX9_guesses 125 = .ok (.lload_n 3, 1) := by decide +kernel
theorem dX9_guesses_126 : decode cX9_guesses 126 = .ok (.aload_n 0, 1) := by decide +kernel
theorem dX9_guesses_127 : decode cX9_guesses 127 = .ok (.getfield 37, 3) := by decide +kernel
theorem dX9_guesses_130 : decode cX9_guesses 130 = .ok (.iload_n 2, 1) := by decide +kernel
theorem dX9_guesses_131 : decode cX9_guesses 131 = .ok (.iaload, 1) := by decide +kernel
theorem dX9_guesses_132 : decode cX9_guesses 132 = .ok (.i2l, 1) := by decide +kernel
theorem dX9_guesses_133 : decode cX9_guesses 133 = .ok (.lmul, 1) := by decide +kernel
theorem dX9_guesses_134 : decode cX9_guesses 134 = .ok (.ldc2_w 82, 3) := by decide +kernel
theorem dX9_guesses_137 : decode cX9_guesses 137 = .ok (.lload_n 3, 1) := by decide +kernel
theorem dX9_guesses_138 : decode cX9_guesses 138 = .ok (.lsub, 1) := by decide +kernel
theorem dX9_guesses_139 : decode cX9_guesses 139 = .ok (.aload_n 0, 1) := by decide +kernel
theorem dX9_guesses_140 : decode cX9_guesses 140 = .ok (.getfield 40, 3) := by decide +kernel
theorem dX9_guesses_143 : decode cX9_guesses 143 = .ok (.iload_n 2, 1) := by decide +kernel
theorem dX9_guesses_144 : decode cX9_guesses 144 = .ok (.iconst 1, 1) := by decide +kernel
theorem dX9_guesses_145 : decode cX9_guesses 145 = .ok (.iadd, 1) := by decide +kernel
theorem dX9_guesses_146 : decode cX9_guesses 146 = .ok (.iaload, 1) := by decide +kernel
theorem dX9_guesses_147 : decode cX9_guesses 147 = .ok (.i2l, 1) := by decide +kernel
theorem dX9_guesses_148 : decode cX9_guesses 148 = .ok (.lmul, 1) := by decide +kernel
theorem dX9_guesses_149 : decode cX9_guesses 149 = .ok (.ladd, 1) := by decide +kernel
theorem dX9_guesses_150 : decode cX9_guesses 150 = .ok (.ldc2_w 82, 3) := by decide +kernel
theorem dX9_guesses_153 : decode cX9_guesses 153 = .ok (.ldiv, 1) := by decide +kernel
theorem dX9_guesses_154 : decode cX9_guesses 154 = .ok (.invokestatic 84, 3) := by decide +kernel
theorem dX9_guesses_157 : decode cX9_guesses 157 = .ok (.iastore, 1) := by decide +kernel
theorem dX9_guesses_158 : decode cX9_guesses 158 = .ok (.iinc 2 (-1), 3) := by decide +kernel
theorem dX9_guesses_161 : decode cX9_guesses 161 = .ok (.goto (-58), 3) := by decide +kernel
theorem dX9_guesses_164 : decode cX9_guesses 164 = .ok (.aload_n 0, 1) := by decide +kernel
theorem dX9_guesses_165 : decode cX9_guesses 165 = .ok (.getfield 40, 3) := by decide +kernel
theorem dX9_guesses_168 : decode cX9_guesses 168 = .ok (.iconst 0, 1) := by decide +kernel
theorem dX9_guesses_169 : decode cX9_guesses 169 = .ok (.iaload, 1) := by decide +kernel
theorem dX9_guesses_170 : decode cX9_guesses 170 = .ok (.ireturn, 1) := by decide +kernel
theorem dX9_odds_0 : decode cX9_odds 0 = .ok (.iload_n 1, 1) := by decide +kernel
theorem dX9_odds_1 : decode cX9_odds 1 = .ok (.iconst 1, 1) := by decide +kernel
theorem dX9_odds_2 : decode cX9_odds 2 = .ok (.if_icmp .ne 7, 3) := by decide +kernel
theorem dX9_odds_5 : decode cX9_odds 5 = .ok (.iload_n 0, 1) := by decide +kernel
theorem dX9_odds_6 : decode cX9_odds 6 = .ok (.goto 7, 3) := by decide +kernel
theorem dX9_odds_9 : decode cX9_odds 9 = .ok (.ldc 96, 2) := by decide +kernel
theorem dX9_odds_11 : decode cX9_odds 11 = .ok (.iload_n 0, 1) := by decide +kernel
theorem dX9_odds_12 : decode cX9_odds 12 = .ok (.isub, 1) := by decide +kernel
theorem dX9_odds_13 : decode cX9_odds 13 = .ok (.ireturn, 1) := by decide +kernel
theorem dX9_bitsOf_0 : decode cX9_bitsOf 0 = .ok (.bipush 15, 2) := by decide +kernel
theorem dX9_bitsOf_2 : decode cX9_bitsOf 2 = .ok (.istore_n 1, 1) := by decide +kernel
theorem dX9_bitsOf_3 : decode cX9_bitsOf 3 = .ok (.iload_n 0, 1) := by decide +kernel
theorem dX9_bitsOf_4 : decode cX9_bitsOf 4 = .ok (.iload_n 1, 1) := by decide +kernel
theorem dX9_bitsOf_5 : decode cX9_bitsOf 5 = .ok (.ishr, 1) := by decide +kernel
theorem dX9_bitsOf_6 : decode cX9_bitsOf 6 = .ok (.iconst 1, 1) := by decide +kernel
theorem dX9_bitsOf_7 : decode cX9_bitsOf 7 = .ok (.iand, 1) := by decide +kernel
theorem dX9_bitsOf_8 : decode cX9_bitsOf 8 = .ok (.ifCond .ne 9, 3) := by decide +kernel
theorem dX9_bitsOf_11 : decode cX9_bitsOf 11 = .ok (.iinc 1 (-1), 3) := by decide +kernel
theorem dX9_bitsOf_14 : decode cX9_bitsOf 14 = .ok (.goto (-11), 3) := by decide +kernel
theorem dX9_bitsOf_17 : decode cX9_bitsOf 17 = .ok (.iload_n 0, 1) := by decide +kernel
theorem dX9_bitsOf_18 : decode cX9_bitsOf 18 = .ok (.iconst 1, 1) := by decide +kernel
theorem dX9_bitsOf_19 : decode cX9_bitsOf 19 = .ok (.iload_n 1, 1) := by decide +kernel
theorem dX9_bitsOf_20 : decode cX9_bitsOf 20 = .ok (.ishl, 1) := by decide +kernel
theorem dX9_bitsOf_21 : decode cX9_bitsOf 21 = .ok (.isub, 1) := by decide +kernel
theorem dX9_bitsOf_22 : decode cX9_bitsOf 22 = .ok (.istore_n 2, 1) := by decide +kernel
theorem dX9_bitsOf_23 : decode cX9_bitsOf 23 = .ok (.iload_n 1, 1) := by decide +kernel
theorem dX9_bitsOf_24 : decode cX9_bitsOf 24 = .ok (.iconst 4, 1) := by decide +kernel
theorem dX9_bitsOf_25 : decode cX9_bitsOf 25 = .ok (.if_icmp .lt 11, 3) := by decide +kernel
theorem dX9_bitsOf_28 : decode cX9_bitsOf 28 = .ok (.iload_n 2, 1) := by decide +kernel
theorem dX9_bitsOf_29 : decode cX9_bitsOf 29 = .ok (.iload_n 1, 1) := by decide +kernel
theorem dX9_bitsOf_30 : decode cX9_bitsOf 30 = .ok (.iconst 4, 1) := by decide +kernel
theorem dX9_bitsOf_31 : decode cX9_bitsOf 31 = .ok (.isub, 1) := by decide +kernel
theorem dX9_bitsOf_32 : decode cX9_bitsOf 32 = .ok (.ishr, 1) := by decide +kernel
theorem dX9_bitsOf_33 : decode cX9_bitsOf 33 = .ok (.goto 8, 3) := by decide +kernel
theorem dX9_bitsOf_36 : decode cX9_bitsOf 36 = .ok (.iload_n 2, 1) := by decide +kernel
theorem dX9_bitsOf_37 : decode cX9_bitsOf 37 = .ok (.iconst 4, 1) := by decide +kernel
theorem dX9_bitsOf_38 : decode cX9_bitsOf 38 = .ok (.iload_n 1, 1) := by decide +kernel
theorem dX9_bitsOf_39 : decode cX9_bitsOf 39 = .ok (.isub, 1) := by decide +kernel
theorem dX9_bitsOf_40 : decode cX9_bitsOf 40 = .ok (.ishl, 1) := by decide +kernel
theorem dX9_bitsOf_41 : decode cX9_bitsOf 41 = .ok (.istore_n 3, 1) := by decide +kernel
theorem dX9_bitsOf_42 : decode cX9_bitsOf 42 = .ok (.bipush 16, 2) := by decide +kernel
theorem dX9_bitsOf_44 : decode cX9_bitsOf 44 = .ok (.bipush 16, 2) := by decide +kernel
theorem dX9_bitsOf_46 : decode cX9_bitsOf 46 = .ok (.iload_n 1, 1) := by decide +kernel
theorem dX9_bitsOf_47 : decode cX9_bitsOf 47 = .ok (.isub, 1) := by decide +kernel
theorem dX9_bitsOf_48 : decode cX9_bitsOf 48 = .ok (.imul, 1) := by decide +kernel
theorem dX9_bitsOf_49 : decode cX9_bitsOf 49 = .ok (.iload_n 3, 1) := by decide +kernel
theorem dX9_bitsOf_50 : decode cX9_bitsOf 50 = .ok (.isub, 1) := by decide +kernel
theorem dX9_bitsOf_51 : decode cX9_bitsOf 51 = .ok (.ireturn, 1) := by decide +kernel
theorem dX9_comes_0 : decode cX9_comes 0 = .ok (.iconst 0, 1) := by decide +kernel
theorem dX9_comes_1 : decode cX9_comes 1 = .ok (.istore_n 2, 1) := by decide +kernel
theorem dX9_comes_2 : decode cX9_comes 2 = .ok (.iload_n 2, 1) := by decide +kernel
theorem dX9_comes_3 : decode cX9_comes 3 = .ok (.aload_n 0, 1) := by decide +kernel
theorem dX9_comes_4 : decode cX9_comes 4 = .ok (.getfield 72, 3) := by decide +kernel
theorem dX9_comes_7 : decode cX9_comes 7 = .ok (.if_icmp .ge 116, 3) := by decide +kernel
theorem dX9_comes_10 : decode cX9_comes 10 = .ok (.aload_n 0, 1) := by decide +kernel
theorem dX9_comes_11 : decode cX9_comes 11 = .ok (.getfield 28, 3) := by decide +kernel
theorem dX9_comes_14 : decode cX9_comes 14 = .ok (.aload_n 0, 1) := by decide +kernel
theorem dX9_comes_15 : decode cX9_comes 15 = .ok (.getfield 34, 3) := by decide +kernel
theorem dX9_comes_18 : decode cX9_comes 18 = .ok (.iload_n 2, 1) := by decide +kernel
theorem dX9_comes_19 : decode cX9_comes 19 = .ok (.iaload, 1) := by decide +kernel
theorem dX9_comes_20 : decode cX9_comes 20 = .ok (.iaload, 1) := by decide +kernel
theorem dX9_comes_21 : decode cX9_comes 21 = .ok (.i2l, 1) := by decide +kernel
theorem dX9_comes_22 : decode cX9_comes 22 = .ok (.lstore_n 3, 1) := by decide +kernel
theorem dX9_comes_23 : decode cX9_comes 23 = .ok (.aload_n 0, 1) := by decide +kernel
theorem dX9_comes_24 : decode cX9_comes 24 = .ok (.getfield 37, 3) := by decide +kernel
theorem dX9_comes_27 : decode cX9_comes 27 = .ok (.iload_n 2, 1) := by decide +kernel
theorem dX9_comes_28 : decode cX9_comes 28 = .ok (.iaload, 1) := by decide +kernel
theorem dX9_comes_29 : decode cX9_comes 29 = .ok (.iload_n 1, 1) := by decide +kernel
theorem dX9_comes_30 : decode cX9_comes 30 = .ok (.invokestatic 97, 3) := by decide +kernel
theorem dX9_comes_33 : decode cX9_comes 33 = .ok (.i2l, 1) := by decide +kernel
theorem dX9_comes_34 : decode cX9_comes 34 = .ok (.lstore 5, 2) := by decide +kernel
theorem dX9_comes_36 : decode cX9_comes 36 = .ok (.aload_n 0, 1) := by decide +kernel
theorem dX9_comes_37 : decode cX9_comes 37 = .ok (.getfield 40, 3) := by decide +kernel
theorem dX9_comes_40 : decode cX9_comes 40 = .ok (.iload_n 2, 1) := by decide +kernel
theorem dX9_comes_41 : decode cX9_comes 41 = .ok (.iconst 1, 1) := by decide +kernel
theorem dX9_comes_42 : decode cX9_comes 42 = .ok (.iadd, 1) := by decide +kernel
theorem dX9_comes_43 : decode cX9_comes 43 = .ok (.iaload, 1) := by decide +kernel
theorem dX9_comes_44 : decode cX9_comes 44 = .ok (.iload_n 1, 1) := by decide +kernel
theorem dX9_comes_45 : decode cX9_comes 45 = .ok (.invokestatic 97, 3) := by decide +kernel
theorem dX9_comes_48 : decode cX9_comes 48 = .ok (.i2l, 1) := by decide +kernel
theorem dX9_comes_49 : decode cX9_comes 49 = .ok (.lstore 7, 2) := by decide +kernel
theorem dX9_comes_51 : decode cX9_comes 51 = .ok (.ldc2_w 82, 3) := by decide +kernel
theorem dX9_comes_54 : decode cX9_comes 54 = .ok (.lload_n 3, 1) := by decide +kernel
theorem dX9_comes_55 : decode cX9_comes 55 = .ok (.lload 5, 2) := by decide +kernel
theorem dX9_comes_57 : decode cX9_comes 57 = .ok (.lmul, 1) := by decide +kernel
theorem dX9_comes_58 : decode cX9_comes 58 = .ok (.lmul, 1) := by decide +kernel
theorem dX9_comes_59 : decode cX9_comes 59 = .ok (.lload_n 3, 1) := by decide +kernel
theorem dX9_comes_60 : decode cX9_comes 60 = .ok (.lload 5, 2) := by decide +kernel
theorem dX9_comes_62 : decode cX9_comes 62 = .ok (.lmul, 1) := by decide +kernel
theorem dX9_comes_63 : decode cX9_comes 63 = .ok (.ldc2_w 82, 3) := by decide +kernel
theorem dX9_comes_66 : decode cX9_comes 66 = .ok (.lload_n 3, 1) := by decide +kernel
theorem dX9_comes_67 : decode cX9_comes 67 = .ok (.lsub, 1) := by decide +kernel
theorem dX9_comes_68 : decode cX9_comes 68 = .ok (.lload 7, 2) := by decide +kernel
theorem dX9_comes_70 : decode cX9_comes 70 = .ok (.lmul, 1) := by decide +kernel
theorem dX9_comes_71 : decode cX9_comes 71 = .ok (.ladd, 1) := by decide +kernel
theorem dX9_comes_72 : decode cX9_comes 72 = .ok (.ldiv, 1) := by decide +kernel
theorem dX9_comes_73 : decode cX9_comes 73 = .ok (.lstore 9, 2) := by decide +kernel
theorem dX9_comes_75 : decode cX9_comes 75 = .ok (.aload_n 0, 1) := by decide +kernel
theorem dX9_comes_76 : decode cX9_comes 76 = .ok (.getfield 28, 3) := by decide +kernel
theorem dX9_comes_79 : decode cX9_comes 79 = .ok (.aload_n 0, 1) := by decide +kernel
theorem dX9_comes_80 : decode cX9_comes 80 = .ok (.getfield 34, 3) := by decide +kernel
theorem dX9_comes_83 : decode cX9_comes 83 = .ok (.iload_n 2, 1) := by decide +kernel
theorem dX9_comes_84 : decode cX9_comes 84 = .ok (.iaload, 1) := by decide +kernel
theorem dX9_comes_85 : decode cX9_comes 85 = .ok (.lload 9, 2) := by decide +kernel
theorem dX9_comes_87 : decode cX9_comes 87 = .ok (.ldc2_w 100, 3) := by decide +kernel
theorem dX9_comes_90 : decode cX9_comes 90 = .ok (.lcmp, 1) := by decide +kernel
theorem dX9_comes_91 : decode cX9_comes 91 = .ok (.ifCond .ge 8, 3) := by decide +kernel
theorem dX9_comes_94 : decode cX9_comes 94 = .ok (.bipush 64, 2) := by decide +kernel
theorem dX9_comes_96 : decode cX9_comes 96 = .ok (.goto 20, 3) := by decide +kernel
theorem dX9_comes_99 : decode cX9_comes 99 = .ok (.lload 9, 2) := by decide +kernel
theorem dX9_comes_101 : decode cX9_comes 101 = .ok (.ldc2_w 102, 3) := by decide +kernel
theorem dX9_comes_104 : decode cX9_comes 104 = .ok (.lcmp, 1) := by decide +kernel
theorem dX9_comes_105 : decode cX9_comes 105 = .ok (.ifCond .le 8, 3) := by decide +kernel
theorem dX9_comes_108 : decode cX9_comes 108 = .ok (.ldc 104, 2) := by decide +kernel
theorem dX9_comes_110 : decode cX9_comes 110 = .ok (.goto 6, 3) := by decide +kernel
theorem dX9_comes_113 : decode cX9_comes 113 = .ok (.lload 9, 2) := by decide +kernel
theorem dX9_comes_115 : decode cX9_comes 115 = .ok (.l2i, 1) := by decide +kernel
theorem dX9_comes_116 : decode cX9_comes 116 = .ok (.iastore, 1) := by decide +kernel
theorem dX9_comes_117 : decode cX9_comes 117 = .ok (.iinc 2 1, 3) := by decide +kernel
theorem dX9_comes_120 : decode cX9_comes 120 = .ok (.goto (-118), 3) := by decide +kernel
theorem dX9_comes_123 : decode cX9_comes 123 = .ok (.iconst 0, 1) := by decide +kernel
theorem dX9_comes_124 : decode cX9_comes 124 = .ok (.istore_n 2, 1) := by decide +kernel
theorem dX9_comes_125 : decode cX9_comes 125 = .ok (.iload_n 2, 1) := by decide +kernel
theorem dX9_comes_126 : decode cX9_comes 126 = .ok (.aload_n 0, 1) := by decide +kernel
theorem dX9_comes_127 : decode cX9_comes 127 = .ok (.getfield 72, 3) := by decide +kernel
theorem dX9_comes_130 : decode cX9_comes 130 = .ok (.if_icmp .gt 102, 3) := by decide +kernel
theorem dX9_comes_133 : decode cX9_comes 133 = .ok (.aload_n 0, 1) := by decide +kernel
theorem dX9_comes_134 : decode cX9_comes 134 = .ok (.getfield 34, 3) := by decide +kernel
theorem dX9_comes_137 : decode cX9_comes 137 = .ok (.iload_n 2, 1) := by decide +kernel
theorem dX9_comes_138 : decode cX9_comes 138 = .ok (.iaload, 1) := by decide +kernel
theorem dX9_comes_139 : decode cX9_comes 139 = .ok (.istore_n 3, 1) := by decide +kernel
theorem dX9_comes_140 : decode cX9_comes 140 = .ok (.aload_n 0, 1) := by decide +kernel
theorem dX9_comes_141 : decode cX9_comes 141 = .ok (.getfield 31, 3) := by decide +kernel
theorem dX9_comes_144 : decode cX9_comes 144 = .ok (.iload_n 3, 1) := by decide +kernel
theorem dX9_comes_145 : decode cX9_comes 145 = .ok (.dup2, 1) := by decide +kernel
theorem dX9_comes_146 : decode cX9_comes 146 = .ok (.iaload, 1) := by decide +kernel
theorem dX9_comes_147 : decode cX9_comes 147 = .ok (.aload_n 0, 1) := by decide +kernel
theorem dX9_comes_148 : decode cX9_comes 148 = .ok (.getfield 37, 3) := by decide +kernel
theorem dX9_comes_151 : decode cX9_comes 151 = .ok (.iload_n 2, 1) := by decide +kernel
theorem dX9_comes_152 : decode cX9_comes 152 = .ok (.iaload, 1) := by decide +kernel
theorem dX9_comes_153 : decode cX9_comes 153 = .ok (.iload_n 1, 1) := by decide +kernel
theorem dX9_comes_154 : decode cX9_comes 154 = .ok (.invokestatic 97, 3) := by decide +kernel
theorem dX9_comes_157 : decode cX9_comes 157 = .ok (.invokestatic 105, 3) := by decide +kernel
theorem dX9_comes_160 : decode cX9_comes 160 = .ok (.iadd, 1) := by decide +kernel
theorem dX9_comes_161 : decode cX9_comes 161 = .ok (.iastore, 1) := by decide +kernel
theorem dX9_comes_162 : decode cX9_comes 162 = .ok (.aload_n 0, 1) := by decide +kernel
theorem dX9_comes_163 : decode cX9_comes 163 = .ok (.getfield 22, 3) := by decide +kernel
theorem dX9_comes_166 : decode cX9_comes 166 = .ok (.iload_n 3, 1) := by decide +kernel
theorem dX9_comes_167 : decode cX9_comes 167 = .ok (.dup2, 1) := by decide +kernel
theorem dX9_comes_168 : decode cX9_comes 168 = .ok (.iaload, 1) := by decide +kernel
theorem dX9_comes_169 : decode cX9_comes 169 = .ok (.iconst 1, 1) := by decide +kernel
theorem dX9_comes_170 : decode cX9_comes 170 = .ok (.iload_n 1, 1) := by decide +kernel
theorem dX9_comes_171 : decode cX9_comes 171 = .ok (.isub, 1) := by decide +kernel
theorem dX9_comes_172 : decode cX9_comes 172 = .ok (.iadd, 1) := by decide +kernel
theorem dX9_comes_173 : decode cX9_comes 173 = .ok (.iastore, 1) := by decide +kernel
theorem dX9_comes_174 : decode cX9_comes 174 = .ok (.aload_n 0, 1) := by decide +kernel
theorem dX9_comes_175 : decode cX9_comes 175 = .ok (.getfield 25, 3) := by decide +kernel
theorem dX9_comes_178 : decode cX9_comes 178 = .ok (.iload_n 3, 1) := by decide +kernel
theorem dX9_comes_179 : decode cX9_comes 179 = .ok (.dup2, 1) := by decide +kernel
theorem dX9_comes_180 : decode cX9_comes 180 = .ok (.iaload, 1) := by decide +kernel
theorem dX9_comes_181 : decode cX9_comes 181 = .ok (.iload_n 1, 1) := by decide +kernel
theorem dX9_comes_182 : decode cX9_comes 182 = .ok (.iadd, 1) := by decide +kernel
theorem dX9_comes_183 : decode cX9_comes 183 = .ok (.iastore, 1) := by decide +kernel
theorem dX9_comes_184 : decode cX9_comes 184 = .ok (.aload_n 0, 1) := by decide +kernel
theorem dX9_comes_185 : decode cX9_comes 185 = .ok (.getfield 22, 3) := by decide +kernel
theorem dX9_comes_188 : decode cX9_comes 188 = .ok (.iload_n 3, 1) := by decide +kernel
theorem dX9_comes_189 : decode cX9_comes 189 = .ok (.iaload, 1) := by decide +kernel
theorem dX9_comes_190 : decode cX9_comes 190 = .ok (.bipush 60, 2) := by decide +kernel
theorem dX9_comes_192 : decode cX9_comes 192 = .ok (.if_icmp .gt 14, 3) := by decide +kernel
theorem dX9_comes_195 : decode cX9_comes 195 = .ok (.aload_n 0, 1) := by decide +kernel
theorem dX9_comes_196 : decode cX9_comes 196 = .ok (.getfield 25, 3) := by decide +kernel
theorem dX9_comes_199 : decode cX9_comes 199 = .ok (.iload_n 3, 1) := by decide +kernel
theorem dX9_comes_200 : decode cX9_comes 200 = .ok (.iaload, 1) := by decide +kernel
theorem dX9_comes_201 : decode cX9_comes 201 = .ok (.bipush 60, 2) := by decide +kernel
theorem dX9_comes_203 : decode cX9_comes 203 = .ok (.if_icmp .le 23, 3) := by decide +kernel
theorem dX9_comes_206 : decode cX9_comes 206 = .ok (.aload_n 0, 1) := by decide +kernel
theorem dX9_comes_207 : decode cX9_comes 207 = .ok (.getfield 22, 3) := by decide +kernel
theorem dX9_comes_210 : decode cX9_comes 210 = .ok (.iload_n 3, 1) := by decide +kernel
theorem dX9_comes_211 : decode cX9_comes 211 = .ok (.dup2, 1) := by decide +kernel
theorem dX9_comes_212 : decode cX9_comes 212 = .ok (.iaload, 1) := by decide +kernel
theorem dX9_comes_213 : decode cX9_comes 213 = .ok (.iconst 2, 1) := by decide +kernel
theorem dX9_comes_214 : decode cX9_comes 214 = .ok (.idiv, 1) := by decide +kernel
theorem dX9_comes_215 : decode cX9_comes 215 = .ok (.iastore, 1) := by decide +kernel
theorem dX9_comes_216 : decode cX9_comes 216 = .ok (.aload_n 0, 1) := by decide +kernel
theorem dX9_comes_217 : decode cX9_comes 217 = .ok (.getfield 25, 3) := by decide +kernel
theorem dX9_comes_220 : decode cX9_comes 220 = .ok (.iload_n 3, 1) := by decide +kernel
theorem dX9_comes_221 : decode cX9_comes 221 = .ok (.dup2, 1) := by decide +kernel
theorem dX9_comes_222 : decode cX9_comes 222 = .ok (.iaload, 1) := by decide +kernel
theorem dX9_comes_223 : decode cX9_comes 223 = .ok (.iconst 2, 1) := by decide +kernel
theorem dX9_comes_224 : decode cX9_comes 224 = .ok (.idiv, 1) := by decide +kernel
theorem dX9_comes_225 : decode cX9_comes 225 = .ok (.iastore, 1) := by decide +kernel
theorem dX9_comes_226 : decode cX9_comes 226 = .ok (.iinc 2 1, 3) := by decide +kernel
theorem dX9_comes_229 : decode cX9_comes 229 = .ok (.goto (-104), 3) := by decide +kernel
theorem dX9_comes_232 : decode cX9_comes 232 = .ok (.aload_n 0, 1) := by decide +kernel
theorem dX9_comes_233 : decode cX9_comes 233 = .ok (.getfield 43, 3) := by decide +kernel
theorem dX9_comes_236 : decode cX9_comes 236 = .ok (.aload_n 0, 1) := by decide +kernel
theorem dX9_comes_237 : decode cX9_comes 237 = .ok (.getfield 69, 3) := by decide +kernel
theorem dX9_comes_240 : decode cX9_comes 240 = .ok (.aload_n 0, 1) := by decide +kernel
theorem dX9_comes_241 : decode cX9_comes 241 = .ok (.getfield 40, 3) := by decide +kernel
theorem dX9_comes_244 : decode cX9_comes 244 = .ok (.iconst 0, 1) := by decide +kernel
theorem dX9_comes_245 : decode cX9_comes 245 = .ok (.iaload, 1) := by decide +kernel
theorem dX9_comes_246 : decode cX9_comes 246 = .ok (.iastore, 1) := by decide +kernel
theorem dX9_comes_247 : decode cX9_comes 247 = .ok (.aload_n 0, 1) := by decide +kernel
theorem dX9_comes_248 : decode cX9_comes 248 = .ok (.getfield 19, 3) := by decide +kernel
theorem dX9_comes_251 : decode cX9_comes 251 = .ok (.aload_n 0, 1) := by decide +kernel
theorem dX9_comes_252 : decode cX9_comes 252 = .ok (.getfield 69, 3) := by decide +kernel
theorem dX9_comes_255 : decode cX9_comes 255 = .ok (.iload_n 1, 1) := by decide +kernel
theorem dX9_comes_256 : decode cX9_comes 256 = .ok (.iastore, 1) := by decide +kernel
theorem dX9_comes_257 : decode cX9_comes 257 = .ok (.aload_n 0, 1) := by decide +kernel
theorem dX9_comes_258 : decode cX9_comes 258 = .ok (.dup, 1) := by decide +kernel
theorem dX9_comes_259 : decode cX9_comes 259 = .ok (.getfield 69, 3) := by decide +kernel
theorem dX9_comes_262 : decode cX9_comes 262 = .ok (.iconst 1, 1) := by decide +kernel
theorem dX9_comes_263 : decode cX9_comes 263 = .ok (.iadd, 1) := by decide +kernel
theorem dX9_comes_264 : decode cX9_comes 264 = .ok (.putfield 69, 3) := by decide +kernel
theorem dX9_comes_267 : decode cX9_comes 267 = .ok (.return_, 1) := by decide +kernel
theorem dX9_goes_0 : decode cX9_goes 0 = .ok (.iconst 0, 1) := by decide +kernel
theorem dX9_goes_1 : decode cX9_goes 1 = .ok (.istore_n 3, 1) := by decide +kernel
theorem dX9_goes_2 : decode cX9_goes 2 = .ok (.aload_n 0, 1) := by decide +kernel
theorem dX9_goes_3 : decode cX9_goes 3 = .ok (.iload_n 1, 1) := by decide +kernel
theorem dX9_goes_4 : decode cX9_goes 4 = .ok (.iload_n 2, 1) := by decide +kernel
theorem dX9_goes_5 : decode cX9_goes 5 = .ok (.invokevirtual 108, 3) := by decide +kernel
theorem dX9_goes_8 : decode cX9_goes 8 = .ok (.iconst 0, 1) := by decide +kernel
theorem dX9_goes_9 : decode cX9_goes 9 = .ok (.istore 4, 2) := by decide +kernel
theorem dX9_goes_11 : decode cX9_goes 11 = .ok (.iload 4, 2) := by decide +kernel
theorem dX9_goes_13 : decode cX9_goes 13 = .ok (.aload_n 0, 1) := by decide +kernel
theorem dX9_goes_14 : decode cX9_goes 14 = .ok (.invokevirtual 112, 3) := by decide +kernel
theorem dX9_goes_17 : decode cX9_goes 17 = .ok (.if_icmp .ge 40, 3) := by decide +kernel
theorem dX9_goes_20 : decode cX9_goes 20 = .ok (.iload_n 3, 1) := by decide +kernel
theorem dX9_goes_21 : decode cX9_goes 21 = .ok (.aload_n 0, 1) := by decide +kernel
theorem dX9_goes_22 : decode cX9_goes 22 = .ok (.invokevirtual 116, 3) := by decide +kernel
theorem dX9_goes_25 : decode cX9_goes 25 = .ok (.aload_n 0, 1) := by decide +kernel
theorem dX9_goes_26 : decode cX9_goes 26 = .ok (.getfield 7, 3) := by decide +kernel
theorem dX9_goes_29 : decode cX9_goes 29 = .ok (.iload 4, 2) := by decide +kernel
theorem dX9_goes_31 : decode cX9_goes 31 = .ok (.iaload, 1) := by decide +kernel
theorem dX9_goes_32 : decode cX9_goes 32 = .ok (.invokestatic 97, 3) := by decide +kernel
theorem dX9_goes_35 : decode cX9_goes 35 = .ok (.invokestatic 105, 3) := by decide +kernel
theorem dX9_goes_38 : decode cX9_goes 38 = .ok (.iadd, 1) := by decide +kernel
theorem dX9_goes_39 : decode cX9_goes 39 = .ok (.istore_n 3, 1) := by decide +kernel
theorem dX9_goes_40 : decode cX9_goes 40 = .ok (.aload_n 0, 1) := by decide +kernel
theorem dX9_goes_41 : decode cX9_goes 41 = .ok (.aload_n 0, 1) := by decide +kernel
theorem dX9_goes_42 : decode cX9_goes 42 = .ok (.getfield 7, 3) := by decide +kernel
theorem dX9_goes_45 : decode cX9_goes 45 = .ok (.iload 4, 2) := by decide +kernel
theorem dX9_goes_47 : decode cX9_goes 47 = .ok (.iaload, 1) := by decide +kernel
theorem dX9_goes_48 : decode cX9_goes 48 = .ok (.invokevirtual 119, 3) := by decide +kernel
theorem dX9_goes_51 : decode cX9_goes 51 = .ok (.iinc 4 1, 3) := by decide +kernel
theorem dX9_goes_54 : decode cX9_goes 54 = .ok (.goto (-43), 3) := by decide +kernel
theorem dX9_goes_57 : decode cX9_goes 57 = .ok (.iload_n 3, 1) := by decide +kernel
theorem dX9_goes_58 : decode cX9_goes 58 = .ok (.ireturn, 1) := by decide +kernel
theorem dX9_goesNow_0 : decode cX9_goesNow 0 = .ok (.aload_n 0, 1) := by decide +kernel
theorem dX9_goesNow_1 : decode cX9_goesNow 1 = .ok (.aload_n 0, 1) := by decide +kernel
theorem dX9_goesNow_2 : decode cX9_goesNow 2 = .ok (.invokevirtual 123, 3) := by decide +kernel
theorem dX9_goesNow_5 : decode cX9_goesNow 5 = .ok (.aload_n 0, 1) := by decide +kernel
theorem dX9_goesNow_6 : decode cX9_goesNow 6 = .ok (.invokevirtual 126, 3) := by decide +kernel
theorem dX9_goesNow_9 : decode cX9_goesNow 9 = .ok (.invokevirtual 129, 3) := by decide +kernel
theorem dX9_goesNow_12 : decode cX9_goesNow 12 = .ok (.ireturn, 1) := by decide +kernel
theorem dX9_costAt_0 : decode cX9_costAt 0 = .ok (.aload_n 0, 1) := by decide +kernel
theorem dX9_costAt_1 : decode cX9_costAt 1 = .ok (.getfield 43, 3) := by decide +kernel
theorem dX9_costAt_4 : decode cX9_costAt 4 = .ok (.iload_n 1, 1) := by decide +kernel
theorem dX9_costAt_5 : decode cX9_costAt 5 = .ok (.iaload, 1) := by decide +kernel
theorem dX9_costAt_6 : decode cX9_costAt 6 = .ok (.aload_n 0, 1) := by decide +kernel
theorem dX9_costAt_7 : decode cX9_costAt 7 = .ok (.getfield 7, 3) := by decide +kernel
theorem dX9_costAt_10 : decode cX9_costAt 10 = .ok (.iload_n 1, 1) := by decide +kernel
theorem dX9_costAt_11 : decode cX9_costAt 11 = .ok (.iaload, 1) := by decide +kernel
theorem dX9_costAt_12 : decode cX9_costAt 12 = .ok (.invokestatic 97, 3) := by decide +kernel
theorem dX9_costAt_15 : decode cX9_costAt 15 = .ok (.invokestatic 105, 3) := by decide +kernel
theorem dX9_costAt_18 : decode cX9_costAt 18 = .ok (.ireturn, 1) := by decide +kernel
theorem dX9_adds_0 : decode cX9_adds 0 = .ok (.aload_n 0, 1) := by decide +kernel
theorem dX9_adds_1 : decode cX9_adds 1 = .ok (.getfield 7, 3) := by decide +kernel
theorem dX9_adds_4 : decode cX9_adds 4 = .ok (.aload_n 0, 1) := by decide +kernel
theorem dX9_adds_5 : decode cX9_adds 5 = .ok (.invokevirtual 112, 3) := by decide +kernel
theorem dX9_adds_8 : decode cX9_adds 8 = .ok (.iload_n 1, 1) := by decide +kernel
theorem dX9_adds_9 : decode cX9_adds 9 = .ok (.iastore, 1) := by decide +kernel
theorem dX9_adds_10 : decode cX9_adds 10 = .ok (.aload_n 0, 1) := by decide +kernel
theorem dX9_adds_11 : decode cX9_adds 11 = .ok (.getfield 7, 3) := by decide +kernel
theorem dX9_adds_14 : decode cX9_adds 14 = .ok (.bipush 100, 2) := by decide +kernel
theorem dX9_adds_16 : decode cX9_adds 16 = .ok (.dup2, 1) := by decide +kernel
theorem dX9_adds_17 : decode cX9_adds 17 = .ok (.iaload, 1) := by decide +kernel
theorem dX9_adds_18 : decode cX9_adds 18 = .ok (.iconst 1, 1) := by decide +kernel
theorem dX9_adds_19 : decode cX9_adds 19 = .ok (.iadd, 1) := by decide +kernel
theorem dX9_adds_20 : decode cX9_adds 20 = .ok (.iastore, 1) := by decide +kernel
theorem dX9_adds_21 : decode cX9_adds 21 = .ok (.return_, 1) := by decide +kernel
theorem dX9_costFrom_0 : decode cX9_costFrom 0 = .ok (.iconst 0, 1) := by decide +kernel
theorem dX9_costFrom_1 : decode cX9_costFrom 1 = .ok (.istore_n 2, 1) := by decide +kernel
theorem dX9_costFrom_2 : decode cX9_costFrom 2 = .ok (.aload_n 0, 1) := by decide +kernel
theorem dX9_costFrom_3 : decode cX9_costFrom 3 = .ok (.invokevirtual 132, 3) := by decide +kernel
theorem dX9_costFrom_6 : decode cX9_costFrom 6 = .ok (.istore_n 3, 1) := by decide +kernel
theorem dX9_costFrom_7 : decode cX9_costFrom 7 = .ok (.iload_n 1, 1) := by decide +kernel
theorem dX9_costFrom_8 : decode cX9_costFrom 8 = .ok (.istore 4, 2) := by decide +kernel
theorem dX9_costFrom_10 : decode cX9_costFrom 10 = .ok (.iload 4, 2) := by decide +kernel
theorem dX9_costFrom_12 : decode cX9_costFrom 12 = .ok (.aload_n 0, 1) := by decide +kernel
theorem dX9_costFrom_13 : decode cX9_costFrom 13 = .ok (.invokevirtual 112, 3) := by decide +kernel
theorem dX9_costFrom_16 : decode cX9_costFrom 16 = .ok (.if_icmp .ge 18, 3) := by decide +kernel
theorem dX9_costFrom_19 : decode cX9_costFrom 19 = .ok (.iload_n 2, 1) := by decide +kernel
theorem dX9_costFrom_20 : decode cX9_costFrom 20 = .ok (.aload_n 0, 1) := by decide +kernel
theorem dX9_costFrom_21 : decode cX9_costFrom 21 = .ok (.iload 4, 2) := by decide +kernel
theorem dX9_costFrom_23 : decode cX9_costFrom 23 = .ok (.invokevirtual 135, 3) := by decide +kernel
theorem dX9_costFrom_26 : decode cX9_costFrom 26 = .ok (.iadd, 1) := by decide +kernel
theorem dX9_costFrom_27 : decode cX9_costFrom 27 = .ok (.istore_n 2, 1) := by decide +kernel
theorem dX9_costFrom_28 : decode cX9_costFrom 28 = .ok (.iinc 4 1, 3) := by decide +kernel
theorem dX9_costFrom_31 : decode cX9_costFrom 31 = .ok (.goto (-21), 3) := by decide +kernel
theorem dX9_costFrom_34 : decode cX9_costFrom 34 = .ok (.iload_n 2, 1) := by decide +kernel
theorem dX9_costFrom_35 : decode cX9_costFrom 35 = .ok (.ireturn, 1) := by decide +kernel
theorem dX9_sign_0 : decode cX9_sign 0 = .ok (.iload_n 1, 1) := by decide +kernel
theorem dX9_sign_1 : decode cX9_sign 1 = .ok (.i2l, 1) := by decide +kernel
theorem dX9_sign_2 : decode cX9_sign 2 = .ok (.lconst 0, 1) := by decide +kernel
theorem dX9_sign_3 : decode cX9_sign 3 = .ok (.lconst 1, 1) := by decide +kernel
theorem dX9_sign_4 : decode cX9_sign 4 = .ok (.invokestatic 138, 3) := by decide +kernel
theorem dX9_sign_7 : decode cX9_sign 7 = .ok (.ifCond .ne 10, 3) := by decide +kernel
theorem dX9_sign_10 : decode cX9_sign 10 = .ok (.aload_n 0, 1) := by decide +kernel
theorem dX9_sign_11 : decode cX9_sign 11 = .ok (.bipush (-2), 2) := by decide +kernel
theorem dX9_sign_13 : decode cX9_sign 13 = .ok (.invokevirtual 142, 3) := by decide +kernel
theorem dX9_sign_16 : decode cX9_sign 16 = .ok (.ireturn, 1) := by decide +kernel
theorem dX9_sign_17 : decode cX9_sign 17 = .ok (.aload_n 0, 1) := by decide +kernel
theorem dX9_sign_18 : decode cX9_sign 18 = .ok (.invokevirtual 112, 3) := by decide +kernel
theorem dX9_sign_21 : decode cX9_sign 21 = .ok (.bipush 100, 2) := by decide +kernel
theorem dX9_sign_23 : decode cX9_sign 23 = .ok (.if_icmp .ne 8, 3) := by decide +kernel
theorem dX9_sign_26 : decode cX9_sign 26 = .ok (.aload_n 0, 1) := by decide +kernel
theorem dX9_sign_27 : decode cX9_sign 27 = .ok (.invokevirtual 145, 3) := by decide +kernel
theorem dX9_sign_30 : decode cX9_sign 30 = .ok (.ireturn, 1) := by decide +kernel
theorem dX9_sign_31 : decode cX9_sign 31 = .ok (.aload_n 0, 1) := by decide +kernel
theorem dX9_sign_32 : decode cX9_sign 32 = .ok (.invokevirtual 148, 3) := by decide +kernel
theorem dX9_sign_35 : decode cX9_sign 35 = .ok (.aload_n 0, 1) := by decide +kernel
theorem dX9_sign_36 : decode cX9_sign 36 = .ok (.iload_n 1, 1) := by decide +kernel
theorem dX9_sign_37 : decode cX9_sign 37 = .ok (.invokevirtual 151, 3) := by decide +kernel
theorem dX9_sign_40 : decode cX9_sign 40 = .ok (.aload_n 0, 1) := by decide +kernel
theorem dX9_sign_41 : decode cX9_sign 41 = .ok (.aload_n 0, 1) := by decide +kernel
theorem dX9_sign_42 : decode cX9_sign 42 = .ok (.invokevirtual 112, 3) := by decide +kernel
theorem dX9_sign_45 : decode cX9_sign 45 = .ok (.iconst 1, 1) := by decide +kernel
theorem dX9_sign_46 : decode cX9_sign 46 = .ok (.isub, 1) := by decide +kernel
theorem dX9_sign_47 : decode cX9_sign 47 = .ok (.invokevirtual 154, 3) := by decide +kernel
theorem dX9_sign_50 : decode cX9_sign 50 = .ok (.ireturn, 1) := by decide +kernel
theorem dX9_signs_0 : decode cX9_signs 0 = .ok (.iload_n 3, 1) := by decide +kernel
theorem dX9_signs_1 : decode cX9_signs 1 = .ok (.i2l, 1) := by decide +kernel
theorem dX9_signs_2 : decode cX9_signs 2 = .ok (.lconst 1, 1) := by decide +kernel
theorem dX9_signs_3 : decode cX9_signs 3 = .ok (.ldc2_w 100, 3) := by decide +kernel
theorem dX9_signs_6 : decode cX9_signs 6 = .ok (.invokestatic 138, 3) := by decide +kernel
theorem dX9_signs_9 : decode cX9_signs 9 = .ok (.ifCond .ne 10, 3) := by decide +kernel
theorem dX9_signs_12 : decode cX9_signs 12 = .ok (.aload_n 0, 1) := by decide +kernel
theorem dX9_signs_13 : decode cX9_signs 13 = .ok (.bipush (-2), 2) := by decide +kernel
theorem dX9_signs_15 : decode cX9_signs 15 = .ok (.invokevirtual 142, 3) := by decide +kernel
theorem dX9_signs_18 : decode cX9_signs 18 = .ok (.ireturn, 1) := by decide +kernel
theorem dX9_signs_19 : decode cX9_signs 19 = .ok (.aload_n 0, 1) := by decide +kernel
theorem dX9_signs_20 : decode cX9_signs 20 = .ok (.invokevirtual 112, 3) := by decide +kernel
theorem dX9_signs_23 : decode cX9_signs 23 = .ok (.iload_n 3, 1) := by decide +kernel
theorem dX9_signs_24 : decode cX9_signs 24 = .ok (.iadd, 1) := by decide +kernel
theorem dX9_signs_25 : decode cX9_signs 25 = .ok (.bipush 100, 2) := by decide +kernel
theorem dX9_signs_27 : decode cX9_signs 27 = .ok (.if_icmp .le 8, 3) := by decide +kernel
theorem dX9_signs_30 : decode cX9_signs 30 = .ok (.aload_n 0, 1) := by decide +kernel
theorem dX9_signs_31 : decode cX9_signs 31 = .ok (.invokevirtual 145, 3) := by decide +kernel
theorem dX9_signs_34 : decode cX9_signs 34 = .ok (.ireturn, 1) := by decide +kernel
theorem dX9_signs_35 : decode cX9_signs 35 = .ok (.aload_n 0, 1) := by decide +kernel
theorem dX9_signs_36 : decode cX9_signs 36 = .ok (.invokevirtual 112, 3) := by decide +kernel
theorem dX9_signs_39 : decode cX9_signs 39 = .ok (.istore 4, 2) := by decide +kernel
theorem dX9_signs_41 : decode cX9_signs 41 = .ok (.aload_n 0, 1) := by decide +kernel
theorem dX9_signs_42 : decode cX9_signs 42 = .ok (.invokevirtual 148, 3) := by decide +kernel
theorem dX9_signs_45 : decode cX9_signs 45 = .ok (.iconst 0, 1) := by decide +kernel
theorem dX9_signs_46 : decode cX9_signs 46 = .ok (.istore 5, 2) := by decide +kernel
theorem dX9_signs_48 : decode cX9_signs 48 = .ok (.iload 5, 2) := by decide +kernel
theorem dX9_signs_50 : decode cX9_signs 50 = .ok (.iload_n 3, 1) := by decide +kernel
theorem dX9_signs_51 : decode cX9_signs 51 = .ok (.if_icmp .ge 20, 3) := by decide +kernel
theorem dX9_signs_54 : decode cX9_signs 54 = .ok (.aload_n 0, 1) := by decide +kernel
theorem dX9_signs_55 : decode cX9_signs 55 = .ok (.lload_n 1, 1) := by decide +kernel
theorem dX9_signs_56 : decode cX9_signs 56 = .ok (.iload 5, 2) := by decide +kernel
theorem dX9_signs_58 : decode cX9_signs 58 = .ok (.lshr, 1) := by decide +kernel
theorem dX9_signs_59 : decode cX9_signs 59 = .ok (.lconst 1, 1) := by decide +kernel
theorem dX9_signs_60 : decode cX9_signs 60 = .ok (.land, 1) := by decide +kernel
theorem dX9_signs_61 : decode cX9_signs 61 = .ok (.l2i, 1) := by decide +kernel
theorem dX9_signs_62 : decode cX9_signs 62 = .ok (.invokevirtual 151, 3) := by decide +kernel
theorem dX9_signs_65 : decode cX9_signs 65 = .ok (.iinc 5 1, 3) := by decide +kernel
theorem dX9_signs_68 : decode cX9_signs 68 = .ok (.goto (-20), 3) := by decide +kernel
theorem dX9_signs_71 : decode cX9_signs 71 = .ok (.aload_n 0, 1) := by decide +kernel
theorem dX9_signs_72 : decode cX9_signs 72 = .ok (.iload 4, 2) := by decide +kernel
theorem dX9_signs_74 : decode cX9_signs 74 = .ok (.invokevirtual 154, 3) := by decide +kernel
theorem dX9_signs_77 : decode cX9_signs 77 = .ok (.ireturn, 1) := by decide +kernel
theorem dX9_draw_0 : decode cX9_draw 0 = .ok (.iload_n 1, 1) := by decide +kernel
theorem dX9_draw_1 : decode cX9_draw 1 = .ok (.i2l, 1) := by decide +kernel
theorem dX9_draw_2 : decode cX9_draw 2 = .ok (.lconst 0, 1) := by decide +kernel
theorem dX9_draw_3 : decode cX9_draw 3 = .ok (.ldc2_w 157, 3) := by decide +kernel
theorem dX9_draw_6 : decode cX9_draw 6 = .ok (.invokestatic 138, 3) := by decide +kernel
theorem dX9_draw_9 : decode cX9_draw 9 = .ok (.ifCond .eq 27, 3) := by decide +kernel
theorem dX9_draw_12 : decode cX9_draw 12 = .ok (.iload_n 2, 1) := by decide +kernel
theorem dX9_draw_13 : decode cX9_draw 13 = .ok (.i2l, 1) := by decide +kernel
theorem dX9_draw_14 : decode cX9_draw 14 = .ok (.lconst 1, 1) := by decide +kernel
theorem dX9_draw_15 : decode cX9_draw 15 = .ok (.ldc2_w 159, 3) := by decide +kernel
theorem dX9_draw_18 : decode cX9_draw 18 = .ok (.invokestatic 138, 3) := by decide +kernel
theorem dX9_draw_21 : decode cX9_draw 21 = .ok (.ifCond .eq 15, 3) := by decide +kernel
theorem dX9_draw_24 : decode cX9_draw 24 = .ok (.iload_n 3, 1) := by decide +kernel
theorem dX9_draw_25 : decode cX9_draw 25 = .ok (.i2l, 1) := by decide +kernel
theorem dX9_draw_26 : decode cX9_draw 26 = .ok (.lconst 0, 1) := by decide +kernel
theorem dX9_draw_27 : decode cX9_draw 27 = .ok (.ldc2_w 159, 3) := by decide +kernel
theorem dX9_draw_30 : decode cX9_draw 30 = .ok (.invokestatic 138, 3) := by decide +kernel
theorem dX9_draw_33 : decode cX9_draw 33 = .ok (.ifCond .ne 10, 3) := by decide +kernel
theorem dX9_draw_36 : decode cX9_draw 36 = .ok (.aload_n 0, 1) := by decide +kernel
theorem dX9_draw_37 : decode cX9_draw 37 = .ok (.bipush (-2), 2) := by decide +kernel
theorem dX9_draw_39 : decode cX9_draw 39 = .ok (.invokevirtual 142, 3) := by decide +kernel
theorem dX9_draw_42 : decode cX9_draw 42 = .ok (.ireturn, 1) := by decide +kernel
theorem dX9_draw_43 : decode cX9_draw 43 = .ok (.aload_n 0, 1) := by decide +kernel
theorem dX9_draw_44 : decode cX9_draw 44 = .ok (.invokevirtual 112, 3) := by decide +kernel
theorem dX9_draw_47 : decode cX9_draw 47 = .ok (.iload_n 2, 1) := by decide +kernel
theorem dX9_draw_48 : decode cX9_draw 48 = .ok (.iadd, 1) := by decide +kernel
theorem dX9_draw_49 : decode cX9_draw 49 = .ok (.bipush 100, 2) := by decide +kernel
theorem dX9_draw_51 : decode cX9_draw 51 = .ok (.if_icmp .le 8, 3) := by decide +kernel
theorem dX9_draw_54 : decode cX9_draw 54 = .ok (.aload_n 0, 1) := by decide +kernel
theorem dX9_draw_55 : decode cX9_draw 55 = .ok (.invokevirtual 145, 3) := by decide +kernel
theorem dX9_draw_58 : decode cX9_draw 58 = .ok (.ireturn, 1) := by decide +kernel
theorem dX9_draw_59 : decode cX9_draw 59 = .ok (.iload_n 1, 1) := by decide +kernel
theorem dX9_draw_60 : decode cX9_draw 60 = .ok (.i2l, 1) := by decide +kernel
theorem dX9_draw_61 : decode cX9_draw 61 = .ok (.lstore 4, 2) := by decide +kernel
theorem dX9_draw_63 : decode cX9_draw 63 = .ok (.iconst 0, 1) := by decide +kernel
theorem dX9_draw_64 : decode cX9_draw 64 = .ok (.istore 6, 2) := by decide +kernel
theorem dX9_draw_66 : decode cX9_draw 66 = .ok (.aload_n 0, 1) := by decide +kernel
theorem dX9_draw_67 : decode cX9_draw 67 = .ok (.invokevirtual 148, 3) := by decide +kernel
theorem dX9_draw_70 : decode cX9_draw 70 = .ok (.iconst 0, 1) := by decide +kernel
theorem dX9_draw_71 : decode cX9_draw 71 = .ok (.istore 7, 2) := by decide +kernel
theorem dX9_draw_73 : decode cX9_draw 73 = .ok (.iload 7, 2) := by decide +kernel
theorem dX9_draw_75 : decode cX9_draw 75 = .ok (.iload_n 2, 1) := by decide +kernel
theorem dX9_draw_76 : decode cX9_draw 76 = .ok (.if_icmp .ge 61, 3) := by decide +kernel
theorem dX9_draw_79 : decode cX9_draw 79 = .ok (.lload 4, 2) := by decide +kernel
theorem dX9_draw_81 : decode cX9_draw 81 = .ok (.ldc2_w 161, 3) := by decide +kernel
theorem dX9_draw_84 : decode cX9_draw 84 = .ok (.lmul, 1) := by decide +kernel
theorem dX9_draw_85 : decode cX9_draw 85 = .ok (.ldc2_w 163, 3) := by decide +kernel
theorem dX9_draw_88 : decode cX9_draw 88 = .ok (.ladd, 1) := by decide +kernel
theorem dX9_draw_89 : decode cX9_draw 89 = .ok (.ldc2_w 165, 3) := by decide +kernel
theorem dX9_draw_92 : decode cX9_draw 92 = .ok (.lrem, 1) := by decide +kernel
theorem dX9_draw_93 : decode cX9_draw 93 = .ok (.lstore 4, 2) := by decide +kernel
theorem dX9_draw_95 : decode cX9_draw 95 = .ok (.lload 4, 2) := by decide +kernel
theorem dX9_draw_97 : decode cX9_draw 97 = .ok (.ldc2_w 82, 3) := by decide +kernel
theorem dX9_draw_100 : decode cX9_draw 100 = .ok (.ldiv, 1) := by decide +kernel
theorem dX9_draw_101 : decode cX9_draw 101 = .ok (.ldc2_w 159, 3) := by decide +kernel
theorem dX9_draw_104 : decode cX9_draw 104 = .ok (.lrem, 1) := by decide +kernel
theorem dX9_draw_105 : decode cX9_draw 105 = .ok (.iload_n 3, 1) := by decide +kernel
theorem dX9_draw_106 : decode cX9_draw 106 = .ok (.i2l, 1) := by decide +kernel
theorem dX9_draw_107 : decode cX9_draw 107 = .ok (.lcmp, 1) := by decide +kernel
theorem dX9_draw_108 : decode cX9_draw 108 = .ok (.ifCond .ge 7, 3) := by decide +kernel
theorem dX9_draw_111 : decode cX9_draw 111 = .ok (.iconst 1, 1) := by decide +kernel
theorem dX9_draw_112 : decode cX9_draw 112 = .ok (.goto 4, 3) := by decide +kernel
theorem dX9_draw_115 : decode cX9_draw 115 = .ok (.iconst 0, 1) := by decide +kernel
theorem dX9_draw_116 : decode cX9_draw 116 = .ok (.istore 8, 2) := by decide +kernel
theorem dX9_draw_118 : decode cX9_draw 118 = .ok (.aload_n 0, 1) := by decide +kernel
theorem dX9_draw_119 : decode cX9_draw 119 = .ok (.iload 8, 2) := by decide +kernel
theorem dX9_draw_121 : decode cX9_draw 121 = .ok (.invokevirtual 151, 3) := by decide +kernel
theorem dX9_draw_124 : decode cX9_draw 124 = .ok (.iload 6, 2) := by decide +kernel
theorem dX9_draw_126 : decode cX9_draw 126 = .ok (.iload 8, 2) := by decide +kernel
theorem dX9_draw_128 : decode cX9_draw 128 = .ok (.iadd, 1) := by decide +kernel
theorem dX9_draw_129 : decode cX9_draw 129 = .ok (.istore 6, 2) := by decide +kernel
theorem dX9_draw_131 : decode cX9_draw 131 = .ok (.iinc 7 1, 3) := by decide +kernel
theorem dX9_draw_134 : decode cX9_draw 134 = .ok (.goto (-61), 3) := by decide +kernel
theorem dX9_draw_137 : decode cX9_draw 137 = .ok (.iload 6, 2) := by decide +kernel
theorem dX9_draw_139 : decode cX9_draw 139 = .ok (.ireturn, 1) := by decide +kernel
theorem dX9_sets_0 : decode cX9_sets 0 = .ok (.iload_n 1, 1) := by decide +kernel
theorem dX9_sets_1 : decode cX9_sets 1 = .ok (.i2l, 1) := by decide +kernel
theorem dX9_sets_2 : decode cX9_sets 2 = .ok (.lconst 0, 1) := by decide +kernel
theorem dX9_sets_3 : decode cX9_sets 3 = .ok (.lconst 1, 1) := by decide +kernel
theorem dX9_sets_4 : decode cX9_sets 4 = .ok (.invokestatic 138, 3) := by decide +kernel
theorem dX9_sets_7 : decode cX9_sets 7 = .ok (.ifCond .eq 25, 3) := by decide +kernel
theorem dX9_sets_10 : decode cX9_sets 10 = .ok (.iload_n 2, 1) := by decide +kernel
theorem dX9_sets_11 : decode cX9_sets 11 = .ok (.i2l, 1) := by decide +kernel
theorem dX9_sets_12 : decode cX9_sets 12 = .ok (.lconst 0, 1) := by decide +kernel
theorem dX9_sets_13 : decode cX9_sets 13 = .ok (.iload_n 1, 1) := by decide +kernel
theorem dX9_sets_14 : decode cX9_sets 14 = .ok (.ifCond .ne 9, 3) := by decide +kernel
theorem dX9_sets_17 : decode cX9_sets 17 = .ok (.ldc2_w 167, 3) := by decide +kernel
theorem dX9_sets_20 : decode cX9_sets 20 = .ok (.goto 6, 3) := by decide +kernel
theorem dX9_sets_23 : decode cX9_sets 23 = .ok (.ldc2_w 169, 3) := by decide +kernel
theorem dX9_sets_26 : decode cX9_sets 26 = .ok (.invokestatic 138, 3) := by decide +kernel
theorem dX9_sets_29 : decode cX9_sets 29 = .ok (.ifCond .ne 10, 3) := by decide +kernel
theorem dX9_sets_32 : decode cX9_sets 32 = .ok (.aload_n 0, 1) := by decide +kernel
theorem dX9_sets_33 : decode cX9_sets 33 = .ok (.bipush (-2), 2) := by decide +kernel
theorem dX9_sets_35 : decode cX9_sets 35 = .ok (.invokevirtual 142, 3) := by decide +kernel
theorem dX9_sets_38 : decode cX9_sets 38 = .ok (.ireturn, 1) := by decide +kernel
theorem dX9_sets_39 : decode cX9_sets 39 = .ok (.aload_n 0, 1) := by decide +kernel
theorem dX9_sets_40 : decode cX9_sets 40 = .ok (.invokevirtual 148, 3) := by decide +kernel
theorem dX9_sets_43 : decode cX9_sets 43 = .ok (.aload_n 0, 1) := by decide +kernel
theorem dX9_sets_44 : decode cX9_sets 44 = .ok (.getfield 7, 3) := by decide +kernel
theorem dX9_sets_47 : decode cX9_sets 47 = .ok (.bipush 101, 2) := by decide +kernel
theorem dX9_sets_49 : decode cX9_sets 49 = .ok (.iload_n 1, 1) := by decide +kernel
theorem dX9_sets_50 : decode cX9_sets 50 = .ok (.iadd, 1) := by decide +kernel
theorem dX9_sets_51 : decode cX9_sets 51 = .ok (.iaload, 1) := by decide +kernel
theorem dX9_sets_52 : decode cX9_sets 52 = .ok (.istore_n 3, 1) := by decide +kernel
theorem dX9_sets_53 : decode cX9_sets 53 = .ok (.aload_n 0, 1) := by decide +kernel
theorem dX9_sets_54 : decode cX9_sets 54 = .ok (.getfield 7, 3) := by decide +kernel
theorem dX9_sets_57 : decode cX9_sets 57 = .ok (.bipush 101, 2) := by decide +kernel
theorem dX9_sets_59 : decode cX9_sets 59 = .ok (.iload_n 1, 1) := by decide +kernel
theorem dX9_sets_60 : decode cX9_sets 60 = .ok (.iadd, 1) := by decide +kernel
theorem dX9_sets_61 : decode cX9_sets 61 = .ok (.iload_n 2, 1) := by decide +kernel
theorem dX9_sets_62 : decode cX9_sets 62 = .ok (.iastore, 1) := by decide +kernel
theorem dX9_sets_63 : decode cX9_sets 63 = .ok (.iload_n 3, 1) := by decide +kernel
theorem dX9_sets_64 : decode cX9_sets 64 = .ok (.ireturn, 1) := by decide +kernel
theorem dX9_empties_0 : decode cX9_empties 0 = .ok (.aload_n 0, 1) := by decide +kernel
theorem dX9_empties_1 : decode cX9_empties 1 = .ok (.invokevirtual 112, 3) := by decide +kernel
theorem dX9_empties_4 : decode cX9_empties 4 = .ok (.istore_n 1, 1) := by decide +kernel
theorem dX9_empties_5 : decode cX9_empties 5 = .ok (.aload_n 0, 1) := by decide +kernel
theorem dX9_empties_6 : decode cX9_empties 6 = .ok (.invokevirtual 148, 3) := by decide +kernel
theorem dX9_empties_9 : decode cX9_empties 9 = .ok (.aload_n 0, 1) := by decide +kernel
theorem dX9_empties_10 : decode cX9_empties 10 = .ok (.getfield 7, 3) := by decide +kernel
theorem dX9_empties_13 : decode cX9_empties 13 = .ok (.bipush 100, 2) := by decide +kernel
theorem dX9_empties_15 : decode cX9_empties 15 = .ok (.iconst 0, 1) := by decide +kernel
theorem dX9_empties_16 : decode cX9_empties 16 = .ok (.iastore, 1) := by decide +kernel
theorem dX9_empties_17 : decode cX9_empties 17 = .ok (.iload_n 1, 1) := by decide +kernel
theorem dX9_empties_18 : decode cX9_empties 18 = .ok (.ireturn, 1) := by decide +kernel
theorem dX9_drop_0 : decode cX9_drop 0 = .ok (.aload_n 0, 1) := by decide +kernel
theorem dX9_drop_1 : decode cX9_drop 1 = .ok (.invokevirtual 112, 3) := by decide +kernel
theorem dX9_drop_4 : decode cX9_drop 4 = .ok (.ifCond .ne 8, 3) := by decide +kernel
theorem dX9_drop_7 : decode cX9_drop 7 = .ok (.aload_n 0, 1) := by decide +kernel
theorem dX9_drop_8 : decode cX9_drop 8 = .ok (.invokevirtual 171, 3) := by decide +kernel
theorem dX9_drop_11 : decode cX9_drop 11 = .ok (.ireturn, 1) := by decide +kernel
theorem dX9_drop_12 : decode cX9_drop 12 = .ok (.aload_n 0, 1) := by decide +kernel
theorem dX9_drop_13 : decode cX9_drop 13 = .ok (.invokevirtual 148, 3) := by decide +kernel
theorem dX9_drop_16 : decode cX9_drop 16 = .ok (.aload_n 0, 1) := by decide +kernel
theorem dX9_drop_17 : decode cX9_drop 17 = .ok (.getfield 7, 3) := by decide +kernel
theorem dX9_drop_20 : decode cX9_drop 20 = .ok (.bipush 100, 2) := by decide +kernel
theorem dX9_drop_22 : decode cX9_drop 22 = .ok (.dup2, 1) := by decide +kernel
theorem dX9_drop_23 : decode cX9_drop 23 = .ok (.iaload, 1) := by decide +kernel
theorem dX9_drop_24 : decode cX9_drop 24 = .ok (.iconst 1, 1) := by decide +kernel
theorem dX9_drop_25 : decode cX9_drop 25 = .ok (.isub, 1) := by decide +kernel
theorem dX9_drop_26 : decode cX9_drop 26 = .ok (.iastore, 1) := by decide +kernel
theorem dX9_drop_27 : decode cX9_drop 27 = .ok (.aload_n 0, 1) := by decide +kernel
theorem dX9_drop_28 : decode cX9_drop 28 = .ok (.invokevirtual 112, 3) := by decide +kernel
theorem dX9_drop_31 : decode cX9_drop 31 = .ok (.ireturn, 1) := by decide +kernel
theorem dX9_at_0 : decode cX9_at 0 = .ok (.iload_n 1, 1) := by decide +kernel
theorem dX9_at_1 : decode cX9_at 1 = .ok (.i2l, 1) := by decide +kernel
theorem dX9_at_2 : decode cX9_at 2 = .ok (.lconst 0, 1) := by decide +kernel
theorem dX9_at_3 : decode cX9_at 3 = .ok (.aload_n 0, 1) := by decide +kernel
theorem dX9_at_4 : decode cX9_at 4 = .ok (.invokevirtual 112, 3) := by decide +kernel
theorem dX9_at_7 : decode cX9_at 7 = .ok (.iconst 1, 1) := by decide +kernel
theorem dX9_at_8 : decode cX9_at 8 = .ok (.isub, 1) := by decide +kernel
theorem dX9_at_9 : decode cX9_at 9 = .ok (.i2l, 1) := by decide +kernel
theorem dX9_at_10 : decode cX9_at 10 = .ok (.invokestatic 138, 3) := by decide +kernel
theorem dX9_at_13 : decode cX9_at 13 = .ok (.ifCond .eq 12, 3) := by decide +kernel
theorem dX9_at_16 : decode cX9_at 16 = .ok (.aload_n 0, 1) := by decide +kernel
theorem dX9_at_17 : decode cX9_at 17 = .ok (.getfield 7, 3) := by decide +kernel
theorem dX9_at_20 : decode cX9_at 20 = .ok (.iload_n 1, 1) := by decide +kernel
theorem dX9_at_21 : decode cX9_at 21 = .ok (.iaload, 1) := by decide +kernel
theorem dX9_at_22 : decode cX9_at 22 = .ok (.goto 9, 3) := by decide +kernel
theorem dX9_at_25 : decode cX9_at 25 = .ok (.aload_n 0, 1) := by decide +kernel
theorem dX9_at_26 : decode cX9_at 26 = .ok (.bipush (-2), 2) := by decide +kernel
theorem dX9_at_28 : decode cX9_at 28 = .ok (.invokevirtual 142, 3) := by decide +kernel
theorem dX9_at_31 : decode cX9_at 31 = .ok (.ireturn, 1) := by decide +kernel
theorem dX9_guessNow_0 : decode cX9_guessNow 0 = .ok (.aload_n 0, 1) := by decide +kernel
theorem dX9_guessNow_1 : decode cX9_guessNow 1 = .ok (.invokevirtual 132, 3) := by decide +kernel
theorem dX9_guessNow_4 : decode cX9_guessNow 4 = .ok (.istore_n 1, 1) := by decide +kernel
theorem dX9_guessNow_5 : decode cX9_guessNow 5 = .ok (.aload_n 0, 1) := by decide +kernel
theorem dX9_guessNow_6 : decode cX9_guessNow 6 = .ok (.invokevirtual 116, 3) := by decide +kernel
theorem dX9_guessNow_9 : decode cX9_guessNow 9 = .ok (.ireturn, 1) := by decide +kernel
theorem dX9_guess_0 : decode cX9_guess 0 = .ok (.aload_n 0, 1) := by decide +kernel
theorem dX9_guess_1 : decode cX9_guess 1 = .ok (.invokevirtual 174, 3) := by decide +kernel
theorem dX9_guess_4 : decode cX9_guess 4 = .ok (.ireturn, 1) := by decide +kernel
theorem dX9_was_0 : decode cX9_was 0 = .ok (.iload_n 1, 1) := by decide +kernel
theorem dX9_was_1 : decode cX9_was 1 = .ok (.i2l, 1) := by decide +kernel
theorem dX9_was_2 : decode cX9_was 2 = .ok (.lconst 0, 1) := by decide +kernel
theorem dX9_was_3 : decode cX9_was 3 = .ok (.aload_n 0, 1) := by decide +kernel
theorem dX9_was_4 : decode cX9_was 4 = .ok (.invokevirtual 112, 3) := by decide +kernel
theorem dX9_was_7 : decode cX9_was 7 = .ok (.iconst 1, 1) := by decide +kernel
theorem dX9_was_8 : decode cX9_was 8 = .ok (.isub, 1) := by decide +kernel
theorem dX9_was_9 : decode cX9_was 9 = .ok (.i2l, 1) := by decide +kernel
theorem dX9_was_10 : decode cX9_was 10 = .ok (.invokestatic 138, 3) := by decide +kernel
theorem dX9_was_13 : decode cX9_was 13 = .ok (.ifCond .eq 13, 3) := by decide +kernel
theorem dX9_was_16 : decode cX9_was 16 = .ok (.iload_n 2, 1) := by decide +kernel
theorem dX9_was_17 : decode cX9_was 17 = .ok (.i2l, 1) := by decide +kernel
theorem dX9_was_18 : decode cX9_was 18 = .ok (.lconst 0, 1) := by decide +kernel
theorem dX9_was_19 : decode cX9_was 19 = .ok (.lconst 1, 1) := by decide +kernel
theorem dX9_was_20 : decode cX9_was 20 = .ok (.invokestatic 138, 3) := by decide +kernel
theorem dX9_was_23 : decode cX9_was 23 = .ok (.ifCond .ne 10, 3) := by decide +kernel
theorem dX9_was_26 : decode cX9_was 26 = .ok (.aload_n 0, 1) := by decide +kernel
theorem dX9_was_27 : decode cX9_was 27 = .ok (.bipush (-2), 2) := by decide +kernel
theorem dX9_was_29 : decode cX9_was 29 = .ok (.invokevirtual 142, 3) := by decide +kernel
theorem dX9_was_32 : decode cX9_was 32 = .ok (.ireturn, 1) := by decide +kernel
theorem dX9_was_33 : decode cX9_was 33 = .ok (.aload_n 0, 1) := by decide +kernel
theorem dX9_was_34 : decode cX9_was 34 = .ok (.invokevirtual 132, 3) := by decide +kernel
theorem dX9_was_37 : decode cX9_was 37 = .ok (.istore_n 3, 1) := by decide +kernel
theorem dX9_was_38 : decode cX9_was 38 = .ok (.iload_n 2, 1) := by decide +kernel
theorem dX9_was_39 : decode cX9_was 39 = .ok (.ifCond .ne 12, 3) := by decide +kernel
theorem dX9_was_42 : decode cX9_was 42 = .ok (.aload_n 0, 1) := by decide +kernel
theorem dX9_was_43 : decode cX9_was 43 = .ok (.getfield 43, 3) := by decide +kernel
theorem dX9_was_46 : decode cX9_was 46 = .ok (.iload_n 1, 1) := by decide +kernel
theorem dX9_was_47 : decode cX9_was 47 = .ok (.iaload, 1) := by decide +kernel
theorem dX9_was_48 : decode cX9_was 48 = .ok (.goto 8, 3) := by decide +kernel
theorem dX9_was_51 : decode cX9_was 51 = .ok (.aload_n 0, 1) := by decide +kernel
theorem dX9_was_52 : decode cX9_was 52 = .ok (.iload_n 1, 1) := by decide +kernel
theorem dX9_was_53 : decode cX9_was 53 = .ok (.invokevirtual 135, 3) := by decide +kernel
theorem dX9_was_56 : decode cX9_was 56 = .ok (.ireturn, 1) := by decide +kernel
theorem dX9_isNode_0 : decode cX9_isNode 0 = .ok (.iload_n 1, 1) := by decide +kernel
theorem dX9_isNode_1 : decode cX9_isNode 1 = .ok (.i2l, 1) := by decide +kernel
theorem dX9_isNode_2 : decode cX9_isNode 2 = .ok (.lconst 0, 1) := by decide +kernel
theorem dX9_isNode_3 : decode cX9_isNode 3 = .ok (.aload_n 0, 1) := by decide +kernel
theorem dX9_isNode_4 : decode cX9_isNode 4 = .ok (.invokevirtual 123, 3) := by decide +kernel
theorem dX9_isNode_7 : decode cX9_isNode 7 = .ok (.i2l, 1) := by decide +kernel
theorem dX9_isNode_8 : decode cX9_isNode 8 = .ok (.invokestatic 138, 3) := by decide +kernel
theorem dX9_isNode_11 : decode cX9_isNode 11 = .ok (.ifCond .eq 22, 3) := by decide +kernel
theorem dX9_isNode_14 : decode cX9_isNode 14 = .ok (.iload_n 2, 1) := by decide +kernel
theorem dX9_isNode_15 : decode cX9_isNode 15 = .ok (.i2l, 1) := by decide +kernel
theorem dX9_isNode_16 : decode cX9_isNode 16 = .ok (.lconst 0, 1) := by decide +kernel
theorem dX9_isNode_17 : decode cX9_isNode 17 = .ok (.iconst 1, 1) := by decide +kernel
theorem dX9_isNode_18 : decode cX9_isNode 18 = .ok (.iload_n 1, 1) := by decide +kernel
theorem dX9_isNode_19 : decode cX9_isNode 19 = .ok (.ishl, 1) := by decide +kernel
theorem dX9_isNode_20 : decode cX9_isNode 20 = .ok (.iconst 1, 1) := by decide +kernel
theorem dX9_isNode_21 : decode cX9_isNode 21 = .ok (.isub, 1) := by decide +kernel
theorem dX9_isNode_22 : decode cX9_isNode 22 = .ok (.i2l, 1) := by decide +kernel
theorem dX9_isNode_23 : decode cX9_isNode 23 = .ok (.invokestatic 138, 3) := by decide +kernel
theorem dX9_isNode_26 : decode cX9_isNode 26 = .ok (.ifCond .eq 7, 3) := by decide +kernel
theorem dX9_isNode_29 : decode cX9_isNode 29 = .ok (.iconst 1, 1) := by decide +kernel
theorem dX9_isNode_30 : decode cX9_isNode 30 = .ok (.goto 4, 3) := by decide +kernel
theorem dX9_isNode_33 : decode cX9_isNode 33 = .ok (.iconst 0, 1) := by decide +kernel
theorem dX9_isNode_34 : decode cX9_isNode 34 = .ok (.ireturn, 1) := by decide +kernel
theorem dX9_node_0 : decode cX9_node 0 = .ok (.aload_n 0, 1) := by decide +kernel
theorem dX9_node_1 : decode cX9_node 1 = .ok (.iload_n 1, 1) := by decide +kernel
theorem dX9_node_2 : decode cX9_node 2 = .ok (.iload_n 2, 1) := by decide +kernel
theorem dX9_node_3 : decode cX9_node 3 = .ok (.invokevirtual 177, 3) := by decide +kernel
theorem dX9_node_6 : decode cX9_node 6 = .ok (.ifCond .eq 15, 3) := by decide +kernel
theorem dX9_node_9 : decode cX9_node 9 = .ok (.iload_n 3, 1) := by decide +kernel
theorem dX9_node_10 : decode cX9_node 10 = .ok (.i2l, 1) := by decide +kernel
theorem dX9_node_11 : decode cX9_node 11 = .ok (.lconst 0, 1) := by decide +kernel
theorem dX9_node_12 : decode cX9_node 12 = .ok (.ldc2_w 169, 3) := by decide +kernel
theorem dX9_node_15 : decode cX9_node 15 = .ok (.invokestatic 138, 3) := by decide +kernel
theorem dX9_node_18 : decode cX9_node 18 = .ok (.ifCond .ne 10, 3) := by decide +kernel
theorem dX9_node_21 : decode cX9_node 21 = .ok (.aload_n 0, 1) := by decide +kernel
theorem dX9_node_22 : decode cX9_node 22 = .ok (.bipush (-2), 2) := by decide +kernel
theorem dX9_node_24 : decode cX9_node 24 = .ok (.invokevirtual 142, 3) := by decide +kernel
theorem dX9_node_27 : decode cX9_node 27 = .ok (.ireturn, 1) := by decide +kernel
theorem dX9_node_28 : decode cX9_node 28 = .ok (.aload_n 0, 1) := by decide +kernel
theorem dX9_node_29 : decode cX9_node 29 = .ok (.invokevirtual 132, 3) := by decide +kernel
theorem dX9_node_32 : decode cX9_node 32 = .ok (.istore 4, 2) := by decide +kernel
theorem dX9_node_34 : decode cX9_node 34 = .ok (.iload_n 1, 1) := by decide +kernel
theorem dX9_node_35 : decode cX9_node 35 = .ok (.iload_n 2, 1) := by decide +kernel
theorem dX9_node_36 : decode cX9_node 36 = .ok (.invokestatic 88, 3) := by decide +kernel
theorem dX9_node_39 : decode cX9_node 39 = .ok (.istore 5, 2) := by decide +kernel
theorem dX9_node_41 : decode cX9_node 41 = .ok (.iload_n 3, 1) := by decide +kernel
theorem dX9_node_42 : decode cX9_node 42 = .ok (.ifCond .ne 13, 3) := by decide +kernel
theorem dX9_node_45 : decode cX9_node 45 = .ok (.aload_n 0, 1) := by decide +kernel
theorem dX9_node_46 : decode cX9_node 46 = .ok (.getfield 22, 3) := by decide +kernel
theorem dX9_node_49 : decode cX9_node 49 = .ok (.iload 5, 2) := by decide +kernel
theorem dX9_node_51 : decode cX9_node 51 = .ok (.iaload, 1) := by decide +kernel
theorem dX9_node_52 : decode cX9_node 52 = .ok (.goto 52, 3) := by decide +kernel
theorem dX9_node_55 : decode cX9_node 55 = .ok (.iload_n 3, 1) := by decide +kernel
theorem dX9_node_56 : decode cX9_node 56 = .ok (.iconst 1, 1) := by decide +kernel
theorem dX9_node_57 : decode cX9_node 57 = .ok (.if_icmp .ne 13, 3) := by decide +kernel
theorem dX9_node_60 : decode cX9_node 60 = .ok (.aload_n 0, 1) := by decide +kernel
theorem dX9_node_61 : decode cX9_node 61 = .ok (.getfield 25, 3) := by decide +kernel
theorem dX9_node_64 : decode cX9_node 64 = .ok (.iload 5, 2) := by decide +kernel
theorem dX9_node_66 : decode cX9_node 66 = .ok (.iaload, 1) := by decide +kernel
theorem dX9_node_67 : decode cX9_node 67 = .ok (.goto 37, 3) := by decide +kernel
theorem dX9_node_70 : decode cX9_node 70 = .ok (.iload_n 3, 1) := by decide +kernel
theorem dX9_node_71 : decode cX9_node 71 = .ok (.iconst 2, 1) := by decide +kernel
theorem dX9_node_72 : decode cX9_node 72 = .ok (.if_icmp .ne 12, 3) := by decide +kernel
theorem dX9_node_75 : decode cX9_node 75 = .ok (.aload_n 0, 1) := by decide +kernel
theorem dX9_node_76 : decode cX9_node 76 = .ok (.iload 5, 2) := by decide +kernel
theorem dX9_node_78 : decode cX9_node 78 = .ok (.invokevirtual 92, 3) := by decide +kernel
theorem dX9_node_81 : decode cX9_node 81 = .ok (.goto 23, 3) := by decide +kernel
theorem dX9_node_84 : decode cX9_node 84 = .ok (.iload_n 1, 1) := by decide +kernel
theorem dX9_node_85 : decode cX9_node 85 = .ok (.aload_n 0, 1) := by decide +kernel
theorem dX9_node_86 : decode cX9_node 86 = .ok (.invokevirtual 123, 3) := by decide +kernel
theorem dX9_node_89 : decode cX9_node 89 = .ok (.if_icmp .ne 8, 3) := by decide +kernel
theorem dX9_node_92 : decode cX9_node 92 = .ok (.ldc 96, 2) := by decide +kernel
theorem dX9_node_94 : decode cX9_node 94 = .ok (.goto 10, 3) := by decide +kernel
theorem dX9_node_97 : decode cX9_node 97 = .ok (.aload_n 0, 1) := by decide +kernel
theorem dX9_node_98 : decode cX9_node 98 = .ok (.getfield 28, 3) := by decide +kernel
theorem dX9_node_101 : decode cX9_node 101 = .ok (.iload 5, 2) := by decide +kernel
theorem dX9_node_103 : decode cX9_node 103 = .ok (.iaload, 1) := by decide +kernel
theorem dX9_node_104 : decode cX9_node 104 = .ok (.ireturn, 1) := by decide +kernel
theorem dX9_cost_0 : decode cX9_cost 0 = .ok (.aload_n 0, 1) := by decide +kernel
theorem dX9_cost_1 : decode cX9_cost 1 = .ok (.invokevirtual 132, 3) := by decide +kernel
theorem dX9_cost_4 : decode cX9_cost 4 = .ok (.ireturn, 1) := by decide +kernel
theorem dX9_costBy_0 : decode cX9_costBy 0 = .ok (.iload_n 1, 1) := by decide +kernel
theorem dX9_costBy_1 : decode cX9_costBy 1 = .ok (.i2l, 1) := by decide +kernel
theorem dX9_costBy_2 : decode cX9_costBy 2 = .ok (.lconst 0, 1) := by decide +kernel
theorem dX9_costBy_3 : decode cX9_costBy 3 = .ok (.ldc2_w 167, 3) := by decide +kernel
theorem dX9_costBy_6 : decode cX9_costBy 6 = .ok (.invokestatic 138, 3) := by decide +kernel
theorem dX9_costBy_9 : decode cX9_costBy 9 = .ok (.ifCond .eq 24, 3) := by decide +kernel
theorem dX9_costBy_12 : decode cX9_costBy 12 = .ok (.iload_n 2, 1) := by decide +kernel
theorem dX9_costBy_13 : decode cX9_costBy 13 = .ok (.i2l, 1) := by decide +kernel
theorem dX9_costBy_14 : decode cX9_costBy 14 = .ok (.lconst 0, 1) := by decide +kernel
theorem dX9_costBy_15 : decode cX9_costBy 15 = .ok (.ldc2_w 169, 3) := by decide +kernel
theorem dX9_costBy_18 : decode cX9_costBy 18 = .ok (.invokestatic 138, 3) := by decide +kernel
theorem dX9_costBy_21 : decode cX9_costBy 21 = .ok (.ifCond .eq 12, 3) := by decide +kernel
theorem dX9_costBy_24 : decode cX9_costBy 24 = .ok (.aload_n 0, 1) := by decide +kernel
theorem dX9_costBy_25 : decode cX9_costBy 25 = .ok (.iload_n 1, 1) := by decide +kernel
theorem dX9_costBy_26 : decode cX9_costBy 26 = .ok (.iload_n 2, 1) := by decide +kernel
theorem dX9_costBy_27 : decode cX9_costBy 27 = .ok (.invokevirtual 129, 3) := by decide +kernel
theorem dX9_costBy_30 : decode cX9_costBy 30 = .ok (.goto 9, 3) := by decide +kernel
theorem dX9_costBy_33 : decode cX9_costBy 33 = .ok (.aload_n 0, 1) := by decide +kernel
theorem dX9_costBy_34 : decode cX9_costBy 34 = .ok (.bipush (-2), 2) := by decide +kernel
theorem dX9_costBy_36 : decode cX9_costBy 36 = .ok (.invokevirtual 142, 3) := by decide +kernel
theorem dX9_costBy_39 : decode cX9_costBy 39 = .ok (.ireturn, 1) := by decide +kernel
theorem dX9_best_0 : decode cX9_best 0 = .ok (.iload_n 1, 1) := by decide +kernel
theorem dX9_best_1 : decode cX9_best 1 = .ok (.i2l, 1) := by decide +kernel
theorem dX9_best_2 : decode cX9_best 2 = .ok (.lconst 0, 1) := by decide +kernel
theorem dX9_best_3 : decode cX9_best 3 = .ok (.ldc2_w 181, 3) := by decide +kernel
theorem dX9_best_6 : decode cX9_best 6 = .ok (.invokestatic 138, 3) := by decide +kernel
theorem dX9_best_9 : decode cX9_best 9 = .ok (.ifCond .ne 10, 3) := by decide +kernel
theorem dX9_best_12 : decode cX9_best 12 = .ok (.aload_n 0, 1) := by decide +kernel
theorem dX9_best_13 : decode cX9_best 13 = .ok (.bipush (-2), 2) := by decide +kernel
theorem dX9_best_15 : decode cX9_best 15 = .ok (.invokevirtual 142, 3) := by decide +kernel
theorem dX9_best_18 : decode cX9_best 18 = .ok (.ireturn, 1) := by decide +kernel
theorem dX9_best_19 : decode cX9_best 19 = .ok (.iconst 0, 1) := by decide +kernel
theorem dX9_best_20 : decode cX9_best 20 = .ok (.istore_n 2, 1) := by decide +kernel
theorem dX9_best_21 : decode cX9_best 21 = .ok (.aload_n 0, 1) := by decide +kernel
theorem dX9_best_22 : decode cX9_best 22 = .ok (.iconst 0, 1) := by decide +kernel
theorem dX9_best_23 : decode cX9_best 23 = .ok (.iconst 0, 1) := by decide +kernel
theorem dX9_best_24 : decode cX9_best 24 = .ok (.invokevirtual 129, 3) := by decide +kernel
theorem dX9_best_27 : decode cX9_best 27 = .ok (.istore_n 3, 1) := by decide +kernel
theorem dX9_best_28 : decode cX9_best 28 = .ok (.iconst 1, 1) := by decide +kernel
theorem dX9_best_29 : decode cX9_best 29 = .ok (.istore 4, 2) := by decide +kernel
theorem dX9_best_31 : decode cX9_best 31 = .ok (.iload 4, 2) := by decide +kernel
theorem dX9_best_33 : decode cX9_best 33 = .ok (.bipush 28, 2) := by decide +kernel
theorem dX9_best_35 : decode cX9_best 35 = .ok (.if_icmp .ge 49, 3) := by decide +kernel
theorem dX9_best_38 : decode cX9_best 38 = .ok (.aload_n 0, 1) := by decide +kernel
theorem dX9_best_39 : decode cX9_best 39 = .ok (.iload 4, 2) := by decide +kernel
theorem dX9_best_41 : decode cX9_best 41 = .ok (.iconst 4, 1) := by decide +kernel
theorem dX9_best_42 : decode cX9_best 42 = .ok (.idiv, 1) := by decide +kernel
theorem dX9_best_43 : decode cX9_best 43 = .ok (.iload 4, 2) := by decide +kernel
theorem dX9_best_45 : decode cX9_best 45 = .ok (.iconst 4, 1) := by decide +kernel
theorem dX9_best_46 : decode cX9_best 46 = .ok (.irem, 1) := by decide +kernel
theorem dX9_best_47 : decode cX9_best 47 = .ok (.invokevirtual 129, 3) := by decide +kernel
theorem dX9_best_50 : decode cX9_best 50 = .ok (.istore 5, 2) := by decide +kernel
theorem dX9_best_52 : decode cX9_best 52 = .ok (.iload 5, 2) := by decide +kernel
theorem dX9_best_54 : decode cX9_best 54 = .ok (.iload_n 3, 1) := by decide +kernel
theorem dX9_best_55 : decode cX9_best 55 = .ok (.if_icmp .ge 8, 3) := by decide +kernel
theorem dX9_best_58 : decode cX9_best 58 = .ok (.iload 4, 2) := by decide +kernel
theorem dX9_best_60 : decode cX9_best 60 = .ok (.goto 4, 3) := by decide +kernel
theorem dX9_best_63 : decode cX9_best 63 = .ok (.iload_n 2, 1) := by decide +kernel
theorem dX9_best_64 : decode cX9_best 64 = .ok (.istore_n 2, 1) := by decide +kernel
theorem dX9_best_65 : decode cX9_best 65 = .ok (.iload 5, 2) := by decide +kernel
theorem dX9_best_67 : decode cX9_best 67 = .ok (.iload_n 3, 1) := by decide +kernel
theorem dX9_best_68 : decode cX9_best 68 = .ok (.if_icmp .ge 8, 3) := by decide +kernel
theorem dX9_best_71 : decode cX9_best 71 = .ok (.iload 5, 2) := by decide +kernel
theorem dX9_best_73 : decode cX9_best 73 = .ok (.goto 4, 3) := by decide +kernel
theorem dX9_best_76 : decode cX9_best 76 = .ok (.iload_n 3, 1) := by decide +kernel
theorem dX9_best_77 : decode cX9_best 77 = .ok (.istore_n 3, 1) := by decide +kernel
theorem dX9_best_78 : decode cX9_best 78 = .ok (.iinc 4 1, 3) := by decide +kernel
theorem dX9_best_81 : decode cX9_best 81 = .ok (.goto (-50), 3) := by decide +kernel
theorem dX9_best_84 : decode cX9_best 84 = .ok (.iload_n 1, 1) := by decide +kernel
theorem dX9_best_85 : decode cX9_best 85 = .ok (.ifCond .ne 9, 3) := by decide +kernel
theorem dX9_best_88 : decode cX9_best 88 = .ok (.iload_n 2, 1) := by decide +kernel
theorem dX9_best_89 : decode cX9_best 89 = .ok (.iconst 4, 1) := by decide +kernel
theorem dX9_best_90 : decode cX9_best 90 = .ok (.idiv, 1) := by decide +kernel
theorem dX9_best_91 : decode cX9_best 91 = .ok (.goto 15, 3) := by decide +kernel
theorem dX9_best_94 : decode cX9_best 94 = .ok (.iload_n 1, 1) := by decide +kernel
theorem dX9_best_95 : decode cX9_best 95 = .ok (.iconst 1, 1) := by decide +kernel
theorem dX9_best_96 : decode cX9_best 96 = .ok (.if_icmp .ne 9, 3) := by decide +kernel
theorem dX9_best_99 : decode cX9_best 99 = .ok (.iload_n 2, 1) := by decide +kernel
theorem dX9_best_100 : decode cX9_best 100 = .ok (.iconst 4, 1) := by decide +kernel
theorem dX9_best_101 : decode cX9_best 101 = .ok (.irem, 1) := by decide +kernel
theorem dX9_best_102 : decode cX9_best 102 = .ok (.goto 4, 3) := by decide +kernel
theorem dX9_best_105 : decode cX9_best 105 = .ok (.iload_n 3, 1) := by decide +kernel
theorem dX9_best_106 : decode cX9_best 106 = .ok (.ireturn, 1) := by decide +kernel
theorem dX9_follows_0 : decode cX9_follows 0 = .ok (.iload_n 1, 1) := by decide +kernel
theorem dX9_follows_1 : decode cX9_follows 1 = .ok (.i2l, 1) := by decide +kernel
theorem dX9_follows_2 : decode cX9_follows 2 = .ok (.lconst 1, 1) := by decide +kernel
theorem dX9_follows_3 : decode cX9_follows 3 = .ok (.ldc2_w 183, 3) := by decide +kernel
theorem dX9_follows_6 : decode cX9_follows 6 = .ok (.invokestatic 138, 3) := by decide +kernel
theorem dX9_follows_9 : decode cX9_follows 9 = .ok (.ifCond .ne 10, 3) := by decide +kernel
theorem dX9_follows_12 : decode cX9_follows 12 = .ok (.aload_n 0, 1) := by decide +kernel
theorem dX9_follows_13 : decode cX9_follows 13 = .ok (.bipush (-2), 2) := by decide +kernel
theorem dX9_follows_15 : decode cX9_follows 15 = .ok (.invokevirtual 142, 3) := by decide +kernel
theorem dX9_follows_18 : decode cX9_follows 18 = .ok (.ireturn, 1) := by decide +kernel
theorem dX9_follows_19 : decode cX9_follows 19 = .ok (.iconst 0, 1) := by decide +kernel
theorem dX9_follows_20 : decode cX9_follows 20 = .ok (.istore_n 2, 1) := by decide +kernel
theorem dX9_follows_21 : decode cX9_follows 21 = .ok (.aload_n 0, 1) := by decide +kernel
theorem dX9_follows_22 : decode cX9_follows 22 = .ok (.invokevirtual 132, 3) := by decide +kernel
theorem dX9_follows_25 : decode cX9_follows 25 = .ok (.istore_n 3, 1) := by decide +kernel
theorem dX9_follows_26 : decode cX9_follows 26 = .ok (.iconst 0, 1) := by decide +kernel
theorem dX9_follows_27 : decode cX9_follows 27 = .ok (.istore 4, 2) := by decide +kernel
theorem dX9_follows_29 : decode cX9_follows 29 = .ok (.iload 4, 2) := by decide +kernel
theorem dX9_follows_31 : decode cX9_follows 31 = .ok (.iload_n 1, 1) := by decide +kernel
theorem dX9_follows_32 : decode cX9_follows 32 = .ok (.if_icmp .ge 39, 3) := by decide +kernel
theorem dX9_follows_35 : decode cX9_follows 35 = .ok (.aload_n 0, 1) := by decide +kernel
theorem dX9_follows_36 : decode cX9_follows 36 = .ok (.invokevirtual 116, 3) := by decide +kernel
theorem dX9_follows_39 : decode cX9_follows 39 = .ok (.ldc 78, 2) := by decide +kernel
theorem dX9_follows_41 : decode cX9_follows 41 = .ok (.if_icmp .lt 7, 3) := by decide +kernel
theorem dX9_follows_44 : decode cX9_follows 44 = .ok (.iconst 1, 1) := by decide +kernel
theorem dX9_follows_45 : decode cX9_follows 45 = .ok (.goto 4, 3) := by decide +kernel
theorem dX9_follows_48 : decode cX9_follows 48 = .ok (.iconst 0, 1) := by decide +kernel
theorem dX9_follows_49 : decode cX9_follows 49 = .ok (.istore 5, 2) := by decide +kernel
theorem dX9_follows_51 : decode cX9_follows 51 = .ok (.iload_n 2, 1) := by decide +kernel
theorem dX9_follows_52 : decode cX9_follows 52 = .ok (.iload 5, 2) := by decide +kernel
theorem dX9_follows_54 : decode cX9_follows 54 = .ok (.iload 4, 2) := by decide +kernel
theorem dX9_follows_56 : decode cX9_follows 56 = .ok (.ishl, 1) := by decide +kernel
theorem dX9_follows_57 : decode cX9_follows 57 = .ok (.ior, 1) := by decide +kernel
theorem dX9_follows_58 : decode cX9_follows 58 = .ok (.istore_n 2, 1) := by decide +kernel
theorem dX9_follows_59 : decode cX9_follows 59 = .ok (.aload_n 0, 1) := by decide +kernel
theorem dX9_follows_60 : decode cX9_follows 60 = .ok (.iload 5, 2) := by decide +kernel
theorem dX9_follows_62 : decode cX9_follows 62 = .ok (.invokevirtual 119, 3) := by decide +kernel
theorem dX9_follows_65 : decode cX9_follows 65 = .ok (.iinc 4 1, 3) := by decide +kernel
theorem dX9_follows_68 : decode cX9_follows 68 = .ok (.goto (-39), 3) := by decide +kernel
theorem dX9_follows_71 : decode cX9_follows 71 = .ok (.iload_n 2, 1) := by decide +kernel
theorem dX9_follows_72 : decode cX9_follows 72 = .ok (.ireturn, 1) := by decide +kernel
theorem dX9_plants_0 : decode cX9_plants 0 = .ok (.aload_n 0, 1) := by decide +kernel
theorem dX9_plants_1 : decode cX9_plants 1 = .ok (.invokevirtual 132, 3) := by decide +kernel
theorem dX9_plants_4 : decode cX9_plants 4 = .ok (.istore_n 1, 1) := by decide +kernel
theorem dX9_plants_5 : decode cX9_plants 5 = .ok (.aload_n 0, 1) := by decide +kernel
theorem dX9_plants_6 : decode cX9_plants 6 = .ok (.invokevirtual 123, 3) := by decide +kernel
theorem dX9_plants_9 : decode cX9_plants 9 = .ok (.istore_n 2, 1) := by decide +kernel
theorem dX9_plants_10 : decode cX9_plants 10 = .ok (.iload_n 2, 1) := by decide +kernel
theorem dX9_plants_11 : decode cX9_plants 11 = .ok (.ifCond .lt 156, 3) := by decide +kernel
theorem dX9_plants_14 : decode cX9_plants 14 = .ok (.iconst 0, 1) := by decide +kernel
theorem dX9_plants_15 : decode cX9_plants 15 = .ok (.istore_n 3, 1) := by decide +kernel
theorem dX9_plants_16 : decode cX9_plants 16 = .ok (.iload_n 3, 1) := by decide +kernel
theorem dX9_plants_17 : decode cX9_plants 17 = .ok (.iconst 1, 1) := by decide +kernel
theorem dX9_plants_18 : decode cX9_plants 18 = .ok (.iload_n 2, 1) := by decide +kernel
theorem dX9_plants_19 : decode cX9_plants 19 = .ok (.ishl, 1) := by decide +kernel
theorem dX9_plants_20 : decode cX9_plants 20 = .ok (.if_icmp .ge 141, 3) := by decide +kernel
theorem dX9_plants_23 : decode cX9_plants 23 = .ok (.iload_n 2, 1) := by decide +kernel
theorem dX9_plants_24 : decode cX9_plants 24 = .ok (.iload_n 3, 1) := by decide +kernel
theorem dX9_plants_25 : decode cX9_plants 25 = .ok (.invokestatic 88, 3) := by decide +kernel
theorem dX9_plants_28 : decode cX9_plants 28 = .ok (.istore 4, 2) := by decide +kernel
theorem dX9_plants_30 : decode cX9_plants 30 = .ok (.iload_n 2, 1) := by decide +kernel
theorem dX9_plants_31 : decode cX9_plants 31 = .ok (.aload_n 0, 1) := by decide +kernel
theorem dX9_plants_32 : decode cX9_plants 32 = .ok (.invokevirtual 123, 3) := by decide +kernel
theorem dX9_plants_35 : decode cX9_plants 35 = .ok (.if_icmp .ne 7, 3) := by decide +kernel
theorem dX9_plants_38 : decode cX9_plants 38 = .ok (.iconst 1, 1) := by decide +kernel
theorem dX9_plants_39 : decode cX9_plants 39 = .ok (.goto 4, 3) := by decide +kernel
theorem dX9_plants_42 : decode cX9_plants 42 = .ok (.iconst 0, 1) := by decide +kernel
theorem dX9_plants_43 : decode cX9_plants 43 = .ok (.istore 5, 2) := by decide +kernel
theorem dX9_plants_45 : decode cX9_plants 45 = .ok (.iload 5, 2) := by decide +kernel
theorem dX9_plants_47 : decode cX9_plants 47 = .ok (.ifCond .eq 7, 3) := by decide +kernel
theorem dX9_plants_50 : decode cX9_plants 50 = .ok (.iconst 0, 1) := by decide +kernel
theorem dX9_plants_51 : decode cX9_plants 51 = .ok (.goto 32, 3) := by decide +kernel
theorem dX9_plants_54 : decode cX9_plants 54 = .ok (.aload_n 0, 1) := by decide +kernel
theorem dX9_plants_55 : decode cX9_plants 55 = .ok (.getfield 46, 3) := by decide +kernel
theorem dX9_plants_58 : decode cX9_plants 58 = .ok (.iload_n 2, 1) := by decide +kernel
theorem dX9_plants_59 : decode cX9_plants 59 = .ok (.iconst 1, 1) := by decide +kernel
theorem dX9_plants_60 : decode cX9_plants 60 = .ok (.iadd, 1) := by decide +kernel
theorem dX9_plants_61 : decode cX9_plants 61 = .ok (.iload_n 3, 1) := by decide +kernel
theorem dX9_plants_62 : decode cX9_plants 62 = .ok (.invokestatic 88, 3) := by decide +kernel
theorem dX9_plants_65 : decode cX9_plants 65 = .ok (.iaload, 1) := by decide +kernel
theorem dX9_plants_66 : decode cX9_plants 66 = .ok (.aload_n 0, 1) := by decide +kernel
theorem dX9_plants_67 : decode cX9_plants 67 = .ok (.getfield 46, 3) := by decide +kernel
theorem dX9_plants_70 : decode cX9_plants 70 = .ok (.iload_n 2, 1) := by decide +kernel
theorem dX9_plants_71 : decode cX9_plants 71 = .ok (.iconst 1, 1) := by decide +kernel
theorem dX9_plants_72 : decode cX9_plants 72 = .ok (.iadd, 1) := by decide +kernel
theorem dX9_plants_73 : decode cX9_plants 73 = .ok (.iload_n 3, 1) := by decide +kernel
theorem dX9_plants_74 : decode cX9_plants 74 = .ok (.iconst 1, 1) := by decide +kernel
theorem dX9_plants_75 : decode cX9_plants 75 = .ok (.iload_n 2, 1) := by decide +kernel
theorem dX9_plants_76 : decode cX9_plants 76 = .ok (.ishl, 1) := by decide +kernel
theorem dX9_plants_77 : decode cX9_plants 77 = .ok (.iadd, 1) := by decide +kernel
theorem dX9_plants_78 : decode cX9_plants 78 = .ok (.invokestatic 88, 3) := by decide +kernel
theorem dX9_plants_81 : decode cX9_plants 81 = .ok (.iaload, 1) := by decide +kernel
theorem dX9_plants_82 : decode cX9_plants 82 = .ok (.iadd, 1) := by decide +kernel
theorem dX9_plants_83 : decode cX9_plants 83 = .ok (.istore 6, 2) := by decide +kernel
theorem dX9_plants_85 : decode cX9_plants 85 = .ok (.aload_n 0, 1) := by decide +kernel
theorem dX9_plants_86 : decode cX9_plants 86 = .ok (.getfield 49, 3) := by decide +kernel
theorem dX9_plants_89 : decode cX9_plants 89 = .ok (.iload 4, 2) := by decide +kernel
theorem dX9_plants_91 : decode cX9_plants 91 = .ok (.iload 5, 2) := by decide +kernel
theorem dX9_plants_93 : decode cX9_plants 93 = .ok (.ifCond .ne 15, 3) := by decide +kernel
theorem dX9_plants_96 : decode cX9_plants 96 = .ok (.aload_n 0, 1) := by decide +kernel
theorem dX9_plants_97 : decode cX9_plants 97 = .ok (.getfield 31, 3) := by decide +kernel
theorem dX9_plants_100 : decode cX9_plants 100 = .ok (.iload 4, 2) := by decide +kernel
theorem dX9_plants_102 : decode cX9_plants 102 = .ok (.iaload, 1) := by decide +kernel
theorem dX9_plants_103 : decode cX9_plants 103 = .ok (.iload 6, 2) := by decide +kernel
theorem dX9_plants_105 : decode cX9_plants 105 = .ok (.if_icmp .gt 7, 3) := by decide +kernel
theorem dX9_plants_108 : decode cX9_plants 108 = .ok (.iconst 1, 1) := by decide +kernel
theorem dX9_plants_109 : decode cX9_plants 109 = .ok (.goto 4, 3) := by decide +kernel
theorem dX9_plants_112 : decode cX9_plants 112 = .ok (.iconst 0, 1) := by decide +kernel
theorem dX9_plants_113 : decode cX9_plants 113 = .ok (.bastore, 1) := by decide +kernel
theorem dX9_plants_114 : decode cX9_plants 114 = .ok (.aload_n 0, 1) := by decide +kernel
theorem dX9_plants_115 : decode cX9_plants 115 = .ok (.getfield 46, 3) := by decide +kernel
theorem dX9_plants_118 : decode cX9_plants 118 = .ok (.iload 4, 2) := by decide +kernel
theorem dX9_plants_120 : decode cX9_plants 120 = .ok (.aload_n 0, 1) := by decide +kernel
theorem dX9_plants_121 : decode cX9_plants 121 = .ok (.getfield 49, 3) := by decide +kernel
theorem dX9_plants_124 : decode cX9_plants 124 = .ok (.iload 4, 2) := by decide +kernel
theorem dX9_plants_126 : decode cX9_plants 126 = .ok (.baload, 1) := by decide +kernel
theorem dX9_plants_127 : decode cX9_plants 127 = .ok (.ifCond .eq 13, 3) := by decide +kernel
theorem dX9_plants_130 : decode cX9_plants 130 = .ok (.aload_n 0, 1) := by decide +kernel
theorem dX9_plants_131 : decode cX9_plants 131 = .ok (.getfield 31, 3) := by decide +kernel
theorem dX9_plants_134 : decode cX9_plants 134 = .ok (.iload 4, 2) := by decide +kernel
theorem dX9_plants_136 : decode cX9_plants 136 = .ok (.iaload, 1) := by decide +kernel
theorem dX9_plants_137 : decode cX9_plants 137 = .ok (.goto 5, 3) := by decide +kernel
theorem dX9_plants_140 : decode cX9_plants 140 = .ok (.iload 6, 2) := by decide +kernel
theorem dX9_plants_142 : decode cX9_plants 142 = .ok (.iload 5, 2) := by decide +kernel
theorem dX9_plants_144 : decode cX9_plants 144 = .ok (.ifCond .eq 7, 3) := by decide +kernel
theorem dX9_plants_147 : decode cX9_plants 147 = .ok (.iconst 0, 1) := by decide +kernel
theorem dX9_plants_148 : decode cX9_plants 148 = .ok (.goto 5, 3) := by decide +kernel
theorem dX9_plants_151 : decode cX9_plants 151 = .ok (.bipush 8, 2) := by decide +kernel
theorem dX9_plants_153 : decode cX9_plants 153 = .ok (.iadd, 1) := by decide +kernel
theorem dX9_plants_154 : decode cX9_plants 154 = .ok (.iastore, 1) := by decide +kernel
theorem dX9_plants_155 : decode cX9_plants 155 = .ok (.iinc 3 1, 3) := by decide +kernel
theorem dX9_plants_158 : decode cX9_plants 158 = .ok (.goto (-142), 3) := by decide +kernel
theorem dX9_plants_161 : decode cX9_plants 161 = .ok (.iinc 2 (-1), 3) := by decide +kernel
theorem dX9_plants_164 : decode cX9_plants 164 = .ok (.goto (-154), 3) := by decide +kernel
theorem dX9_plants_167 : decode cX9_plants 167 = .ok (.iconst 0, 1) := by decide +kernel
theorem dX9_plants_168 : decode cX9_plants 168 = .ok (.istore_n 2, 1) := by decide +kernel
theorem dX9_plants_169 : decode cX9_plants 169 = .ok (.iload_n 2, 1) := by decide +kernel
theorem dX9_plants_170 : decode cX9_plants 170 = .ok (.aload_n 0, 1) := by decide +kernel
theorem dX9_plants_171 : decode cX9_plants 171 = .ok (.invokevirtual 123, 3) := by decide +kernel
theorem dX9_plants_174 : decode cX9_plants 174 = .ok (.if_icmp .gt 96, 3) := by decide +kernel
theorem dX9_plants_177 : decode cX9_plants 177 = .ok (.iconst 0, 1) := by decide +kernel
theorem dX9_plants_178 : decode cX9_plants 178 = .ok (.istore_n 3, 1) := by decide +kernel
theorem dX9_plants_179 : decode cX9_plants 179 = .ok (.iload_n 3, 1) := by decide +kernel
theorem dX9_plants_180 : decode cX9_plants 180 = .ok (.iconst 1, 1) := by decide +kernel
theorem dX9_plants_181 : decode cX9_plants 181 = .ok (.iload_n 2, 1) := by decide +kernel
theorem dX9_plants_182 : decode cX9_plants 182 = .ok (.ishl, 1) := by decide +kernel
theorem dX9_plants_183 : decode cX9_plants 183 = .ok (.if_icmp .ge 81, 3) := by decide +kernel
theorem dX9_plants_186 : decode cX9_plants 186 = .ok (.iload_n 2, 1) := by decide +kernel
theorem dX9_plants_187 : decode cX9_plants 187 = .ok (.ifCond .eq 27, 3) := by decide +kernel
theorem dX9_plants_190 : decode cX9_plants 190 = .ok (.aload_n 0, 1) := by decide +kernel
theorem dX9_plants_191 : decode cX9_plants 191 = .ok (.getfield 53, 3) := by decide +kernel
theorem dX9_plants_194 : decode cX9_plants 194 = .ok (.iload_n 2, 1) := by decide +kernel
theorem dX9_plants_195 : decode cX9_plants 195 = .ok (.iconst 1, 1) := by decide +kernel
theorem dX9_plants_196 : decode cX9_plants 196 = .ok (.isub, 1) := by decide +kernel
theorem dX9_plants_197 : decode cX9_plants 197 = .ok (.iload_n 3, 1) := by decide +kernel
theorem dX9_plants_198 : decode cX9_plants 198 = .ok (.iconst 1, 1) := by decide +kernel
theorem dX9_plants_199 : decode cX9_plants 199 = .ok (.iload_n 2, 1) := by decide +kernel
theorem dX9_plants_200 : decode cX9_plants 200 = .ok (.iconst 1, 1) := by decide +kernel
theorem dX9_plants_201 : decode cX9_plants 201 = .ok (.isub, 1) := by decide +kernel
theorem dX9_plants_202 : decode cX9_plants 202 = .ok (.ishl, 1) := by decide +kernel
theorem dX9_plants_203 : decode cX9_plants 203 = .ok (.iconst 1, 1) := by decide +kernel
theorem dX9_plants_204 : decode cX9_plants 204 = .ok (.isub, 1) := by decide +kernel
theorem dX9_plants_205 : decode cX9_plants 205 = .ok (.iand, 1) := by decide +kernel
theorem dX9_plants_206 : decode cX9_plants 206 = .ok (.invokestatic 88, 3) := by decide +kernel
theorem dX9_plants_209 : decode cX9_plants 209 = .ok (.iaload, 1) := by decide +kernel
theorem dX9_plants_210 : decode cX9_plants 210 = .ok (.iconst 2, 1) := by decide +kernel
theorem dX9_plants_211 : decode cX9_plants 211 = .ok (.if_icmp .ne 7, 3) := by decide +kernel
theorem dX9_plants_214 : decode cX9_plants 214 = .ok (.iconst 1, 1) := by decide +kernel
theorem dX9_plants_215 : decode cX9_plants 215 = .ok (.goto 4, 3) := by decide +kernel
theorem dX9_plants_218 : decode cX9_plants 218 = .ok (.iconst 0, 1) := by decide +kernel
theorem dX9_plants_219 : decode cX9_plants 219 = .ok (.istore 4, 2) := by decide +kernel
theorem dX9_plants_221 : decode cX9_plants 221 = .ok (.aload_n 0, 1) := by decide +kernel
theorem dX9_plants_222 : decode cX9_plants 222 = .ok (.getfield 53, 3) := by decide +kernel
theorem dX9_plants_225 : decode cX9_plants 225 = .ok (.iload_n 2, 1) := by decide +kernel
theorem dX9_plants_226 : decode cX9_plants 226 = .ok (.iload_n 3, 1) := by decide +kernel
theorem dX9_plants_227 : decode cX9_plants 227 = .ok (.invokestatic 88, 3) := by decide +kernel
theorem dX9_plants_230 : decode cX9_plants 230 = .ok (.iload 4, 2) := by decide +kernel
theorem dX9_plants_232 : decode cX9_plants 232 = .ok (.ifCond .ne 7, 3) := by decide +kernel
theorem dX9_plants_235 : decode cX9_plants 235 = .ok (.iconst 0, 1) := by decide +kernel
theorem dX9_plants_236 : decode cX9_plants 236 = .ok (.goto 21, 3) := by decide +kernel
theorem dX9_plants_239 : decode cX9_plants 239 = .ok (.aload_n 0, 1) := by decide +kernel
theorem dX9_plants_240 : decode cX9_plants 240 = .ok (.getfield 49, 3) := by decide +kernel
theorem dX9_plants_243 : decode cX9_plants 243 = .ok (.iload_n 2, 1) := by decide +kernel
theorem dX9_plants_244 : decode cX9_plants 244 = .ok (.iload_n 3, 1) := by decide +kernel
theorem dX9_plants_245 : decode cX9_plants 245 = .ok (.invokestatic 88, 3) := by decide +kernel
theorem dX9_plants_248 : decode cX9_plants 248 = .ok (.baload, 1) := by decide +kernel
theorem dX9_plants_249 : decode cX9_plants 249 = .ok (.ifCond .eq 7, 3) := by decide +kernel
theorem dX9_plants_252 : decode cX9_plants 252 = .ok (.iconst 1, 1) := by decide +kernel
theorem dX9_plants_253 : decode cX9_plants 253 = .ok (.goto 4, 3) := by decide +kernel
theorem dX9_plants_256 : decode cX9_plants 256 = .ok (.iconst 2, 1) := by decide +kernel
theorem dX9_plants_257 : decode cX9_plants 257 = .ok (.iastore, 1) := by decide +kernel
theorem dX9_plants_258 : decode cX9_plants 258 = .ok (.iinc 3 1, 3) := by decide +kernel
theorem dX9_plants_261 : decode cX9_plants 261 = .ok (.goto (-82), 3) := by decide +kernel
theorem dX9_plants_264 : decode cX9_plants 264 = .ok (.iinc 2 1, 3) := by decide +kernel
theorem dX9_plants_267 : decode cX9_plants 267 = .ok (.goto (-98), 3) := by decide +kernel
theorem dX9_plants_270 : decode cX9_plants 270 = .ok (.return_, 1) := by decide +kernel
theorem dX9_leaves_0 : decode cX9_leaves 0 = .ok (.iconst 0, 1) := by decide +kernel
theorem dX9_leaves_1 : decode cX9_leaves 1 = .ok (.istore_n 2, 1) := by decide +kernel
theorem dX9_leaves_2 : decode cX9_leaves 2 = .ok (.iconst 0, 1) := by decide +kernel
theorem dX9_leaves_3 : decode cX9_leaves 3 = .ok (.istore_n 3, 1) := by decide +kernel
theorem dX9_leaves_4 : decode cX9_leaves 4 = .ok (.iconst 0, 1) := by decide +kernel
theorem dX9_leaves_5 : decode cX9_leaves 5 = .ok (.istore 4, 2) := by decide +kernel
theorem dX9_leaves_7 : decode cX9_leaves 7 = .ok (.iload 4, 2) := by decide +kernel
theorem dX9_leaves_9 : decode cX9_leaves 9 = .ok (.aload_n 0, 1) := by decide +kernel
theorem dX9_leaves_10 : decode cX9_leaves 10 = .ok (.invokevirtual 123, 3) := by decide +kernel
theorem dX9_leaves_13 : decode cX9_leaves 13 = .ok (.if_icmp .gt 75, 3) := by decide +kernel
theorem dX9_leaves_16 : decode cX9_leaves 16 = .ok (.iconst 0, 1) := by decide +kernel
theorem dX9_leaves_17 : decode cX9_leaves 17 = .ok (.istore 5, 2) := by decide +kernel
theorem dX9_leaves_19 : decode cX9_leaves 19 = .ok (.iload 5, 2) := by decide +kernel
theorem dX9_leaves_21 : decode cX9_leaves 21 = .ok (.iconst 1, 1) := by decide +kernel
theorem dX9_leaves_22 : decode cX9_leaves 22 = .ok (.iload 4, 2) := by decide +kernel
theorem dX9_leaves_24 : decode cX9_leaves 24 = .ok (.ishl, 1) := by decide +kernel
theorem dX9_leaves_25 : decode cX9_leaves 25 = .ok (.if_icmp .ge 57, 3) := by decide +kernel
theorem dX9_leaves_28 : decode cX9_leaves 28 = .ok (.aload_n 0, 1) := by decide +kernel
theorem dX9_leaves_29 : decode cX9_leaves 29 = .ok (.getfield 53, 3) := by decide +kernel
theorem dX9_leaves_32 : decode cX9_leaves 32 = .ok (.iload 4, 2) := by decide +kernel
theorem dX9_leaves_34 : decode cX9_leaves 34 = .ok (.iload 5, 2) := by decide +kernel
theorem dX9_leaves_36 : decode cX9_leaves 36 = .ok (.invokestatic 88, 3) := by decide +kernel
theorem dX9_leaves_39 : decode cX9_leaves 39 = .ok (.iaload, 1) := by decide +kernel
theorem dX9_leaves_40 : decode cX9_leaves 40 = .ok (.iconst 1, 1) := by decide +kernel
theorem dX9_leaves_41 : decode cX9_leaves 41 = .ok (.if_icmp .ne 7, 3) := by decide +kernel
theorem dX9_leaves_44 : decode cX9_leaves 44 = .ok (.iconst 1, 1) := by decide +kernel
theorem dX9_leaves_45 : decode cX9_leaves 45 = .ok (.goto 4, 3) := by decide +kernel
theorem dX9_leaves_48 : decode cX9_leaves 48 = .ok (.iconst 0, 1) := by decide +kernel
theorem dX9_leaves_49 : decode cX9_leaves 49 = .ok (.istore 6, 2) := by decide +kernel
theorem dX9_leaves_51 : decode cX9_leaves 51 = .ok (.iload_n 2, 1) := by decide +kernel
theorem dX9_leaves_52 : decode cX9_leaves 52 = .ok (.iload 6, 2) := by decide +kernel
theorem dX9_leaves_54 : decode cX9_leaves 54 = .ok (.ifCond .eq 7, 3) := by decide +kernel
theorem dX9_leaves_57 : decode cX9_leaves 57 = .ok (.iconst 1, 1) := by decide +kernel
theorem dX9_leaves_58 : decode cX9_leaves 58 = .ok (.goto 4, 3) := by decide +kernel
theorem dX9_leaves_61 : decode cX9_leaves 61 = .ok (.iconst 0, 1) := by decide +kernel
theorem dX9_leaves_62 : decode cX9_leaves 62 = .ok (.iadd, 1) := by decide +kernel
theorem dX9_leaves_63 : decode cX9_leaves 63 = .ok (.istore_n 2, 1) := by decide +kernel
theorem dX9_leaves_64 : decode cX9_leaves 64 = .ok (.iload 6, 2) := by decide +kernel
theorem dX9_leaves_66 : decode cX9_leaves 66 = .ok (.ifCond .eq 8, 3) := by decide +kernel
theorem dX9_leaves_69 : decode cX9_leaves 69 = .ok (.iload 4, 2) := by decide +kernel
theorem dX9_leaves_71 : decode cX9_leaves 71 = .ok (.goto 4, 3) := by decide +kernel
theorem dX9_leaves_74 : decode cX9_leaves 74 = .ok (.iload_n 3, 1) := by decide +kernel
theorem dX9_leaves_75 : decode cX9_leaves 75 = .ok (.istore_n 3, 1) := by decide +kernel
theorem dX9_leaves_76 : decode cX9_leaves 76 = .ok (.iinc 5 1, 3) := by decide +kernel
theorem dX9_leaves_79 : decode cX9_leaves 79 = .ok (.goto (-60), 3) := by decide +kernel
theorem dX9_leaves_82 : decode cX9_leaves 82 = .ok (.iinc 4 1, 3) := by decide +kernel
theorem dX9_leaves_85 : decode cX9_leaves 85 = .ok (.goto (-78), 3) := by decide +kernel
theorem dX9_leaves_88 : decode cX9_leaves 88 = .ok (.iload_n 1, 1) := by decide +kernel
theorem dX9_leaves_89 : decode cX9_leaves 89 = .ok (.ifCond .eq 7, 3) := by decide +kernel
theorem dX9_leaves_92 : decode cX9_leaves 92 = .ok (.iload_n 3, 1) := by decide +kernel
theorem dX9_leaves_93 : decode cX9_leaves 93 = .ok (.goto 4, 3) := by decide +kernel
theorem dX9_leaves_96 : decode cX9_leaves 96 = .ok (.iload_n 2, 1) := by decide +kernel
theorem dX9_leaves_97 : decode cX9_leaves 97 = .ok (.ireturn, 1) := by decide +kernel
theorem dX9_treeOf_0 : decode cX9_treeOf 0 = .ok (.aload_n 0, 1) := by decide +kernel
theorem dX9_treeOf_1 : decode cX9_treeOf 1 = .ok (.invokevirtual 185, 3) := by decide +kernel
theorem dX9_treeOf_4 : decode cX9_treeOf 4 = .ok (.iload_n 1, 1) := by decide +kernel
theorem dX9_treeOf_5 : decode cX9_treeOf 5 = .ok (.ifCond .ne 12, 3) := by decide +kernel
theorem dX9_treeOf_8 : decode cX9_treeOf 8 = .ok (.aload_n 0, 1) := by decide +kernel
theorem dX9_treeOf_9 : decode cX9_treeOf 9 = .ok (.getfield 46, 3) := by decide +kernel
theorem dX9_treeOf_12 : decode cX9_treeOf 12 = .ok (.iconst 0, 1) := by decide +kernel
theorem dX9_treeOf_13 : decode cX9_treeOf 13 = .ok (.iaload, 1) := by decide +kernel
theorem dX9_treeOf_14 : decode cX9_treeOf 14 = .ok (.goto 17, 3) := by decide +kernel
theorem dX9_treeOf_17 : decode cX9_treeOf 17 = .ok (.aload_n 0, 1) := by decide +kernel
theorem dX9_treeOf_18 : decode cX9_treeOf 18 = .ok (.iload_n 1, 1) := by decide +kernel
theorem dX9_treeOf_19 : decode cX9_treeOf 19 = .ok (.iconst 2, 1) := by decide +kernel
theorem dX9_treeOf_20 : decode cX9_treeOf 20 = .ok (.if_icmp .ne 7, 3) := by decide +kernel
theorem dX9_treeOf_23 : decode cX9_treeOf 23 = .ok (.iconst 1, 1) := by decide +kernel
theorem dX9_treeOf_24 : decode cX9_treeOf 24 = .ok (.goto 4, 3) := by decide +kernel
theorem dX9_treeOf_27 : decode cX9_treeOf 27 = .ok (.iconst 0, 1) := by decide +kernel
theorem dX9_treeOf_28 : decode cX9_treeOf 28 = .ok (.invokevirtual 188, 3) := by decide +kernel
theorem dX9_treeOf_31 : decode cX9_treeOf 31 = .ok (.ireturn, 1) := by decide +kernel
theorem dX9_tree_0 : decode cX9_tree 0 = .ok (.iload_n 1, 1) := by decide +kernel
theorem dX9_tree_1 : decode cX9_tree 1 = .ok (.i2l, 1) := by decide +kernel
theorem dX9_tree_2 : decode cX9_tree 2 = .ok (.lconst 0, 1) := by decide +kernel
theorem dX9_tree_3 : decode cX9_tree 3 = .ok (.ldc2_w 181, 3) := by decide +kernel
theorem dX9_tree_6 : decode cX9_tree 6 = .ok (.invokestatic 138, 3) := by decide +kernel
theorem dX9_tree_9 : decode cX9_tree 9 = .ok (.ifCond .eq 11, 3) := by decide +kernel
theorem dX9_tree_12 : decode cX9_tree 12 = .ok (.aload_n 0, 1) := by decide +kernel
theorem dX9_tree_13 : decode cX9_tree 13 = .ok (.iload_n 1, 1) := by decide +kernel
theorem dX9_tree_14 : decode cX9_tree 14 = .ok (.invokevirtual 192, 3) := by decide +kernel
theorem dX9_tree_17 : decode cX9_tree 17 = .ok (.goto 9, 3) := by decide +kernel
theorem dX9_tree_20 : decode cX9_tree 20 = .ok (.aload_n 0, 1) := by decide +kernel
theorem dX9_tree_21 : decode cX9_tree 21 = .ok (.bipush (-2), 2) := by decide +kernel
theorem dX9_tree_23 : decode cX9_tree 23 = .ok (.invokevirtual 142, 3) := by decide +kernel
theorem dX9_tree_26 : decode cX9_tree 26 = .ok (.ireturn, 1) := by decide +kernel
theorem dX9_leaf_0 : decode cX9_leaf 0 = .ok (.aload_n 0, 1) := by decide +kernel
theorem dX9_leaf_1 : decode cX9_leaf 1 = .ok (.iload_n 1, 1) := by decide +kernel
theorem dX9_leaf_2 : decode cX9_leaf 2 = .ok (.iload_n 2, 1) := by decide +kernel
theorem dX9_leaf_3 : decode cX9_leaf 3 = .ok (.invokevirtual 177, 3) := by decide +kernel
theorem dX9_leaf_6 : decode cX9_leaf 6 = .ok (.ifCond .ne 10, 3) := by decide +kernel
theorem dX9_leaf_9 : decode cX9_leaf 9 = .ok (.aload_n 0, 1) := by decide +kernel
theorem dX9_leaf_10 : decode cX9_leaf 10 = .ok (.bipush (-2), 2) := by decide +kernel
theorem dX9_leaf_12 : decode cX9_leaf 12 = .ok (.invokevirtual 142, 3) := by decide +kernel
theorem dX9_leaf_15 : decode cX9_leaf 15 = .ok (.ireturn, 1) := by decide +kernel
theorem dX9_leaf_16 : decode cX9_leaf 16 = .ok (.aload_n 0, 1) := by decide +kernel
theorem dX9_leaf_17 : decode cX9_leaf 17 = .ok (.invokevirtual 185, 3) := by decide +kernel
theorem dX9_leaf_20 : decode cX9_leaf 20 = .ok (.aload_n 0, 1) := by decide +kernel
theorem dX9_leaf_21 : decode cX9_leaf 21 = .ok (.getfield 53, 3) := by decide +kernel
theorem dX9_leaf_24 : decode cX9_leaf 24 = .ok (.iload_n 1, 1) := by decide +kernel
theorem dX9_leaf_25 : decode cX9_leaf 25 = .ok (.iload_n 2, 1) := by decide +kernel
theorem dX9_leaf_26 : decode cX9_leaf 26 = .ok (.invokestatic 88, 3) := by decide +kernel
theorem dX9_leaf_29 : decode cX9_leaf 29 = .ok (.iaload, 1) := by decide +kernel
theorem dX9_leaf_30 : decode cX9_leaf 30 = .ok (.ireturn, 1) := by decide +kernel
theorem dX9_goesOut_0 : decode cX9_goesOut 0 = .ok (.aload_n 0, 1) := by decide +kernel
theorem dX9_goesOut_1 : decode cX9_goesOut 1 = .ok (.getfield 195, 3) := by decide +kernel
theorem dX9_goesOut_4 : decode cX9_goesOut 4 = .ok (.ldc2_w 199, 3) := by decide +kernel
theorem dX9_goesOut_7 : decode cX9_goesOut 7 = .ok (.ldiv, 1) := by decide +kernel
theorem dX9_goesOut_8 : decode cX9_goesOut 8 = .ok (.lstore_n 1, 1) := by decide +kernel
theorem dX9_goesOut_9 : decode cX9_goesOut 9 = .ok (.lload_n 1, 1) := by decide +kernel
theorem dX9_goesOut_10 : decode cX9_goesOut 10 = .ok (.ldc2_w 201, 3) := by decide +kernel
theorem dX9_goesOut_13 : decode cX9_goesOut 13 = .ok (.lcmp, 1) := by decide +kernel
theorem dX9_goesOut_14 : decode cX9_goesOut 14 = .ok (.ifCond .le 45, 3) := by decide +kernel
theorem dX9_goesOut_17 : decode cX9_goesOut 17 = .ok (.aload_n 0, 1) := by decide +kernel
theorem dX9_goesOut_18 : decode cX9_goesOut 18 = .ok (.getfield 203, 3) := by decide +kernel
theorem dX9_goesOut_21 : decode cX9_goesOut 21 = .ok (.iconst 1, 1) := by decide +kernel
theorem dX9_goesOut_22 : decode cX9_goesOut 22 = .ok (.isub, 1) := by decide +kernel
theorem dX9_goesOut_23 : decode cX9_goesOut 23 = .ok (.istore_n 3, 1) := by decide +kernel
theorem dX9_goesOut_24 : decode cX9_goesOut 24 = .ok (.aload_n 0, 1) := by decide +kernel
theorem dX9_goesOut_25 : decode cX9_goesOut 25 = .ok (.getfield 56, 3) := by decide +kernel
theorem dX9_goesOut_28 : decode cX9_goesOut 28 = .ok (.iload_n 3, 1) := by decide +kernel
theorem dX9_goesOut_29 : decode cX9_goesOut 29 = .ok (.iaload, 1) := by decide +kernel
theorem dX9_goesOut_30 : decode cX9_goesOut 30 = .ok (.sipush 255, 3) := by decide +kernel
theorem dX9_goesOut_33 : decode cX9_goesOut 33 = .ok (.if_icmp .ne 16, 3) := by decide +kernel
theorem dX9_goesOut_36 : decode cX9_goesOut 36 = .ok (.aload_n 0, 1) := by decide +kernel
theorem dX9_goesOut_37 : decode cX9_goesOut 37 = .ok (.getfield 56, 3) := by decide +kernel
theorem dX9_goesOut_40 : decode cX9_goesOut 40 = .ok (.iload_n 3, 1) := by decide +kernel
theorem dX9_goesOut_41 : decode cX9_goesOut 41 = .ok (.iconst 0, 1) := by decide +kernel
theorem dX9_goesOut_42 : decode cX9_goesOut 42 = .ok (.iastore, 1) := by decide +kernel
theorem dX9_goesOut_43 : decode cX9_goesOut 43 = .ok (.iinc 3 (-1), 3) := by decide +kernel
theorem dX9_goesOut_46 : decode cX9_goesOut 46 = .ok (.goto (-22), 3) := by decide +kernel
theorem dX9_goesOut_49 : decode cX9_goesOut 49 = .ok (.aload_n 0, 1) := by decide +kernel
theorem dX9_goesOut_50 : decode cX9_goesOut 50 = .ok (.getfield 56, 3) := by decide +kernel
theorem dX9_goesOut_53 : decode cX9_goesOut 53 = .ok (.iload_n 3, 1) := by decide +kernel
theorem dX9_goesOut_54 : decode cX9_goesOut 54 = .ok (.dup2, 1) := by decide +kernel
theorem dX9_goesOut_55 : decode cX9_goesOut 55 = .ok (.iaload, 1) := by decide +kernel
theorem dX9_goesOut_56 : decode cX9_goesOut 56 = .ok (.iconst 1, 1) := by decide +kernel
theorem dX9_goesOut_57 : decode cX9_goesOut 57 = .ok (.iadd, 1) := by decide +kernel
theorem dX9_goesOut_58 : decode cX9_goesOut 58 = .ok (.iastore, 1) := by decide +kernel
theorem dX9_goesOut_59 : decode cX9_goesOut 59 = .ok (.aload_n 0, 1) := by decide +kernel
theorem dX9_goesOut_60 : decode cX9_goesOut 60 = .ok (.getfield 56, 3) := by decide +kernel
theorem dX9_goesOut_63 : decode cX9_goesOut 63 = .ok (.aload_n 0, 1) := by decide +kernel
theorem dX9_goesOut_64 : decode cX9_goesOut 64 = .ok (.getfield 203, 3) := by decide +kernel
theorem dX9_goesOut_67 : decode cX9_goesOut 67 = .ok (.lload_n 1, 1) := by decide +kernel
theorem dX9_goesOut_68 : decode cX9_goesOut 68 = .ok (.ldc2_w 206, 3) := by decide +kernel
theorem dX9_goesOut_71 : decode cX9_goesOut 71 = .ok (.lrem, 1) := by decide +kernel
theorem dX9_goesOut_72 : decode cX9_goesOut 72 = .ok (.l2i, 1) := by decide +kernel
theorem dX9_goesOut_73 : decode cX9_goesOut 73 = .ok (.iastore, 1) := by decide +kernel
theorem dX9_goesOut_74 : decode cX9_goesOut 74 = .ok (.aload_n 0, 1) := by decide +kernel
theorem dX9_goesOut_75 : decode cX9_goesOut 75 = .ok (.dup, 1) := by decide +kernel
theorem dX9_goesOut_76 : decode cX9_goesOut 76 = .ok (.getfield 203, 3) := by decide +kernel
theorem dX9_goesOut_79 : decode cX9_goesOut 79 = .ok (.iconst 1, 1) := by decide +kernel
theorem dX9_goesOut_80 : decode cX9_goesOut 80 = .ok (.iadd, 1) := by decide +kernel
theorem dX9_goesOut_81 : decode cX9_goesOut 81 = .ok (.putfield 203, 3) := by decide +kernel
theorem dX9_goesOut_84 : decode cX9_goesOut 84 = .ok (.aload_n 0, 1) := by decide +kernel
theorem dX9_goesOut_85 : decode cX9_goesOut 85 = .ok (.aload_n 0, 1) := by decide +kernel
theorem dX9_goesOut_86 : decode cX9_goesOut 86 = .ok (.getfield 195, 3) := by decide +kernel
theorem dX9_goesOut_89 : decode cX9_goesOut 89 = .ok (.ldc2_w 199, 3) := by decide +kernel
theorem dX9_goesOut_92 : decode cX9_goesOut 92 = .ok (.lrem, 1) := by decide +kernel
theorem dX9_goesOut_93 : decode cX9_goesOut 93 = .ok (.ldc2_w 206, 3) := by decide +kernel
theorem dX9_goesOut_96 : decode cX9_goesOut 96 = .ok (.lmul, 1) := by decide +kernel
theorem dX9_goesOut_97 : decode cX9_goesOut 97 = .ok (.putfield 195, 3) := by decide +kernel
theorem dX9_goesOut_100 : decode cX9_goesOut 100 = .ok (.return_, 1) := by decide +kernel
theorem dX9_writes_0 : decode cX9_writes 0 = .ok (.ldc2_w 208, 3) := by decide +kernel
theorem dX9_writes_3 : decode cX9_writes 3 = .ok (.lstore_n 1, 1) := by decide +kernel
theorem dX9_writes_4 : decode cX9_writes 4 = .ok (.aload_n 0, 1) := by decide +kernel
theorem dX9_writes_5 : decode cX9_writes 5 = .ok (.lconst 0, 1) := by decide +kernel
theorem dX9_writes_6 : decode cX9_writes 6 = .ok (.putfield 195, 3) := by decide +kernel
theorem dX9_writes_9 : decode cX9_writes 9 = .ok (.aload_n 0, 1) := by decide +kernel
theorem dX9_writes_10 : decode cX9_writes 10 = .ok (.iconst 0, 1) := by decide +kernel
theorem dX9_writes_11 : decode cX9_writes 11 = .ok (.putfield 203, 3) := by decide +kernel
theorem dX9_writes_14 : decode cX9_writes 14 = .ok (.aload_n 0, 1) := by decide +kernel
theorem dX9_writes_15 : decode cX9_writes 15 = .ok (.invokevirtual 132, 3) := by decide +kernel
theorem dX9_writes_18 : decode cX9_writes 18 = .ok (.istore_n 3, 1) := by decide +kernel
theorem dX9_writes_19 : decode cX9_writes 19 = .ok (.iconst 0, 1) := by decide +kernel
theorem dX9_writes_20 : decode cX9_writes 20 = .ok (.istore 4, 2) := by decide +kernel
theorem dX9_writes_22 : decode cX9_writes 22 = .ok (.iload 4, 2) := by decide +kernel
theorem dX9_writes_24 : decode cX9_writes 24 = .ok (.aload_n 0, 1) := by decide +kernel
theorem dX9_writes_25 : decode cX9_writes 25 = .ok (.invokevirtual 112, 3) := by decide +kernel
theorem dX9_writes_28 : decode cX9_writes 28 = .ok (.if_icmp .ge 93, 3) := by decide +kernel
theorem dX9_writes_31 : decode cX9_writes 31 = .ok (.lload_n 1, 1) := by decide +kernel
theorem dX9_writes_32 : decode cX9_writes 32 = .ok (.ldc2_w 82, 3) := by decide +kernel
theorem dX9_writes_35 : decode cX9_writes 35 = .ok (.ldiv, 1) := by decide +kernel
theorem dX9_writes_36 : decode cX9_writes 36 = .ok (.aload_n 0, 1) := by decide +kernel
theorem dX9_writes_37 : decode cX9_writes 37 = .ok (.getfield 43, 3) := by decide +kernel
theorem dX9_writes_40 : decode cX9_writes 40 = .ok (.iload 4, 2) := by decide +kernel
theorem dX9_writes_42 : decode cX9_writes 42 = .ok (.iaload, 1) := by decide +kernel
theorem dX9_writes_43 : decode cX9_writes 43 = .ok (.i2l, 1) := by decide +kernel
theorem dX9_writes_44 : decode cX9_writes 44 = .ok (.lmul, 1) := by decide +kernel
theorem dX9_writes_45 : decode cX9_writes 45 = .ok (.lstore 5, 2) := by decide +kernel
theorem dX9_writes_47 : decode cX9_writes 47 = .ok (.aload_n 0, 1) := by decide +kernel
theorem dX9_writes_48 : decode cX9_writes 48 = .ok (.dup, 1) := by decide +kernel
theorem dX9_writes_49 : decode cX9_writes 49 = .ok (.getfield 195, 3) := by decide +kernel
theorem dX9_writes_52 : decode cX9_writes 52 = .ok (.aload_n 0, 1) := by decide +kernel
theorem dX9_writes_53 : decode cX9_writes 53 = .ok (.getfield 7, 3) := by decide +kernel
theorem dX9_writes_56 : decode cX9_writes 56 = .ok (.iload 4, 2) := by decide +kernel
theorem dX9_writes_58 : decode cX9_writes 58 = .ok (.iaload, 1) := by decide +kernel
theorem dX9_writes_59 : decode cX9_writes 59 = .ok (.iconst 1, 1) := by decide +kernel
theorem dX9_writes_60 : decode cX9_writes 60 = .ok (.if_icmp .ne 7, 3) := by decide +kernel
theorem dX9_writes_63 : decode cX9_writes 63 = .ok (.lconst 0, 1) := by decide +kernel
theorem dX9_writes_64 : decode cX9_writes 64 = .ok (.goto 5, 3) := by decide +kernel
theorem dX9_writes_67 : decode cX9_writes 67 = .ok (.lload 5, 2) := by decide +kernel
theorem dX9_writes_69 : decode cX9_writes 69 = .ok (.ladd, 1) := by decide +kernel
theorem dX9_writes_70 : decode cX9_writes 70 = .ok (.putfield 195, 3) := by decide +kernel
theorem dX9_writes_73 : decode cX9_writes 73 = .ok (.aload_n 0, 1) := by decide +kernel
theorem dX9_writes_74 : decode cX9_writes 74 = .ok (.getfield 7, 3) := by decide +kernel
theorem dX9_writes_77 : decode cX9_writes 77 = .ok (.iload 4, 2) := by decide +kernel
theorem dX9_writes_79 : decode cX9_writes 79 = .ok (.iaload, 1) := by decide +kernel
theorem dX9_writes_80 : decode cX9_writes 80 = .ok (.iconst 1, 1) := by decide +kernel
theorem dX9_writes_81 : decode cX9_writes 81 = .ok (.if_icmp .ne 8, 3) := by decide +kernel
theorem dX9_writes_84 : decode cX9_writes 84 = .ok (.lload 5, 2) := by decide +kernel
theorem dX9_writes_86 : decode cX9_writes 86 = .ok (.goto 7, 3) := by decide +kernel
theorem dX9_writes_89 : decode cX9_writes 89 = .ok (.lload_n 1, 1) := by decide +kernel
theorem dX9_writes_90 : decode cX9_writes 90 = .ok (.lload 5, 2) := by decide +kernel
theorem dX9_writes_92 : decode cX9_writes 92 = .ok (.lsub, 1) := by decide +kernel
theorem dX9_writes_93 : decode cX9_writes 93 = .ok (.lstore_n 1, 1) := by decide +kernel
theorem dX9_writes_94 : decode cX9_writes 94 = .ok (.lload_n 1, 1) := by decide +kernel
theorem dX9_writes_95 : decode cX9_writes 95 = .ok (.ldc2_w 199, 3) := by decide +kernel
theorem dX9_writes_98 : decode cX9_writes 98 = .ok (.lcmp, 1) := by decide +kernel
theorem dX9_writes_99 : decode cX9_writes 99 = .ok (.ifCond .ge 16, 3) := by decide +kernel
theorem dX9_writes_102 : decode cX9_writes 102 = .ok (.aload_n 0, 1) := by decide +kernel
theorem dX9_writes_103 : decode cX9_writes 103 = .ok (.invokevirtual 210, 3) := by decide +kernel
theorem dX9_writes_106 : decode cX9_writes 106 = .ok (.lload_n 1, 1) := by decide +kernel
theorem dX9_writes_107 : decode cX9_writes 107 = .ok (.ldc2_w 206, 3) := by decide +kernel
theorem dX9_writes_110 : decode cX9_writes 110 = .ok (.lmul, 1) := by decide +kernel
theorem dX9_writes_111 : decode cX9_writes 111 = .ok (.lstore_n 1, 1) := by decide +kernel
theorem dX9_writes_112 : decode cX9_writes 112 = .ok (.goto (-18), 3) := by decide +kernel
theorem dX9_writes_115 : decode cX9_writes 115 = .ok (.iinc 4 1, 3) := by decide +kernel
theorem dX9_writes_118 : decode cX9_writes 118 = .ok (.goto (-96), 3) := by decide +kernel
theorem dX9_writes_121 : decode cX9_writes 121 = .ok (.iconst 0, 1) := by decide +kernel
theorem dX9_writes_122 : decode cX9_writes 122 = .ok (.istore 4, 2) := by decide +kernel
theorem dX9_writes_124 : decode cX9_writes 124 = .ok (.iload 4, 2) := by decide +kernel
theorem dX9_writes_126 : decode cX9_writes 126 = .ok (.iconst 4, 1) := by decide +kernel
theorem dX9_writes_127 : decode cX9_writes 127 = .ok (.if_icmp .ge 13, 3) := by decide +kernel
theorem dX9_writes_130 : decode cX9_writes 130 = .ok (.aload_n 0, 1) := by decide +kernel
theorem dX9_writes_131 : decode cX9_writes 131 = .ok (.invokevirtual 210, 3) := by decide +kernel
theorem dX9_writes_134 : decode cX9_writes 134 = .ok (.iinc 4 1, 3) := by decide +kernel
theorem dX9_writes_137 : decode cX9_writes 137 = .ok (.goto (-13), 3) := by decide +kernel
theorem dX9_writes_140 : decode cX9_writes 140 = .ok (.return_, 1) := by decide +kernel
theorem dX9_written_0 : decode cX9_written 0 = .ok (.iload_n 1, 1) := by decide +kernel
theorem dX9_written_1 : decode cX9_written 1 = .ok (.iconst (-1), 1) := by decide +kernel
theorem dX9_written_2 : decode cX9_written 2 = .ok (.if_icmp .ge 10, 3) := by decide +kernel
theorem dX9_written_5 : decode cX9_written 5 = .ok (.aload_n 0, 1) := by decide +kernel
theorem dX9_written_6 : decode cX9_written 6 = .ok (.bipush (-10), 2) := by decide +kernel
theorem dX9_written_8 : decode cX9_written 8 = .ok (.invokevirtual 142, 3) := by decide +kernel
theorem dX9_written_11 : decode cX9_written 11 = .ok (.ireturn, 1) := by decide +kernel
theorem dX9_written_12 : decode cX9_written 12 = .ok (.aload_n 0, 1) := by decide +kernel
theorem dX9_written_13 : decode cX9_written 13 = .ok (.invokevirtual 213, 3) := by decide +kernel
theorem dX9_written_16 : decode cX9_written 16 = .ok (.iload_n 1, 1) := by decide +kernel
theorem dX9_written_17 : decode cX9_written 17 = .ok (.iconst (-1), 1) := by decide +kernel
theorem dX9_written_18 : decode cX9_written 18 = .ok (.if_icmp .ne 10, 3) := by decide +kernel
theorem dX9_written_21 : decode cX9_written 21 = .ok (.aload_n 0, 1) := by decide +kernel
theorem dX9_written_22 : decode cX9_written 22 = .ok (.getfield 203, 3) := by decide +kernel
theorem dX9_written_25 : decode cX9_written 25 = .ok (.goto 22, 3) := by decide +kernel
theorem dX9_written_28 : decode cX9_written 28 = .ok (.iload_n 1, 1) := by decide +kernel
theorem dX9_written_29 : decode cX9_written 29 = .ok (.aload_n 0, 1) := by decide +kernel
theorem dX9_written_30 : decode cX9_written 30 = .ok (.getfield 203, 3) := by decide +kernel
theorem dX9_written_33 : decode cX9_written 33 = .ok (.if_icmp .ge 12, 3) := by decide +kernel
theorem dX9_written_36 : decode cX9_written 36 = .ok (.aload_n 0, 1) := by decide +kernel
theorem dX9_written_37 : decode cX9_written 37 = .ok (.getfield 56, 3) := by decide +kernel
theorem dX9_written_40 : decode cX9_written 40 = .ok (.iload_n 1, 1) := by decide +kernel
theorem dX9_written_41 : decode cX9_written 41 = .ok (.iaload, 1) := by decide +kernel
theorem dX9_written_42 : decode cX9_written 42 = .ok (.goto 5, 3) := by decide +kernel
theorem dX9_written_45 : decode cX9_written 45 = .ok (.bipush (-5), 2) := by decide +kernel
theorem dX9_written_47 : decode cX9_written 47 = .ok (.ireturn, 1) := by decide +kernel
theorem dX9_byteAt_0 : decode cX9_byteAt 0 = .ok (.iload_n 1, 1) := by decide +kernel
theorem dX9_byteAt_1 : decode cX9_byteAt 1 = .ok (.aload_n 0, 1) := by decide +kernel
