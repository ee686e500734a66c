theorem dX9_byteAt_2 : decode cX9_byteAt 2 = .ok (.getfield 203, 3) := by decide +kernel
theorem dX9_byteAt_5 : decode cX9_byteAt 5 = .ok (.if_icmp .ge 12, 3) := by decide +kernel
theorem dX9_byteAt_8 : decode cX9_byteAt 8 = .ok (.aload_n 0, 1) := by decide +kernel
theorem dX9_byteAt_9 : decode cX9_byteAt 9 = .ok (.getfield 56, 3) := by decide +kernel
theorem dX9_byteAt_12 : decode cX9_byteAt 12 = .ok (.iload_n 1, 1) := by decide +kernel
theorem dX9_byteAt_13 : decode cX9_byteAt 13 = .ok (.iaload, 1) := by decide +kernel
theorem dX9_byteAt_14 : decode cX9_byteAt 14 = .ok (.goto 4, 3) := by decide +kernel
theorem dX9_byteAt_17 : decode cX9_byteAt 17 = .ok (.iconst 0, 1) := by decide +kernel
theorem dX9_byteAt_18 : decode cX9_byteAt 18 = .ok (.ireturn, 1) := by decide +kernel
theorem dX9_reads_0 : decode cX9_reads 0 = .ok (.aload_n 0, 1) := by decide +kernel
theorem dX9_reads_1 : decode cX9_reads 1 = .ok (.invokevirtual 213, 3) := by decide +kernel
theorem dX9_reads_4 : decode cX9_reads 4 = .ok (.iload_n 1, 1) := by decide +kernel
theorem dX9_reads_5 : decode cX9_reads 5 = .ok (.i2l, 1) := by decide +kernel
theorem dX9_reads_6 : decode cX9_reads 6 = .ok (.ldc2_w 216, 3) := by decide +kernel
theorem dX9_reads_9 : decode cX9_reads 9 = .ok (.aload_n 0, 1) := by decide +kernel
theorem dX9_reads_10 : decode cX9_reads 10 = .ok (.getfield 203, 3) := by decide +kernel
theorem dX9_reads_13 : decode cX9_reads 13 = .ok (.iconst 1, 1) := by decide +kernel
theorem dX9_reads_14 : decode cX9_reads 14 = .ok (.isub, 1) := by decide +kernel
theorem dX9_reads_15 : decode cX9_reads 15 = .ok (.i2l, 1) := by decide +kernel
theorem dX9_reads_16 : decode cX9_reads 16 = .ok (.invokestatic 138, 3) := by decide +kernel
theorem dX9_reads_19 : decode cX9_reads 19 = .ok (.ifCond .eq 20, 3) := by decide +kernel
theorem dX9_reads_22 : decode cX9_reads 22 = .ok (.iload_n 1, 1) := by decide +kernel
theorem dX9_reads_23 : decode cX9_reads 23 = .ok (.iconst (-1), 1) := by decide +kernel
theorem dX9_reads_24 : decode cX9_reads 24 = .ok (.if_icmp .eq 22, 3) := by decide +kernel
theorem dX9_reads_27 : decode cX9_reads 27 = .ok (.iload_n 2, 1) := by decide +kernel
theorem dX9_reads_28 : decode cX9_reads 28 = .ok (.i2l, 1) := by decide +kernel
theorem dX9_reads_29 : decode cX9_reads 29 = .ok (.lconst 1, 1) := by decide +kernel
theorem dX9_reads_30 : decode cX9_reads 30 = .ok (.ldc2_w 201, 3) := by decide +kernel
theorem dX9_reads_33 : decode cX9_reads 33 = .ok (.invokestatic 138, 3) := by decide +kernel
theorem dX9_reads_36 : decode cX9_reads 36 = .ok (.ifCond .ne 10, 3) := by decide +kernel
theorem dX9_reads_39 : decode cX9_reads 39 = .ok (.aload_n 0, 1) := by decide +kernel
theorem dX9_reads_40 : decode cX9_reads 40 = .ok (.bipush (-2), 2) := by decide +kernel
theorem dX9_reads_42 : decode cX9_reads 42 = .ok (.invokevirtual 142, 3) := by decide +kernel
theorem dX9_reads_45 : decode cX9_reads 45 = .ok (.ireturn, 1) := by decide +kernel
theorem dX9_reads_46 : decode cX9_reads 46 = .ok (.iload_n 1, 1) := by decide +kernel
theorem dX9_reads_47 : decode cX9_reads 47 = .ok (.iconst (-1), 1) := by decide +kernel
theorem dX9_reads_48 : decode cX9_reads 48 = .ok (.if_icmp .eq 13, 3) := by decide +kernel
theorem dX9_reads_51 : decode cX9_reads 51 = .ok (.aload_n 0, 1) := by decide +kernel
theorem dX9_reads_52 : decode cX9_reads 52 = .ok (.getfield 56, 3) := by decide +kernel
theorem dX9_reads_55 : decode cX9_reads 55 = .ok (.iload_n 1, 1) := by decide +kernel
theorem dX9_reads_56 : decode cX9_reads 56 = .ok (.dup2, 1) := by decide +kernel
theorem dX9_reads_57 : decode cX9_reads 57 = .ok (.iaload, 1) := by decide +kernel
theorem dX9_reads_58 : decode cX9_reads 58 = .ok (.iload_n 2, 1) := by decide +kernel
theorem dX9_reads_59 : decode cX9_reads 59 = .ok (.ixor, 1) := by decide +kernel
theorem dX9_reads_60 : decode cX9_reads 60 = .ok (.iastore, 1) := by decide +kernel
theorem dX9_reads_61 : decode cX9_reads 61 = .ok (.lconst 0, 1) := by decide +kernel
theorem dX9_reads_62 : decode cX9_reads 62 = .ok (.lstore_n 3, 1) := by decide +kernel
theorem dX9_reads_63 : decode cX9_reads 63 = .ok (.ldc2_w 208, 3) := by decide +kernel
theorem dX9_reads_66 : decode cX9_reads 66 = .ok (.lstore 5, 2) := by decide +kernel
theorem dX9_reads_68 : decode cX9_reads 68 = .ok (.iconst 0, 1) := by decide +kernel
theorem dX9_reads_69 : decode cX9_reads 69 = .ok (.istore 7, 2) := by decide +kernel
theorem dX9_reads_71 : decode cX9_reads 71 = .ok (.iload 7, 2) := by decide +kernel
theorem dX9_reads_73 : decode cX9_reads 73 = .ok (.iconst 4, 1) := by decide +kernel
theorem dX9_reads_74 : decode cX9_reads 74 = .ok (.if_icmp .ge 23, 3) := by decide +kernel
theorem dX9_reads_77 : decode cX9_reads 77 = .ok (.ldc2_w 206, 3) := by decide +kernel
theorem dX9_reads_80 : decode cX9_reads 80 = .ok (.lload_n 3, 1) := by decide +kernel
theorem dX9_reads_81 : decode cX9_reads 81 = .ok (.lmul, 1) := by decide +kernel
theorem dX9_reads_82 : decode cX9_reads 82 = .ok (.aload_n 0, 1) := by decide +kernel
theorem dX9_reads_83 : decode cX9_reads 83 = .ok (.iload 7, 2) := by decide +kernel
theorem dX9_reads_85 : decode cX9_reads 85 = .ok (.invokevirtual 218, 3) := by decide +kernel
theorem dX9_reads_88 : decode cX9_reads 88 = .ok (.i2l, 1) := by decide +kernel
theorem dX9_reads_89 : decode cX9_reads 89 = .ok (.ladd, 1) := by decide +kernel
theorem dX9_reads_90 : decode cX9_reads 90 = .ok (.lstore_n 3, 1) := by decide +kernel
theorem dX9_reads_91 : decode cX9_reads 91 = .ok (.iinc 7 1, 3) := by decide +kernel
theorem dX9_reads_94 : decode cX9_reads 94 = .ok (.goto (-23), 3) := by decide +kernel
theorem dX9_reads_97 : decode cX9_reads 97 = .ok (.iconst 0, 1) := by decide +kernel
theorem dX9_reads_98 : decode cX9_reads 98 = .ok (.istore 8, 2) := by decide +kernel
theorem dX9_reads_100 : decode cX9_reads 100 = .ok (.aload_n 0, 1) := by decide +kernel
theorem dX9_reads_101 : decode cX9_reads 101 = .ok (.aload_n 0, 1) := by decide +kernel
theorem dX9_reads_102 : decode cX9_reads 102 = .ok (.invokevirtual 123, 3) := by decide +kernel
theorem dX9_reads_105 : decode cX9_reads 105 = .ok (.aload_n 0, 1) := by decide +kernel
theorem dX9_reads_106 : decode cX9_reads 106 = .ok (.invokevirtual 126, 3) := by decide +kernel
theorem dX9_reads_109 : decode cX9_reads 109 = .ok (.invokevirtual 108, 3) := by decide +kernel
theorem dX9_reads_112 : decode cX9_reads 112 = .ok (.iconst 0, 1) := by decide +kernel
theorem dX9_reads_113 : decode cX9_reads 113 = .ok (.istore 9, 2) := by decide +kernel
theorem dX9_reads_115 : decode cX9_reads 115 = .ok (.iload 9, 2) := by decide +kernel
theorem dX9_reads_117 : decode cX9_reads 117 = .ok (.aload_n 0, 1) := by decide +kernel
theorem dX9_reads_118 : decode cX9_reads 118 = .ok (.invokevirtual 112, 3) := by decide +kernel
theorem dX9_reads_121 : decode cX9_reads 121 = .ok (.if_icmp .ge 135, 3) := by decide +kernel
theorem dX9_reads_124 : decode cX9_reads 124 = .ok (.lload 5, 2) := by decide +kernel
theorem dX9_reads_126 : decode cX9_reads 126 = .ok (.ldc2_w 82, 3) := by decide +kernel
theorem dX9_reads_129 : decode cX9_reads 129 = .ok (.ldiv, 1) := by decide +kernel
theorem dX9_reads_130 : decode cX9_reads 130 = .ok (.aload_n 0, 1) := by decide +kernel
theorem dX9_reads_131 : decode cX9_reads 131 = .ok (.invokevirtual 116, 3) := by decide +kernel
theorem dX9_reads_134 : decode cX9_reads 134 = .ok (.i2l, 1) := by decide +kernel
theorem dX9_reads_135 : decode cX9_reads 135 = .ok (.lmul, 1) := by decide +kernel
theorem dX9_reads_136 : decode cX9_reads 136 = .ok (.lstore 10, 2) := by decide +kernel
theorem dX9_reads_138 : decode cX9_reads 138 = .ok (.lload_n 3, 1) := by decide +kernel
theorem dX9_reads_139 : decode cX9_reads 139 = .ok (.lload 10, 2) := by decide +kernel
theorem dX9_reads_141 : decode cX9_reads 141 = .ok (.lcmp, 1) := by decide +kernel
theorem dX9_reads_142 : decode cX9_reads 142 = .ok (.ifCond .ge 7, 3) := by decide +kernel
theorem dX9_reads_145 : decode cX9_reads 145 = .ok (.iconst 1, 1) := by decide +kernel
theorem dX9_reads_146 : decode cX9_reads 146 = .ok (.goto 4, 3) := by decide +kernel
theorem dX9_reads_149 : decode cX9_reads 149 = .ok (.iconst 0, 1) := by decide +kernel
theorem dX9_reads_150 : decode cX9_reads 150 = .ok (.istore 12, 2) := by decide +kernel
theorem dX9_reads_152 : decode cX9_reads 152 = .ok (.lload_n 3, 1) := by decide +kernel
theorem dX9_reads_153 : decode cX9_reads 153 = .ok (.iload 12, 2) := by decide +kernel
theorem dX9_reads_155 : decode cX9_reads 155 = .ok (.iconst 1, 1) := by decide +kernel
theorem dX9_reads_156 : decode cX9_reads 156 = .ok (.if_icmp .ne 7, 3) := by decide +kernel
theorem dX9_reads_159 : decode cX9_reads 159 = .ok (.lconst 0, 1) := by decide +kernel
theorem dX9_reads_160 : decode cX9_reads 160 = .ok (.goto 5, 3) := by decide +kernel
theorem dX9_reads_163 : decode cX9_reads 163 = .ok (.lload 10, 2) := by decide +kernel
theorem dX9_reads_165 : decode cX9_reads 165 = .ok (.lsub, 1) := by decide +kernel
theorem dX9_reads_166 : decode cX9_reads 166 = .ok (.lstore_n 3, 1) := by decide +kernel
theorem dX9_reads_167 : decode cX9_reads 167 = .ok (.iload 12, 2) := by decide +kernel
theorem dX9_reads_169 : decode cX9_reads 169 = .ok (.iconst 1, 1) := by decide +kernel
theorem dX9_reads_170 : decode cX9_reads 170 = .ok (.if_icmp .ne 8, 3) := by decide +kernel
theorem dX9_reads_173 : decode cX9_reads 173 = .ok (.lload 10, 2) := by decide +kernel
theorem dX9_reads_175 : decode cX9_reads 175 = .ok (.goto 8, 3) := by decide +kernel
theorem dX9_reads_178 : decode cX9_reads 178 = .ok (.lload 5, 2) := by decide +kernel
theorem dX9_reads_180 : decode cX9_reads 180 = .ok (.lload 10, 2) := by decide +kernel
theorem dX9_reads_182 : decode cX9_reads 182 = .ok (.lsub, 1) := by decide +kernel
theorem dX9_reads_183 : decode cX9_reads 183 = .ok (.lstore 5, 2) := by decide +kernel
theorem dX9_reads_185 : decode cX9_reads 185 = .ok (.lload 5, 2) := by decide +kernel
theorem dX9_reads_187 : decode cX9_reads 187 = .ok (.ldc2_w 199, 3) := by decide +kernel
theorem dX9_reads_190 : decode cX9_reads 190 = .ok (.lcmp, 1) := by decide +kernel
theorem dX9_reads_191 : decode cX9_reads 191 = .ok (.ifCond .ge 31, 3) := by decide +kernel
theorem dX9_reads_194 : decode cX9_reads 194 = .ok (.ldc2_w 206, 3) := by decide +kernel
theorem dX9_reads_197 : decode cX9_reads 197 = .ok (.lload_n 3, 1) := by decide +kernel
theorem dX9_reads_198 : decode cX9_reads 198 = .ok (.lmul, 1) := by decide +kernel
theorem dX9_reads_199 : decode cX9_reads 199 = .ok (.aload_n 0, 1) := by decide +kernel
theorem dX9_reads_200 : decode cX9_reads 200 = .ok (.iload 7, 2) := by decide +kernel
theorem dX9_reads_202 : decode cX9_reads 202 = .ok (.invokevirtual 218, 3) := by decide +kernel
theorem dX9_reads_205 : decode cX9_reads 205 = .ok (.i2l, 1) := by decide +kernel
theorem dX9_reads_206 : decode cX9_reads 206 = .ok (.ladd, 1) := by decide +kernel
theorem dX9_reads_207 : decode cX9_reads 207 = .ok (.lstore_n 3, 1) := by decide +kernel
theorem dX9_reads_208 : decode cX9_reads 208 = .ok (.lload 5, 2) := by decide +kernel
theorem dX9_reads_210 : decode cX9_reads 210 = .ok (.ldc2_w 206, 3) := by decide +kernel
theorem dX9_reads_213 : decode cX9_reads 213 = .ok (.lmul, 1) := by decide +kernel
theorem dX9_reads_214 : decode cX9_reads 214 = .ok (.lstore 5, 2) := by decide +kernel
theorem dX9_reads_216 : decode cX9_reads 216 = .ok (.iinc 7 1, 3) := by decide +kernel
theorem dX9_reads_219 : decode cX9_reads 219 = .ok (.goto (-34), 3) := by decide +kernel
theorem dX9_reads_222 : decode cX9_reads 222 = .ok (.aload_n 0, 1) := by decide +kernel
theorem dX9_reads_223 : decode cX9_reads 223 = .ok (.iload 12, 2) := by decide +kernel
theorem dX9_reads_225 : decode cX9_reads 225 = .ok (.invokevirtual 119, 3) := by decide +kernel
theorem dX9_reads_228 : decode cX9_reads 228 = .ok (.iload 8, 2) := by decide +kernel
theorem dX9_reads_230 : decode cX9_reads 230 = .ok (.iload 12, 2) := by decide +kernel
theorem dX9_reads_232 : decode cX9_reads 232 = .ok (.aload_n 0, 1) := by decide +kernel
theorem dX9_reads_233 : decode cX9_reads 233 = .ok (.getfield 7, 3) := by decide +kernel
theorem dX9_reads_236 : decode cX9_reads 236 = .ok (.iload 9, 2) := by decide +kernel
theorem dX9_reads_238 : decode cX9_reads 238 = .ok (.iaload, 1) := by decide +kernel
theorem dX9_reads_239 : decode cX9_reads 239 = .ok (.if_icmp .ne 7, 3) := by decide +kernel
theorem dX9_reads_242 : decode cX9_reads 242 = .ok (.iconst 1, 1) := by decide +kernel
theorem dX9_reads_243 : decode cX9_reads 243 = .ok (.goto 4, 3) := by decide +kernel
theorem dX9_reads_246 : decode cX9_reads 246 = .ok (.iconst 0, 1) := by decide +kernel
theorem dX9_reads_247 : decode cX9_reads 247 = .ok (.iadd, 1) := by decide +kernel
theorem dX9_reads_248 : decode cX9_reads 248 = .ok (.istore 8, 2) := by decide +kernel
theorem dX9_reads_250 : decode cX9_reads 250 = .ok (.iinc 9 1, 3) := by decide +kernel
theorem dX9_reads_253 : decode cX9_reads 253 = .ok (.goto (-138), 3) := by decide +kernel
theorem dX9_reads_256 : decode cX9_reads 256 = .ok (.iload 8, 2) := by decide +kernel
theorem dX9_reads_258 : decode cX9_reads 258 = .ok (.ireturn, 1) := by decide +kernel
theorem dX9_type_0 : decode cX9_type 0 = .ok (.iload_n 1, 1) := by decide +kernel
theorem dX9_type_1 : decode cX9_type 1 = .ok (.i2l, 1) := by decide +kernel
theorem dX9_type_2 : decode cX9_type 2 = .ok (.lconst 0, 1) := by decide +kernel
theorem dX9_type_3 : decode cX9_type 3 = .ok (.ldc2_w 221, 3) := by decide +kernel
theorem dX9_type_6 : decode cX9_type 6 = .ok (.invokestatic 138, 3) := by decide +kernel
theorem dX9_type_9 : decode cX9_type 9 = .ok (.ifCond .ne 10, 3) := by decide +kernel
theorem dX9_type_12 : decode cX9_type 12 = .ok (.aload_n 0, 1) := by decide +kernel
theorem dX9_type_13 : decode cX9_type 13 = .ok (.bipush (-2), 2) := by decide +kernel
theorem dX9_type_15 : decode cX9_type 15 = .ok (.invokevirtual 142, 3) := by decide +kernel
theorem dX9_type_18 : decode cX9_type 18 = .ok (.ireturn, 1) := by decide +kernel
theorem dX9_type_19 : decode cX9_type 19 = .ok (.aload_n 0, 1) := by decide +kernel
theorem dX9_type_20 : decode cX9_type 20 = .ok (.getfield 223, 3) := by decide +kernel
theorem dX9_type_23 : decode cX9_type 23 = .ok (.bipush 120, 2) := by decide +kernel
theorem dX9_type_25 : decode cX9_type 25 = .ok (.if_icmp .ne 8, 3) := by decide +kernel
theorem dX9_type_28 : decode cX9_type 28 = .ok (.aload_n 0, 1) := by decide +kernel
theorem dX9_type_29 : decode cX9_type 29 = .ok (.invokevirtual 145, 3) := by decide +kernel
theorem dX9_type_32 : decode cX9_type 32 = .ok (.ireturn, 1) := by decide +kernel
theorem dX9_type_33 : decode cX9_type 33 = .ok (.aload_n 0, 1) := by decide +kernel
theorem dX9_type_34 : decode cX9_type 34 = .ok (.getfield 59, 3) := by decide +kernel
theorem dX9_type_37 : decode cX9_type 37 = .ok (.aload_n 0, 1) := by decide +kernel
theorem dX9_type_38 : decode cX9_type 38 = .ok (.getfield 223, 3) := by decide +kernel
theorem dX9_type_41 : decode cX9_type 41 = .ok (.iload_n 1, 1) := by decide +kernel
theorem dX9_type_42 : decode cX9_type 42 = .ok (.iastore, 1) := by decide +kernel
theorem dX9_type_43 : decode cX9_type 43 = .ok (.aload_n 0, 1) := by decide +kernel
theorem dX9_type_44 : decode cX9_type 44 = .ok (.dup, 1) := by decide +kernel
theorem dX9_type_45 : decode cX9_type 45 = .ok (.getfield 223, 3) := by decide +kernel
theorem dX9_type_48 : decode cX9_type 48 = .ok (.iconst 1, 1) := by decide +kernel
theorem dX9_type_49 : decode cX9_type 49 = .ok (.iadd, 1) := by decide +kernel
theorem dX9_type_50 : decode cX9_type 50 = .ok (.putfield 223, 3) := by decide +kernel
theorem dX9_type_53 : decode cX9_type 53 = .ok (.aload_n 0, 1) := by decide +kernel
theorem dX9_type_54 : decode cX9_type 54 = .ok (.getfield 223, 3) := by decide +kernel
theorem dX9_type_57 : decode cX9_type 57 = .ok (.ireturn, 1) := by decide +kernel
theorem dX9_clear_0 : decode cX9_clear 0 = .ok (.aload_n 0, 1) := by decide +kernel
theorem dX9_clear_1 : decode cX9_clear 1 = .ok (.getfield 223, 3) := by decide +kernel
theorem dX9_clear_4 : decode cX9_clear 4 = .ok (.istore_n 1, 1) := by decide +kernel
theorem dX9_clear_5 : decode cX9_clear 5 = .ok (.aload_n 0, 1) := by decide +kernel
theorem dX9_clear_6 : decode cX9_clear 6 = .ok (.iconst 0, 1) := by decide +kernel
theorem dX9_clear_7 : decode cX9_clear 7 = .ok (.putfield 223, 3) := by decide +kernel
theorem dX9_clear_10 : decode cX9_clear 10 = .ok (.iload_n 1, 1) := by decide +kernel
theorem dX9_clear_11 : decode cX9_clear 11 = .ok (.ireturn, 1) := by decide +kernel
theorem dX9_here_0 : decode cX9_here 0 = .ok (.aload_n 0, 1) := by decide +kernel
theorem dX9_here_1 : decode cX9_here 1 = .ok (.getfield 226, 3) := by decide +kernel
theorem dX9_here_4 : decode cX9_here 4 = .ok (.aload_n 0, 1) := by decide +kernel
theorem dX9_here_5 : decode cX9_here 5 = .ok (.getfield 223, 3) := by decide +kernel
theorem dX9_here_8 : decode cX9_here 8 = .ok (.if_icmp .ge 30, 3) := by decide +kernel
theorem dX9_here_11 : decode cX9_here 11 = .ok (.aload_n 0, 1) := by decide +kernel
theorem dX9_here_12 : decode cX9_here 12 = .ok (.getfield 59, 3) := by decide +kernel
theorem dX9_here_15 : decode cX9_here 15 = .ok (.aload_n 0, 1) := by decide +kernel
theorem dX9_here_16 : decode cX9_here 16 = .ok (.getfield 226, 3) := by decide +kernel
theorem dX9_here_19 : decode cX9_here 19 = .ok (.iaload, 1) := by decide +kernel
theorem dX9_here_20 : decode cX9_here 20 = .ok (.bipush 32, 2) := by decide +kernel
theorem dX9_here_22 : decode cX9_here 22 = .ok (.if_icmp .ne 16, 3) := by decide +kernel
theorem dX9_here_25 : decode cX9_here 25 = .ok (.aload_n 0, 1) := by decide +kernel
theorem dX9_here_26 : decode cX9_here 26 = .ok (.dup, 1) := by decide +kernel
theorem dX9_here_27 : decode cX9_here 27 = .ok (.getfield 226, 3) := by decide +kernel
theorem dX9_here_30 : decode cX9_here 30 = .ok (.iconst 1, 1) := by decide +kernel
theorem dX9_here_31 : decode cX9_here 31 = .ok (.iadd, 1) := by decide +kernel
theorem dX9_here_32 : decode cX9_here 32 = .ok (.putfield 226, 3) := by decide +kernel
theorem dX9_here_35 : decode cX9_here 35 = .ok (.goto (-35), 3) := by decide +kernel
theorem dX9_here_38 : decode cX9_here 38 = .ok (.aload_n 0, 1) := by decide +kernel
theorem dX9_here_39 : decode cX9_here 39 = .ok (.getfield 226, 3) := by decide +kernel
theorem dX9_here_42 : decode cX9_here 42 = .ok (.aload_n 0, 1) := by decide +kernel
theorem dX9_here_43 : decode cX9_here 43 = .ok (.getfield 223, 3) := by decide +kernel
theorem dX9_here_46 : decode cX9_here 46 = .ok (.if_icmp .ge 15, 3) := by decide +kernel
theorem dX9_here_49 : decode cX9_here 49 = .ok (.aload_n 0, 1) := by decide +kernel
theorem dX9_here_50 : decode cX9_here 50 = .ok (.getfield 59, 3) := by decide +kernel
theorem dX9_here_53 : decode cX9_here 53 = .ok (.aload_n 0, 1) := by decide +kernel
theorem dX9_here_54 : decode cX9_here 54 = .ok (.getfield 226, 3) := by decide +kernel
theorem dX9_here_57 : decode cX9_here 57 = .ok (.iaload, 1) := by decide +kernel
theorem dX9_here_58 : decode cX9_here 58 = .ok (.goto 4, 3) := by decide +kernel
theorem dX9_here_61 : decode cX9_here 61 = .ok (.iconst (-1), 1) := by decide +kernel
theorem dX9_here_62 : decode cX9_here 62 = .ok (.ireturn, 1) := by decide +kernel
theorem dX9_isFigure_0 : decode cX9_isFigure 0 = .ok (.iload_n 1, 1) := by decide +kernel
theorem dX9_isFigure_1 : decode cX9_isFigure 1 = .ok (.aload_n 0, 1) := by decide +kernel
theorem dX9_isFigure_2 : decode cX9_isFigure 2 = .ok (.getfield 223, 3) := by decide +kernel
theorem dX9_isFigure_5 : decode cX9_isFigure 5 = .ok (.if_icmp .ge 26, 3) := by decide +kernel
theorem dX9_isFigure_8 : decode cX9_isFigure 8 = .ok (.aload_n 0, 1) := by decide +kernel
theorem dX9_isFigure_9 : decode cX9_isFigure 9 = .ok (.getfield 59, 3) := by decide +kernel
theorem dX9_isFigure_12 : decode cX9_isFigure 12 = .ok (.iload_n 1, 1) := by decide +kernel
theorem dX9_isFigure_13 : decode cX9_isFigure 13 = .ok (.iaload, 1) := by decide +kernel
theorem dX9_isFigure_14 : decode cX9_isFigure 14 = .ok (.i2l, 1) := by decide +kernel
theorem dX9_isFigure_15 : decode cX9_isFigure 15 = .ok (.ldc2_w 229, 3) := by decide +kernel
theorem dX9_isFigure_18 : decode cX9_isFigure 18 = .ok (.ldc2_w 231, 3) := by decide +kernel
theorem dX9_isFigure_21 : decode cX9_isFigure 21 = .ok (.invokestatic 138, 3) := by decide +kernel
theorem dX9_isFigure_24 : decode cX9_isFigure 24 = .ok (.ifCond .eq 7, 3) := by decide +kernel
theorem dX9_isFigure_27 : decode cX9_isFigure 27 = .ok (.iconst 1, 1) := by decide +kernel
theorem dX9_isFigure_28 : decode cX9_isFigure 28 = .ok (.goto 4, 3) := by decide +kernel
theorem dX9_isFigure_31 : decode cX9_isFigure 31 = .ok (.iconst 0, 1) := by decide +kernel
theorem dX9_isFigure_32 : decode cX9_isFigure 32 = .ok (.ireturn, 1) := by decide +kernel
theorem dX9_times_0 : decode cX9_times 0 = .ok (.aload_n 0, 1) := by decide +kernel
theorem dX9_times_1 : decode cX9_times 1 = .ok (.invokevirtual 233, 3) := by decide +kernel
theorem dX9_times_4 : decode cX9_times 4 = .ok (.istore_n 1, 1) := by decide +kernel
theorem dX9_times_5 : decode cX9_times 5 = .ok (.aload_n 0, 1) := by decide +kernel
theorem dX9_times_6 : decode cX9_times 6 = .ok (.getfield 226, 3) := by decide +kernel
theorem dX9_times_9 : decode cX9_times 9 = .ok (.istore_n 2, 1) := by decide +kernel
theorem dX9_times_10 : decode cX9_times 10 = .ok (.iconst 0, 1) := by decide +kernel
theorem dX9_times_11 : decode cX9_times 11 = .ok (.istore_n 3, 1) := by decide +kernel
theorem dX9_times_12 : decode cX9_times 12 = .ok (.aload_n 0, 1) := by decide +kernel
theorem dX9_times_13 : decode cX9_times 13 = .ok (.iload_n 2, 1) := by decide +kernel
theorem dX9_times_14 : decode cX9_times 14 = .ok (.invokevirtual 236, 3) := by decide +kernel
theorem dX9_times_17 : decode cX9_times 17 = .ok (.ifCond .eq 34, 3) := by decide +kernel
theorem dX9_times_20 : decode cX9_times 20 = .ok (.iload_n 2, 1) := by decide +kernel
theorem dX9_times_21 : decode cX9_times 21 = .ok (.aload_n 0, 1) := by decide +kernel
theorem dX9_times_22 : decode cX9_times 22 = .ok (.getfield 226, 3) := by decide +kernel
theorem dX9_times_25 : decode cX9_times 25 = .ok (.isub, 1) := by decide +kernel
theorem dX9_times_26 : decode cX9_times 26 = .ok (.iconst 3, 1) := by decide +kernel
theorem dX9_times_27 : decode cX9_times 27 = .ok (.if_icmp .ge 24, 3) := by decide +kernel
theorem dX9_times_30 : decode cX9_times 30 = .ok (.bipush 10, 2) := by decide +kernel
theorem dX9_times_32 : decode cX9_times 32 = .ok (.iload_n 3, 1) := by decide +kernel
theorem dX9_times_33 : decode cX9_times 33 = .ok (.imul, 1) := by decide +kernel
theorem dX9_times_34 : decode cX9_times 34 = .ok (.aload_n 0, 1) := by decide +kernel
theorem dX9_times_35 : decode cX9_times 35 = .ok (.getfield 59, 3) := by decide +kernel
theorem dX9_times_38 : decode cX9_times 38 = .ok (.iload_n 2, 1) := by decide +kernel
theorem dX9_times_39 : decode cX9_times 39 = .ok (.iaload, 1) := by decide +kernel
theorem dX9_times_40 : decode cX9_times 40 = .ok (.iadd, 1) := by decide +kernel
theorem dX9_times_41 : decode cX9_times 41 = .ok (.bipush 48, 2) := by decide +kernel
theorem dX9_times_43 : decode cX9_times 43 = .ok (.isub, 1) := by decide +kernel
theorem dX9_times_44 : decode cX9_times 44 = .ok (.istore_n 3, 1) := by decide +kernel
theorem dX9_times_45 : decode cX9_times 45 = .ok (.iinc 2 1, 3) := by decide +kernel
theorem dX9_times_48 : decode cX9_times 48 = .ok (.goto (-36), 3) := by decide +kernel
theorem dX9_times_51 : decode cX9_times 51 = .ok (.iload_n 2, 1) := by decide +kernel
theorem dX9_times_52 : decode cX9_times 52 = .ok (.aload_n 0, 1) := by decide +kernel
theorem dX9_times_53 : decode cX9_times 53 = .ok (.getfield 226, 3) := by decide +kernel
theorem dX9_times_56 : decode cX9_times 56 = .ok (.isub, 1) := by decide +kernel
theorem dX9_times_57 : decode cX9_times 57 = .ok (.i2l, 1) := by decide +kernel
theorem dX9_times_58 : decode cX9_times 58 = .ok (.lconst 1, 1) := by decide +kernel
theorem dX9_times_59 : decode cX9_times 59 = .ok (.ldc2_w 181, 3) := by decide +kernel
theorem dX9_times_62 : decode cX9_times 62 = .ok (.invokestatic 138, 3) := by decide +kernel
theorem dX9_times_65 : decode cX9_times 65 = .ok (.ifCond .eq 11, 3) := by decide +kernel
theorem dX9_times_68 : decode cX9_times 68 = .ok (.iload_n 3, 1) := by decide +kernel
theorem dX9_times_69 : decode cX9_times 69 = .ok (.ifCond .le 7, 3) := by decide +kernel
theorem dX9_times_72 : decode cX9_times 72 = .ok (.iconst 1, 1) := by decide +kernel
theorem dX9_times_73 : decode cX9_times 73 = .ok (.goto 4, 3) := by decide +kernel
theorem dX9_times_76 : decode cX9_times 76 = .ok (.iconst 0, 1) := by decide +kernel
theorem dX9_times_77 : decode cX9_times 77 = .ok (.istore 4, 2) := by decide +kernel
theorem dX9_times_79 : decode cX9_times 79 = .ok (.aload_n 0, 1) := by decide +kernel
theorem dX9_times_80 : decode cX9_times 80 = .ok (.iload 4, 2) := by decide +kernel
theorem dX9_times_82 : decode cX9_times 82 = .ok (.ifCond .eq 7, 3) := by decide +kernel
theorem dX9_times_85 : decode cX9_times 85 = .ok (.iload_n 2, 1) := by decide +kernel
theorem dX9_times_86 : decode cX9_times 86 = .ok (.goto 7, 3) := by decide +kernel
theorem dX9_times_89 : decode cX9_times 89 = .ok (.aload_n 0, 1) := by decide +kernel
theorem dX9_times_90 : decode cX9_times 90 = .ok (.getfield 226, 3) := by decide +kernel
theorem dX9_times_93 : decode cX9_times 93 = .ok (.putfield 226, 3) := by decide +kernel
theorem dX9_times_96 : decode cX9_times 96 = .ok (.iload 4, 2) := by decide +kernel
theorem dX9_times_98 : decode cX9_times 98 = .ok (.ifCond .eq 7, 3) := by decide +kernel
theorem dX9_times_101 : decode cX9_times 101 = .ok (.iload_n 3, 1) := by decide +kernel
theorem dX9_times_102 : decode cX9_times 102 = .ok (.goto 4, 3) := by decide +kernel
theorem dX9_times_105 : decode cX9_times 105 = .ok (.iconst 0, 1) := by decide +kernel
theorem dX9_times_106 : decode cX9_times 106 = .ok (.ireturn, 1) := by decide +kernel
theorem dX9_readsSign_0 : decode cX9_readsSign 0 = .ok (.aload_n 0, 1) := by decide +kernel
theorem dX9_readsSign_1 : decode cX9_readsSign 1 = .ok (.getfield 226, 3) := by decide +kernel
theorem dX9_readsSign_4 : decode cX9_readsSign 4 = .ok (.istore_n 1, 1) := by decide +kernel
theorem dX9_readsSign_5 : decode cX9_readsSign 5 = .ok (.aload_n 0, 1) := by decide +kernel
theorem dX9_readsSign_6 : decode cX9_readsSign 6 = .ok (.getfield 59, 3) := by decide +kernel
theorem dX9_readsSign_9 : decode cX9_readsSign 9 = .ok (.aload_n 0, 1) := by decide +kernel
theorem dX9_readsSign_10 : decode cX9_readsSign 10 = .ok (.getfield 226, 3) := by decide +kernel
theorem dX9_readsSign_13 : decode cX9_readsSign 13 = .ok (.iaload, 1) := by decide +kernel
theorem dX9_readsSign_14 : decode cX9_readsSign 14 = .ok (.bipush 48, 2) := by decide +kernel
theorem dX9_readsSign_16 : decode cX9_readsSign 16 = .ok (.isub, 1) := by decide +kernel
theorem dX9_readsSign_17 : decode cX9_readsSign 17 = .ok (.istore_n 2, 1) := by decide +kernel
theorem dX9_readsSign_18 : decode cX9_readsSign 18 = .ok (.iconst 1, 1) := by decide +kernel
theorem dX9_readsSign_19 : decode cX9_readsSign 19 = .ok (.istore_n 3, 1) := by decide +kernel
theorem dX9_readsSign_20 : decode cX9_readsSign 20 = .ok (.aload_n 0, 1) := by decide +kernel
theorem dX9_readsSign_21 : decode cX9_readsSign 21 = .ok (.invokevirtual 112, 3) := by decide +kernel
theorem dX9_readsSign_24 : decode cX9_readsSign 24 = .ok (.aload_n 0, 1) := by decide +kernel
theorem dX9_readsSign_25 : decode cX9_readsSign 25 = .ok (.getfield 240, 3) := by decide +kernel
theorem dX9_readsSign_28 : decode cX9_readsSign 28 = .ok (.iadd, 1) := by decide +kernel
theorem dX9_readsSign_29 : decode cX9_readsSign 29 = .ok (.bipush 100, 2) := by decide +kernel
theorem dX9_readsSign_31 : decode cX9_readsSign 31 = .ok (.if_icmp .ne 5, 3) := by decide +kernel
theorem dX9_readsSign_34 : decode cX9_readsSign 34 = .ok (.iconst 0, 1) := by decide +kernel
theorem dX9_readsSign_35 : decode cX9_readsSign 35 = .ok (.ireturn, 1) := by decide +kernel
theorem dX9_readsSign_36 : decode cX9_readsSign 36 = .ok (.aload_n 0, 1) := by decide +kernel
theorem dX9_readsSign_37 : decode cX9_readsSign 37 = .ok (.dup, 1) := by decide +kernel
theorem dX9_readsSign_38 : decode cX9_readsSign 38 = .ok (.getfield 226, 3) := by decide +kernel
theorem dX9_readsSign_41 : decode cX9_readsSign 41 = .ok (.iconst 1, 1) := by decide +kernel
theorem dX9_readsSign_42 : decode cX9_readsSign 42 = .ok (.iadd, 1) := by decide +kernel
theorem dX9_readsSign_43 : decode cX9_readsSign 43 = .ok (.putfield 226, 3) := by decide +kernel
theorem dX9_readsSign_46 : decode cX9_readsSign 46 = .ok (.aload_n 0, 1) := by decide +kernel
theorem dX9_readsSign_47 : decode cX9_readsSign 47 = .ok (.invokevirtual 233, 3) := by decide +kernel
theorem dX9_readsSign_50 : decode cX9_readsSign 50 = .ok (.bipush 120, 2) := by decide +kernel
theorem dX9_readsSign_52 : decode cX9_readsSign 52 = .ok (.if_icmp .ne 24, 3) := by decide +kernel
theorem dX9_readsSign_55 : decode cX9_readsSign 55 = .ok (.aload_n 0, 1) := by decide +kernel
theorem dX9_readsSign_56 : decode cX9_readsSign 56 = .ok (.dup, 1) := by decide +kernel
theorem dX9_readsSign_57 : decode cX9_readsSign 57 = .ok (.getfield 226, 3) := by decide +kernel
theorem dX9_readsSign_60 : decode cX9_readsSign 60 = .ok (.iconst 1, 1) := by decide +kernel
theorem dX9_readsSign_61 : decode cX9_readsSign 61 = .ok (.iadd, 1) := by decide +kernel
theorem dX9_readsSign_62 : decode cX9_readsSign 62 = .ok (.putfield 226, 3) := by decide +kernel
theorem dX9_readsSign_65 : decode cX9_readsSign 65 = .ok (.aload_n 0, 1) := by decide +kernel
theorem dX9_readsSign_66 : decode cX9_readsSign 66 = .ok (.invokevirtual 243, 3) := by decide +kernel
theorem dX9_readsSign_69 : decode cX9_readsSign 69 = .ok (.istore_n 3, 1) := by decide +kernel
theorem dX9_readsSign_70 : decode cX9_readsSign 70 = .ok (.iload_n 3, 1) := by decide +kernel
theorem dX9_readsSign_71 : decode cX9_readsSign 71 = .ok (.ifCond .ne 5, 3) := by decide +kernel
theorem dX9_readsSign_74 : decode cX9_readsSign 74 = .ok (.iconst 0, 1) := by decide +kernel
theorem dX9_readsSign_75 : decode cX9_readsSign 75 = .ok (.ireturn, 1) := by decide +kernel
theorem dX9_readsSign_76 : decode cX9_readsSign 76 = .ok (.aload_n 0, 1) := by decide +kernel
theorem dX9_readsSign_77 : decode cX9_readsSign 77 = .ok (.invokevirtual 112, 3) := by decide +kernel
theorem dX9_readsSign_80 : decode cX9_readsSign 80 = .ok (.aload_n 0, 1) := by decide +kernel
theorem dX9_readsSign_81 : decode cX9_readsSign 81 = .ok (.getfield 240, 3) := by decide +kernel
theorem dX9_readsSign_84 : decode cX9_readsSign 84 = .ok (.iadd, 1) := by decide +kernel
theorem dX9_readsSign_85 : decode cX9_readsSign 85 = .ok (.iload_n 3, 1) := by decide +kernel
theorem dX9_readsSign_86 : decode cX9_readsSign 86 = .ok (.iadd, 1) := by decide +kernel
theorem dX9_readsSign_87 : decode cX9_readsSign 87 = .ok (.bipush 100, 2) := by decide +kernel
theorem dX9_readsSign_89 : decode cX9_readsSign 89 = .ok (.if_icmp .le 10, 3) := by decide +kernel
theorem dX9_readsSign_92 : decode cX9_readsSign 92 = .ok (.aload_n 0, 1) := by decide +kernel
theorem dX9_readsSign_93 : decode cX9_readsSign 93 = .ok (.iload_n 1, 1) := by decide +kernel
theorem dX9_readsSign_94 : decode cX9_readsSign 94 = .ok (.putfield 226, 3) := by decide +kernel
theorem dX9_readsSign_97 : decode cX9_readsSign 97 = .ok (.iconst 0, 1) := by decide +kernel
theorem dX9_readsSign_98 : decode cX9_readsSign 98 = .ok (.ireturn, 1) := by decide +kernel
theorem dX9_readsSign_99 : decode cX9_readsSign 99 = .ok (.iconst 0, 1) := by decide +kernel
theorem dX9_readsSign_100 : decode cX9_readsSign 100 = .ok (.istore 4, 2) := by decide +kernel
theorem dX9_readsSign_102 : decode cX9_readsSign 102 = .ok (.iload 4, 2) := by decide +kernel
theorem dX9_readsSign_104 : decode cX9_readsSign 104 = .ok (.iload_n 3, 1) := by decide +kernel
theorem dX9_readsSign_105 : decode cX9_readsSign 105 = .ok (.if_icmp .ge 29, 3) := by decide +kernel
theorem dX9_readsSign_108 : decode cX9_readsSign 108 = .ok (.aload_n 0, 1) := by decide +kernel
theorem dX9_readsSign_109 : decode cX9_readsSign 109 = .ok (.getfield 62, 3) := by decide +kernel
theorem dX9_readsSign_112 : decode cX9_readsSign 112 = .ok (.aload_n 0, 1) := by decide +kernel
theorem dX9_readsSign_113 : decode cX9_readsSign 113 = .ok (.getfield 240, 3) := by decide +kernel
theorem dX9_readsSign_116 : decode cX9_readsSign 116 = .ok (.iload_n 2, 1) := by decide +kernel
theorem dX9_readsSign_117 : decode cX9_readsSign 117 = .ok (.iastore, 1) := by decide +kernel
theorem dX9_readsSign_118 : decode cX9_readsSign 118 = .ok (.aload_n 0, 1) := by decide +kernel
theorem dX9_readsSign_119 : decode cX9_readsSign 119 = .ok (.dup, 1) := by decide +kernel
theorem dX9_readsSign_120 : decode cX9_readsSign 120 = .ok (.getfield 240, 3) := by decide +kernel
theorem dX9_readsSign_123 : decode cX9_readsSign 123 = .ok (.iconst 1, 1) := by decide +kernel
theorem dX9_readsSign_124 : decode cX9_readsSign 124 = .ok (.iadd, 1) := by decide +kernel
theorem dX9_readsSign_125 : decode cX9_readsSign 125 = .ok (.putfield 240, 3) := by decide +kernel
theorem dX9_readsSign_128 : decode cX9_readsSign 128 = .ok (.iinc 4 1, 3) := by decide +kernel
theorem dX9_readsSign_131 : decode cX9_readsSign 131 = .ok (.goto (-29), 3) := by decide +kernel
theorem dX9_readsSign_134 : decode cX9_readsSign 134 = .ok (.iconst 1, 1) := by decide +kernel
theorem dX9_readsSign_135 : decode cX9_readsSign 135 = .ok (.ireturn, 1) := by decide +kernel
theorem dX9_readsMany_0 : decode cX9_readsMany 0 = .ok (.aload_n 0, 1) := by decide +kernel
theorem dX9_readsMany_1 : decode cX9_readsMany 1 = .ok (.getfield 240, 3) := by decide +kernel
theorem dX9_readsMany_4 : decode cX9_readsMany 4 = .ok (.istore_n 1, 1) := by decide +kernel
theorem dX9_readsMany_5 : decode cX9_readsMany 5 = .ok (.aload_n 0, 1) := by decide +kernel
theorem dX9_readsMany_6 : decode cX9_readsMany 6 = .ok (.dup, 1) := by decide +kernel
theorem dX9_readsMany_7 : decode cX9_readsMany 7 = .ok (.getfield 226, 3) := by decide +kernel
theorem dX9_readsMany_10 : decode cX9_readsMany 10 = .ok (.iconst 1, 1) := by decide +kernel
theorem dX9_readsMany_11 : decode cX9_readsMany 11 = .ok (.iadd, 1) := by decide +kernel
theorem dX9_readsMany_12 : decode cX9_readsMany 12 = .ok (.putfield 226, 3) := by decide +kernel
theorem dX9_readsMany_15 : decode cX9_readsMany 15 = .ok (.aload_n 0, 1) := by decide +kernel
theorem dX9_readsMany_16 : decode cX9_readsMany 16 = .ok (.invokevirtual 233, 3) := by decide +kernel
theorem dX9_readsMany_19 : decode cX9_readsMany 19 = .ok (.bipush 41, 2) := by decide +kernel
theorem dX9_readsMany_21 : decode cX9_readsMany 21 = .ok (.if_icmp .eq 43, 3) := by decide +kernel
theorem dX9_readsMany_24 : decode cX9_readsMany 24 = .ok (.aload_n 0, 1) := by decide +kernel
theorem dX9_readsMany_25 : decode cX9_readsMany 25 = .ok (.invokevirtual 233, 3) := by decide +kernel
theorem dX9_readsMany_28 : decode cX9_readsMany 28 = .ok (.bipush 48, 2) := by decide +kernel
theorem dX9_readsMany_30 : decode cX9_readsMany 30 = .ok (.if_icmp .eq 12, 3) := by decide +kernel
theorem dX9_readsMany_33 : decode cX9_readsMany 33 = .ok (.aload_n 0, 1) := by decide +kernel
theorem dX9_readsMany_34 : decode cX9_readsMany 34 = .ok (.invokevirtual 233, 3) := by decide +kernel
theorem dX9_readsMany_37 : decode cX9_readsMany 37 = .ok (.bipush 49, 2) := by decide +kernel
theorem dX9_readsMany_39 : decode cX9_readsMany 39 = .ok (.if_icmp .ne 7, 3) := by decide +kernel
theorem dX9_readsMany_42 : decode cX9_readsMany 42 = .ok (.iconst 1, 1) := by decide +kernel
theorem dX9_readsMany_43 : decode cX9_readsMany 43 = .ok (.goto 4, 3) := by decide +kernel
theorem dX9_readsMany_46 : decode cX9_readsMany 46 = .ok (.iconst 0, 1) := by decide +kernel
theorem dX9_readsMany_47 : decode cX9_readsMany 47 = .ok (.istore_n 2, 1) := by decide +kernel
theorem dX9_readsMany_48 : decode cX9_readsMany 48 = .ok (.iload_n 2, 1) := by decide +kernel
theorem dX9_readsMany_49 : decode cX9_readsMany 49 = .ok (.ifCond .eq 10, 3) := by decide +kernel
theorem dX9_readsMany_52 : decode cX9_readsMany 52 = .ok (.aload_n 0, 1) := by decide +kernel
theorem dX9_readsMany_53 : decode cX9_readsMany 53 = .ok (.invokevirtual 246, 3) := by decide +kernel
theorem dX9_readsMany_56 : decode cX9_readsMany 56 = .ok (.ifCond .ne 5, 3) := by decide +kernel
theorem dX9_readsMany_59 : decode cX9_readsMany 59 = .ok (.iconst 0, 1) := by decide +kernel
theorem dX9_readsMany_60 : decode cX9_readsMany 60 = .ok (.ireturn, 1) := by decide +kernel
theorem dX9_readsMany_61 : decode cX9_readsMany 61 = .ok (.goto (-46), 3) := by decide +kernel
theorem dX9_readsMany_64 : decode cX9_readsMany 64 = .ok (.aload_n 0, 1) := by decide +kernel
theorem dX9_readsMany_65 : decode cX9_readsMany 65 = .ok (.getfield 226, 3) := by decide +kernel
theorem dX9_readsMany_68 : decode cX9_readsMany 68 = .ok (.istore_n 2, 1) := by decide +kernel
theorem dX9_readsMany_69 : decode cX9_readsMany 69 = .ok (.aload_n 0, 1) := by decide +kernel
theorem dX9_readsMany_70 : decode cX9_readsMany 70 = .ok (.getfield 240, 3) := by decide +kernel
theorem dX9_readsMany_73 : decode cX9_readsMany 73 = .ok (.iload_n 1, 1) := by decide +kernel
theorem dX9_readsMany_74 : decode cX9_readsMany 74 = .ok (.isub, 1) := by decide +kernel
theorem dX9_readsMany_75 : decode cX9_readsMany 75 = .ok (.istore_n 3, 1) := by decide +kernel
theorem dX9_readsMany_76 : decode cX9_readsMany 76 = .ok (.iload_n 3, 1) := by decide +kernel
theorem dX9_readsMany_77 : decode cX9_readsMany 77 = .ok (.ifCond .ne 5, 3) := by decide +kernel
theorem dX9_readsMany_80 : decode cX9_readsMany 80 = .ok (.iconst 0, 1) := by decide +kernel
theorem dX9_readsMany_81 : decode cX9_readsMany 81 = .ok (.ireturn, 1) := by decide +kernel
theorem dX9_readsMany_82 : decode cX9_readsMany 82 = .ok (.aload_n 0, 1) := by decide +kernel
theorem dX9_readsMany_83 : decode cX9_readsMany 83 = .ok (.dup, 1) := by decide +kernel
theorem dX9_readsMany_84 : decode cX9_readsMany 84 = .ok (.getfield 226, 3) := by decide +kernel
theorem dX9_readsMany_87 : decode cX9_readsMany 87 = .ok (.iconst 1, 1) := by decide +kernel
theorem dX9_readsMany_88 : decode cX9_readsMany 88 = .ok (.iadd, 1) := by decide +kernel
theorem dX9_readsMany_89 : decode cX9_readsMany 89 = .ok (.putfield 226, 3) := by decide +kernel
theorem dX9_readsMany_92 : decode cX9_readsMany 92 = .ok (.aload_n 0, 1) := by decide +kernel
theorem dX9_readsMany_93 : decode cX9_readsMany 93 = .ok (.invokevirtual 233, 3) := by decide +kernel
theorem dX9_readsMany_96 : decode cX9_readsMany 96 = .ok (.bipush 120, 2) := by decide +kernel
theorem dX9_readsMany_98 : decode cX9_readsMany 98 = .ok (.if_icmp .eq 5, 3) := by decide +kernel
theorem dX9_readsMany_101 : decode cX9_readsMany 101 = .ok (.iconst 0, 1) := by decide +kernel
theorem dX9_readsMany_102 : decode cX9_readsMany 102 = .ok (.ireturn, 1) := by decide +kernel
theorem dX9_readsMany_103 : decode cX9_readsMany 103 = .ok (.aload_n 0, 1) := by decide +kernel
theorem dX9_readsMany_104 : decode cX9_readsMany 104 = .ok (.dup, 1) := by decide +kernel
theorem dX9_readsMany_105 : decode cX9_readsMany 105 = .ok (.getfield 226, 3) := by decide +kernel
theorem dX9_readsMany_108 : decode cX9_readsMany 108 = .ok (.iconst 1, 1) := by decide +kernel
theorem dX9_readsMany_109 : decode cX9_readsMany 109 = .ok (.iadd, 1) := by decide +kernel
theorem dX9_readsMany_110 : decode cX9_readsMany 110 = .ok (.putfield 226, 3) := by decide +kernel
theorem dX9_readsMany_113 : decode cX9_readsMany 113 = .ok (.aload_n 0, 1) := by decide +kernel
theorem dX9_readsMany_114 : decode cX9_readsMany 114 = .ok (.invokevirtual 243, 3) := by decide +kernel
theorem dX9_readsMany_117 : decode cX9_readsMany 117 = .ok (.istore 4, 2) := by decide +kernel
theorem dX9_readsMany_119 : decode cX9_readsMany 119 = .ok (.iload 4, 2) := by decide +kernel
theorem dX9_readsMany_121 : decode cX9_readsMany 121 = .ok (.ifCond .ne 5, 3) := by decide +kernel
theorem dX9_readsMany_124 : decode cX9_readsMany 124 = .ok (.iconst 0, 1) := by decide +kernel
theorem dX9_readsMany_125 : decode cX9_readsMany 125 = .ok (.ireturn, 1) := by decide +kernel
theorem dX9_readsMany_126 : decode cX9_readsMany 126 = .ok (.aload_n 0, 1) := by decide +kernel
theorem dX9_readsMany_127 : decode cX9_readsMany 127 = .ok (.invokevirtual 112, 3) := by decide +kernel
theorem dX9_readsMany_130 : decode cX9_readsMany 130 = .ok (.iload_n 1, 1) := by decide +kernel
theorem dX9_readsMany_131 : decode cX9_readsMany 131 = .ok (.iadd, 1) := by decide +kernel
theorem dX9_readsMany_132 : decode cX9_readsMany 132 = .ok (.iload 4, 2) := by decide +kernel
theorem dX9_readsMany_134 : decode cX9_readsMany 134 = .ok (.iload_n 3, 1) := by decide +kernel
theorem dX9_readsMany_135 : decode cX9_readsMany 135 = .ok (.imul, 1) := by decide +kernel
theorem dX9_readsMany_136 : decode cX9_readsMany 136 = .ok (.iadd, 1) := by decide +kernel
theorem dX9_readsMany_137 : decode cX9_readsMany 137 = .ok (.bipush 100, 2) := by decide +kernel
theorem dX9_readsMany_139 : decode cX9_readsMany 139 = .ok (.if_icmp .le 10, 3) := by decide +kernel
theorem dX9_readsMany_142 : decode cX9_readsMany 142 = .ok (.aload_n 0, 1) := by decide +kernel
theorem dX9_readsMany_143 : decode cX9_readsMany 143 = .ok (.iload_n 2, 1) := by decide +kernel
theorem dX9_readsMany_144 : decode cX9_readsMany 144 = .ok (.putfield 226, 3) := by decide +kernel
theorem dX9_readsMany_147 : decode cX9_readsMany 147 = .ok (.iconst 0, 1) := by decide +kernel
theorem dX9_readsMany_148 : decode cX9_readsMany 148 = .ok (.ireturn, 1) := by decide +kernel
theorem dX9_readsMany_149 : decode cX9_readsMany 149 = .ok (.iload_n 3, 1) := by decide +kernel
theorem dX9_readsMany_150 : decode cX9_readsMany 150 = .ok (.istore 5, 2) := by decide +kernel
theorem dX9_readsMany_152 : decode cX9_readsMany 152 = .ok (.iload 5, 2) := by decide +kernel
theorem dX9_readsMany_154 : decode cX9_readsMany 154 = .ok (.iload 4, 2) := by decide +kernel
theorem dX9_readsMany_156 : decode cX9_readsMany 156 = .ok (.iload_n 3, 1) := by decide +kernel
theorem dX9_readsMany_157 : decode cX9_readsMany 157 = .ok (.imul, 1) := by decide +kernel
theorem dX9_readsMany_158 : decode cX9_readsMany 158 = .ok (.if_icmp .ge 39, 3) := by decide +kernel
theorem dX9_readsMany_161 : decode cX9_readsMany 161 = .ok (.aload_n 0, 1) := by decide +kernel
theorem dX9_readsMany_162 : decode cX9_readsMany 162 = .ok (.getfield 62, 3) := by decide +kernel
theorem dX9_readsMany_165 : decode cX9_readsMany 165 = .ok (.aload_n 0, 1) := by decide +kernel
theorem dX9_readsMany_166 : decode cX9_readsMany 166 = .ok (.getfield 240, 3) := by decide +kernel
theorem dX9_readsMany_169 : decode cX9_readsMany 169 = .ok (.aload_n 0, 1) := by decide +kernel
theorem dX9_readsMany_170 : decode cX9_readsMany 170 = .ok (.getfield 62, 3) := by decide +kernel
theorem dX9_readsMany_173 : decode cX9_readsMany 173 = .ok (.aload_n 0, 1) := by decide +kernel
theorem dX9_readsMany_174 : decode cX9_readsMany 174 = .ok (.getfield 240, 3) := by decide +kernel
theorem dX9_readsMany_177 : decode cX9_readsMany 177 = .ok (.iload_n 3, 1) := by decide +kernel
theorem dX9_readsMany_178 : decode cX9_readsMany 178 = .ok (.isub, 1) := by decide +kernel
theorem dX9_readsMany_179 : decode cX9_readsMany 179 = .ok (.iaload, 1) := by decide +kernel
theorem dX9_readsMany_180 : decode cX9_readsMany 180 = .ok (.iastore, 1) := by decide +kernel
theorem dX9_readsMany_181 : decode cX9_readsMany 181 = .ok (.aload_n 0, 1) := by decide +kernel
theorem dX9_readsMany_182 : decode cX9_readsMany 182 = .ok (.dup, 1) := by decide +kernel
theorem dX9_readsMany_183 : decode cX9_readsMany 183 = .ok (.getfield 240, 3) := by decide +kernel
theorem dX9_readsMany_186 : decode cX9_readsMany 186 = .ok (.iconst 1, 1) := by decide +kernel
theorem dX9_readsMany_187 : decode cX9_readsMany 187 = .ok (.iadd, 1) := by decide +kernel
theorem dX9_readsMany_188 : decode cX9_readsMany 188 = .ok (.putfield 240, 3) := by decide +kernel
theorem dX9_readsMany_191 : decode cX9_readsMany 191 = .ok (.iinc 5 1, 3) := by decide +kernel
theorem dX9_readsMany_194 : decode cX9_readsMany 194 = .ok (.goto (-42), 3) := by decide +kernel
theorem dX9_readsMany_197 : decode cX9_readsMany 197 = .ok (.iconst 1, 1) := by decide +kernel
theorem dX9_readsMany_198 : decode cX9_readsMany 198 = .ok (.ireturn, 1) := by decide +kernel
theorem dX9_told_0 : decode cX9_told 0 = .ok (.aload_n 0, 1) := by decide +kernel
theorem dX9_told_1 : decode cX9_told 1 = .ok (.iconst 0, 1) := by decide +kernel
theorem dX9_told_2 : decode cX9_told 2 = .ok (.putfield 226, 3) := by decide +kernel
theorem dX9_told_5 : decode cX9_told 5 = .ok (.aload_n 0, 1) := by decide +kernel
theorem dX9_told_6 : decode cX9_told 6 = .ok (.iconst 0, 1) := by decide +kernel
theorem dX9_told_7 : decode cX9_told 7 = .ok (.putfield 240, 3) := by decide +kernel
theorem dX9_told_10 : decode cX9_told 10 = .ok (.aload_n 0, 1) := by decide +kernel
theorem dX9_told_11 : decode cX9_told 11 = .ok (.invokevirtual 233, 3) := by decide +kernel
theorem dX9_told_14 : decode cX9_told 14 = .ok (.iconst (-1), 1) := by decide +kernel
theorem dX9_told_15 : decode cX9_told 15 = .ok (.if_icmp .eq 61, 3) := by decide +kernel
theorem dX9_told_18 : decode cX9_told 18 = .ok (.aload_n 0, 1) := by decide +kernel
theorem dX9_told_19 : decode cX9_told 19 = .ok (.invokevirtual 233, 3) := by decide +kernel
theorem dX9_told_22 : decode cX9_told 22 = .ok (.istore_n 1, 1) := by decide +kernel
theorem dX9_told_23 : decode cX9_told 23 = .ok (.iload_n 1, 1) := by decide +kernel
theorem dX9_told_24 : decode cX9_told 24 = .ok (.bipush 40, 2) := by decide +kernel
theorem dX9_told_26 : decode cX9_told 26 = .ok (.if_icmp .ne 10, 3) := by decide +kernel
theorem dX9_told_29 : decode cX9_told 29 = .ok (.aload_n 0, 1) := by decide +kernel
theorem dX9_told_30 : decode cX9_told 30 = .ok (.invokevirtual 250, 3) := by decide +kernel
theorem dX9_told_33 : decode cX9_told 33 = .ok (.goto 27, 3) := by decide +kernel
theorem dX9_told_36 : decode cX9_told 36 = .ok (.iload_n 1, 1) := by decide +kernel
theorem dX9_told_37 : decode cX9_told 37 = .ok (.bipush 48, 2) := by decide +kernel
theorem dX9_told_39 : decode cX9_told 39 = .ok (.if_icmp .eq 9, 3) := by decide +kernel
theorem dX9_told_42 : decode cX9_told 42 = .ok (.iload_n 1, 1) := by decide +kernel
theorem dX9_told_43 : decode cX9_told 43 = .ok (.bipush 49, 2) := by decide +kernel
theorem dX9_told_45 : decode cX9_told 45 = .ok (.if_icmp .ne 14, 3) := by decide +kernel
theorem dX9_told_48 : decode cX9_told 48 = .ok (.aload_n 0, 1) := by decide +kernel
theorem dX9_told_49 : decode cX9_told 49 = .ok (.invokevirtual 246, 3) := by decide +kernel
theorem dX9_told_52 : decode cX9_told 52 = .ok (.ifCond .eq 7, 3) := by decide +kernel
theorem dX9_told_55 : decode cX9_told 55 = .ok (.iconst 1, 1) := by decide +kernel
theorem dX9_told_56 : decode cX9_told 56 = .ok (.goto 4, 3) := by decide +kernel
theorem dX9_told_59 : decode cX9_told 59 = .ok (.iconst 0, 1) := by decide +kernel
theorem dX9_told_60 : decode cX9_told 60 = .ok (.istore_n 2, 1) := by decide +kernel
theorem dX9_told_61 : decode cX9_told 61 = .ok (.iload_n 2, 1) := by decide +kernel
theorem dX9_told_62 : decode cX9_told 62 = .ok (.ifCond .ne 11, 3) := by decide +kernel
theorem dX9_told_65 : decode cX9_told 65 = .ok (.bipush (-10), 2) := by decide +kernel
theorem dX9_told_67 : decode cX9_told 67 = .ok (.aload_n 0, 1) := by decide +kernel
theorem dX9_told_68 : decode cX9_told 68 = .ok (.getfield 226, 3) := by decide +kernel
theorem dX9_told_71 : decode cX9_told 71 = .ok (.isub, 1) := by decide +kernel
theorem dX9_told_72 : decode cX9_told 72 = .ok (.ireturn, 1) := by decide +kernel
theorem dX9_told_73 : decode cX9_told 73 = .ok (.goto (-63), 3) := by decide +kernel
theorem dX9_told_76 : decode cX9_told 76 = .ok (.aload_n 0, 1) := by decide +kernel
theorem dX9_told_77 : decode cX9_told 77 = .ok (.invokevirtual 148, 3) := by decide +kernel
theorem dX9_told_80 : decode cX9_told 80 = .ok (.iconst 0, 1) := by decide +kernel
theorem dX9_told_81 : decode cX9_told 81 = .ok (.istore_n 1, 1) := by decide +kernel
theorem dX9_told_82 : decode cX9_told 82 = .ok (.iload_n 1, 1) := by decide +kernel
theorem dX9_told_83 : decode cX9_told 83 = .ok (.aload_n 0, 1) := by decide +kernel
theorem dX9_told_84 : decode cX9_told 84 = .ok (.getfield 240, 3) := by decide +kernel
theorem dX9_told_87 : decode cX9_told 87 = .ok (.if_icmp .ge 19, 3) := by decide +kernel
theorem dX9_told_90 : decode cX9_told 90 = .ok (.aload_n 0, 1) := by decide +kernel
theorem dX9_told_91 : decode cX9_told 91 = .ok (.aload_n 0, 1) := by decide +kernel
theorem dX9_told_92 : decode cX9_told 92 = .ok (.getfield 62, 3) := by decide +kernel
theorem dX9_told_95 : decode cX9_told 95 = .ok (.iload_n 1, 1) := by decide +kernel
theorem dX9_told_96 : decode cX9_told 96 = .ok (.iaload, 1) := by decide +kernel
theorem dX9_told_97 : decode cX9_told 97 = .ok (.invokevirtual 151, 3) := by decide +kernel
theorem dX9_told_100 : decode cX9_told 100 = .ok (.iinc 1 1, 3) := by decide +kernel
theorem dX9_told_103 : decode cX9_told 103 = .ok (.goto (-21), 3) := by decide +kernel
theorem dX9_told_106 : decode cX9_told 106 = .ok (.aload_n 0, 1) := by decide +kernel
theorem dX9_told_107 : decode cX9_told 107 = .ok (.getfield 240, 3) := by decide +kernel
theorem dX9_told_110 : decode cX9_told 110 = .ok (.ireturn, 1) := by decide +kernel
theorem dX9_back_0 : decode cX9_back 0 = .ok (.aload_n 0, 1) := by decide +kernel
theorem dX9_back_1 : decode cX9_back 1 = .ok (.getfield 65, 3) := by decide +kernel
theorem dX9_back_4 : decode cX9_back 4 = .ok (.ifCond .ne 8, 3) := by decide +kernel
theorem dX9_back_7 : decode cX9_back 7 = .ok (.aload_n 0, 1) := by decide +kernel
theorem dX9_back_8 : decode cX9_back 8 = .ok (.invokevirtual 171, 3) := by decide +kernel
theorem dX9_back_11 : decode cX9_back 11 = .ok (.ireturn, 1) := by decide +kernel
theorem dX9_back_12 : decode cX9_back 12 = .ok (.aload_n 0, 1) := by decide +kernel
theorem dX9_back_13 : decode cX9_back 13 = .ok (.dup, 1) := by decide +kernel
theorem dX9_back_14 : decode cX9_back 14 = .ok (.getfield 65, 3) := by decide +kernel
theorem dX9_back_17 : decode cX9_back 17 = .ok (.iconst 1, 1) := by decide +kernel
theorem dX9_back_18 : decode cX9_back 18 = .ok (.isub, 1) := by decide +kernel
theorem dX9_back_19 : decode cX9_back 19 = .ok (.putfield 65, 3) := by decide +kernel
theorem dX9_back_22 : decode cX9_back 22 = .ok (.iconst 0, 1) := by decide +kernel
theorem dX9_back_23 : decode cX9_back 23 = .ok (.istore_n 1, 1) := by decide +kernel
theorem dX9_back_24 : decode cX9_back 24 = .ok (.iload_n 1, 1) := by decide +kernel
theorem dX9_back_25 : decode cX9_back 25 = .ok (.bipush 103, 2) := by decide +kernel
theorem dX9_back_27 : decode cX9_back 27 = .ok (.if_icmp .ge 29, 3) := by decide +kernel
theorem dX9_back_30 : decode cX9_back 30 = .ok (.aload_n 0, 1) := by decide +kernel
theorem dX9_back_31 : decode cX9_back 31 = .ok (.getfield 7, 3) := by decide +kernel
theorem dX9_back_34 : decode cX9_back 34 = .ok (.iload_n 1, 1) := by decide +kernel
theorem dX9_back_35 : decode cX9_back 35 = .ok (.aload_n 0, 1) := by decide +kernel
theorem dX9_back_36 : decode cX9_back 36 = .ok (.getfield 13, 3) := by decide +kernel
theorem dX9_back_39 : decode cX9_back 39 = .ok (.bipush 103, 2) := by decide +kernel
theorem dX9_back_41 : decode cX9_back 41 = .ok (.aload_n 0, 1) := by decide +kernel
theorem dX9_back_42 : decode cX9_back 42 = .ok (.getfield 65, 3) := by decide +kernel
theorem dX9_back_45 : decode cX9_back 45 = .ok (.imul, 1) := by decide +kernel
theorem dX9_back_46 : decode cX9_back 46 = .ok (.iload_n 1, 1) := by decide +kernel
theorem dX9_back_47 : decode cX9_back 47 = .ok (.iadd, 1) := by decide +kernel
theorem dX9_back_48 : decode cX9_back 48 = .ok (.iaload, 1) := by decide +kernel
theorem dX9_back_49 : decode cX9_back 49 = .ok (.iastore, 1) := by decide +kernel
theorem dX9_back_50 : decode cX9_back 50 = .ok (.iinc 1 1, 3) := by decide +kernel
theorem dX9_back_53 : decode cX9_back 53 = .ok (.goto (-29), 3) := by decide +kernel
theorem dX9_back_56 : decode cX9_back 56 = .ok (.aload_n 0, 1) := by decide +kernel
theorem dX9_back_57 : decode cX9_back 57 = .ok (.getfield 65, 3) := by decide +kernel
theorem dX9_back_60 : decode cX9_back 60 = .ok (.ireturn, 1) := by decide +kernel
theorem dX9_counted_0 : decode cX9_counted 0 = .ok (.iload_n 1, 1) := by decide +kernel
theorem dX9_counted_1 : decode cX9_counted 1 = .ok (.tableswitch 60 3 7 #[35, 40, 45, 50, 55], 35) := by decide +kernel
theorem dX9_counted_36 : decode cX9_counted 36 = .ok (.aload_n 0, 1) := by decide +kernel
theorem dX9_counted_37 : decode cX9_counted 37 = .ok (.getfield 223, 3) := by decide +kernel
theorem dX9_counted_40 : decode cX9_counted 40 = .ok (.ireturn, 1) := by decide +kernel
theorem dX9_counted_41 : decode cX9_counted 41 = .ok (.aload_n 0, 1) := by decide +kernel
theorem dX9_counted_42 : decode cX9_counted 42 = .ok (.invokevirtual 112, 3) := by decide +kernel
theorem dX9_counted_45 : decode cX9_counted 45 = .ok (.ireturn, 1) := by decide +kernel
theorem dX9_counted_46 : decode cX9_counted 46 = .ok (.aload_n 0, 1) := by decide +kernel
theorem dX9_counted_47 : decode cX9_counted 47 = .ok (.invokevirtual 123, 3) := by decide +kernel
theorem dX9_counted_50 : decode cX9_counted 50 = .ok (.ireturn, 1) := by decide +kernel
theorem dX9_counted_51 : decode cX9_counted 51 = .ok (.aload_n 0, 1) := by decide +kernel
theorem dX9_counted_52 : decode cX9_counted 52 = .ok (.invokevirtual 126, 3) := by decide +kernel
theorem dX9_counted_55 : decode cX9_counted 55 = .ok (.ireturn, 1) := by decide +kernel
theorem dX9_counted_56 : decode cX9_counted 56 = .ok (.aload_n 0, 1) := by decide +kernel
theorem dX9_counted_57 : decode cX9_counted 57 = .ok (.getfield 65, 3) := by decide +kernel
theorem dX9_counted_60 : decode cX9_counted 60 = .ok (.ireturn, 1) := by decide +kernel
theorem dX9_counted_61 : decode cX9_counted 61 = .ok (.aload_n 0, 1) := by decide +kernel
theorem dX9_counted_62 : decode cX9_counted 62 = .ok (.getfield 16, 3) := by decide +kernel
theorem dX9_counted_65 : decode cX9_counted 65 = .ok (.iload_n 1, 1) := by decide +kernel
theorem dX9_counted_66 : decode cX9_counted 66 = .ok (.iaload, 1) := by decide +kernel
theorem dX9_counted_67 : decode cX9_counted 67 = .ok (.ireturn, 1) := by decide +kernel
theorem dX9_count_0 : decode cX9_count 0 = .ok (.iload_n 1, 1) := by decide +kernel
theorem dX9_count_1 : decode cX9_count 1 = .ok (.i2l, 1) := by decide +kernel
theorem dX9_count_2 : decode cX9_count 2 = .ok (.lconst 0, 1) := by decide +kernel
theorem dX9_count_3 : decode cX9_count 3 = .ok (.ldc2_w 253, 3) := by decide +kernel
theorem dX9_count_6 : decode cX9_count 6 = .ok (.invokestatic 138, 3) := by decide +kernel
theorem dX9_count_9 : decode cX9_count 9 = .ok (.ifCond .eq 11, 3) := by decide +kernel
theorem dX9_count_12 : decode cX9_count 12 = .ok (.aload_n 0, 1) := by decide +kernel
theorem dX9_count_13 : decode cX9_count 13 = .ok (.iload_n 1, 1) := by decide +kernel
theorem dX9_count_14 : decode cX9_count 14 = .ok (.invokevirtual 255, 3) := by decide +kernel
theorem dX9_count_17 : decode cX9_count 17 = .ok (.goto 9, 3) := by decide +kernel
theorem dX9_count_20 : decode cX9_count 20 = .ok (.aload_n 0, 1) := by decide +kernel
theorem dX9_count_21 : decode cX9_count 21 = .ok (.bipush (-2), 2) := by decide +kernel
theorem dX9_count_23 : decode cX9_count 23 = .ok (.invokevirtual 142, 3) := by decide +kernel
theorem dX9_count_26 : decode cX9_count 26 = .ok (.ireturn, 1) := by decide +kernel
theorem dX9_digest_0 : decode cX9_digest 0 = .ok (.ldc2_w 258, 3) := by decide +kernel
theorem dX9_digest_3 : decode cX9_digest 3 = .ok (.lstore_n 1, 1) := by decide +kernel
theorem dX9_digest_4 : decode cX9_digest 4 = .ok (.iconst 0, 1) := by decide +kernel
theorem dX9_digest_5 : decode cX9_digest 5 = .ok (.istore_n 3, 1) := by decide +kernel
theorem dX9_digest_6 : decode cX9_digest 6 = .ok (.iload_n 3, 1) := by decide +kernel
theorem dX9_digest_7 : decode cX9_digest 7 = .ok (.bipush 8, 2) := by decide +kernel
theorem dX9_digest_9 : decode cX9_digest 9 = .ok (.if_icmp .ge 22, 3) := by decide +kernel
theorem dX9_digest_12 : decode cX9_digest 12 = .ok (.ldc2_w 260, 3) := by decide +kernel
theorem dX9_digest_15 : decode cX9_digest 15 = .ok (.lload_n 1, 1) := by decide +kernel
theorem dX9_digest_16 : decode cX9_digest 16 = .ok (.lmul, 1) := by decide +kernel
theorem dX9_digest_17 : decode cX9_digest 17 = .ok (.aload_n 0, 1) := by decide +kernel
theorem dX9_digest_18 : decode cX9_digest 18 = .ok (.iload_n 3, 1) := by decide +kernel
theorem dX9_digest_19 : decode cX9_digest 19 = .ok (.invokevirtual 255, 3) := by decide +kernel
theorem dX9_digest_22 : decode cX9_digest 22 = .ok (.i2l, 1) := by decide +kernel
theorem dX9_digest_23 : decode cX9_digest 23 = .ok (.ladd, 1) := by decide +kernel
theorem dX9_digest_24 : decode cX9_digest 24 = .ok (.lstore_n 1, 1) := by decide +kernel
theorem dX9_digest_25 : decode cX9_digest 25 = .ok (.iinc 3 1, 3) := by decide +kernel
theorem dX9_digest_28 : decode cX9_digest 28 = .ok (.goto (-22), 3) := by decide +kernel
theorem dX9_digest_31 : decode cX9_digest 31 = .ok (.iconst 0, 1) := by decide +kernel
theorem dX9_digest_32 : decode cX9_digest 32 = .ok (.istore_n 3, 1) := by decide +kernel
theorem dX9_digest_33 : decode cX9_digest 33 = .ok (.iload_n 3, 1) := by decide +kernel
theorem dX9_digest_34 : decode cX9_digest 34 = .ok (.aload_n 0, 1) := by decide +kernel
theorem dX9_digest_35 : decode cX9_digest 35 = .ok (.invokevirtual 112, 3) := by decide +kernel
theorem dX9_digest_38 : decode cX9_digest 38 = .ok (.if_icmp .ge 23, 3) := by decide +kernel
theorem dX9_digest_41 : decode cX9_digest 41 = .ok (.ldc2_w 260, 3) := by decide +kernel
theorem dX9_digest_44 : decode cX9_digest 44 = .ok (.lload_n 1, 1) := by decide +kernel
theorem dX9_digest_45 : decode cX9_digest 45 = .ok (.lmul, 1) := by decide +kernel
theorem dX9_digest_46 : decode cX9_digest 46 = .ok (.aload_n 0, 1) := by decide +kernel
theorem dX9_digest_47 : decode cX9_digest 47 = .ok (.getfield 7, 3) := by decide +kernel
theorem dX9_digest_50 : decode cX9_digest 50 = .ok (.iload_n 3, 1) := by decide +kernel
theorem dX9_digest_51 : decode cX9_digest 51 = .ok (.iaload, 1) := by decide +kernel
theorem dX9_digest_52 : decode cX9_digest 52 = .ok (.i2l, 1) := by decide +kernel
theorem dX9_digest_53 : decode cX9_digest 53 = .ok (.ladd, 1) := by decide +kernel
theorem dX9_digest_54 : decode cX9_digest 54 = .ok (.lstore_n 1, 1) := by decide +kernel
theorem dX9_digest_55 : decode cX9_digest 55 = .ok (.iinc 3 1, 3) := by decide +kernel
theorem dX9_digest_58 : decode cX9_digest 58 = .ok (.goto (-25), 3) := by decide +kernel
theorem dX9_digest_61 : decode cX9_digest 61 = .ok (.ldc2_w 260, 3) := by decide +kernel
theorem dX9_digest_64 : decode cX9_digest 64 = .ok (.lload_n 1, 1) := by decide +kernel
theorem dX9_digest_65 : decode cX9_digest 65 = .ok (.lmul, 1) := by decide +kernel
theorem dX9_digest_66 : decode cX9_digest 66 = .ok (.aload_n 0, 1) := by decide +kernel
theorem dX9_digest_67 : decode cX9_digest 67 = .ok (.invokevirtual 174, 3) := by decide +kernel
theorem dX9_digest_70 : decode cX9_digest 70 = .ok (.i2l, 1) := by decide +kernel
theorem dX9_digest_71 : decode cX9_digest 71 = .ok (.ladd, 1) := by decide +kernel
theorem dX9_digest_72 : decode cX9_digest 72 = .ok (.lstore_n 1, 1) := by decide +kernel
theorem dX9_digest_73 : decode cX9_digest 73 = .ok (.ldc2_w 260, 3) := by decide +kernel
theorem dX9_digest_76 : decode cX9_digest 76 = .ok (.lload_n 1, 1) := by decide +kernel
theorem dX9_digest_77 : decode cX9_digest 77 = .ok (.lmul, 1) := by decide +kernel
theorem dX9_digest_78 : decode cX9_digest 78 = .ok (.aload_n 0, 1) := by decide +kernel
theorem dX9_digest_79 : decode cX9_digest 79 = .ok (.invokevirtual 132, 3) := by decide +kernel
theorem dX9_digest_82 : decode cX9_digest 82 = .ok (.i2l, 1) := by decide +kernel
theorem dX9_digest_83 : decode cX9_digest 83 = .ok (.ladd, 1) := by decide +kernel
theorem dX9_digest_84 : decode cX9_digest 84 = .ok (.lstore_n 1, 1) := by decide +kernel
theorem dX9_digest_85 : decode cX9_digest 85 = .ok (.ldc2_w 260, 3) := by decide +kernel
theorem dX9_digest_88 : decode cX9_digest 88 = .ok (.lload_n 1, 1) := by decide +kernel
theorem dX9_digest_89 : decode cX9_digest 89 = .ok (.lmul, 1) := by decide +kernel
theorem dX9_digest_90 : decode cX9_digest 90 = .ok (.aload_n 0, 1) := by decide +kernel
theorem dX9_digest_91 : decode cX9_digest 91 = .ok (.iconst 0, 1) := by decide +kernel
theorem dX9_digest_92 : decode cX9_digest 92 = .ok (.invokevirtual 192, 3) := by decide +kernel
theorem dX9_digest_95 : decode cX9_digest 95 = .ok (.i2l, 1) := by decide +kernel
theorem dX9_digest_96 : decode cX9_digest 96 = .ok (.ladd, 1) := by decide +kernel
theorem dX9_digest_97 : decode cX9_digest 97 = .ok (.lstore_n 1, 1) := by decide +kernel
theorem dX9_digest_98 : decode cX9_digest 98 = .ok (.aload_n 0, 1) := by decide +kernel
theorem dX9_digest_99 : decode cX9_digest 99 = .ok (.invokevirtual 213, 3) := by decide +kernel
theorem dX9_digest_102 : decode cX9_digest 102 = .ok (.iconst 0, 1) := by decide +kernel
theorem dX9_digest_103 : decode cX9_digest 103 = .ok (.istore_n 3, 1) := by decide +kernel
theorem dX9_digest_104 : decode cX9_digest 104 = .ok (.iload_n 3, 1) := by decide +kernel
theorem dX9_digest_105 : decode cX9_digest 105 = .ok (.aload_n 0, 1) := by decide +kernel
theorem dX9_digest_106 : decode cX9_digest 106 = .ok (.getfield 203, 3) := by decide +kernel
theorem dX9_digest_109 : decode cX9_digest 109 = .ok (.if_icmp .ge 23, 3) := by decide +kernel
theorem dX9_digest_112 : decode cX9_digest 112 = .ok (.ldc2_w 260, 3) := by decide +kernel
theorem dX9_digest_115 : decode cX9_digest 115 = .ok (.lload_n 1, 1) := by decide +kernel
theorem dX9_digest_116 : decode cX9_digest 116 = .ok (.lmul, 1) := by decide +kernel
theorem dX9_digest_117 : decode cX9_digest 117 = .ok (.aload_n 0, 1) := by decide +kernel
theorem dX9_digest_118 : decode cX9_digest 118 = .ok (.getfield 56, 3) := by decide +kernel
theorem dX9_digest_121 : decode cX9_digest 121 = .ok (.iload_n 3, 1) := by decide +kernel
theorem dX9_digest_122 : decode cX9_digest 122 = .ok (.iaload, 1) := by decide +kernel
theorem dX9_digest_123 : decode cX9_digest 123 = .ok (.i2l, 1) := by decide +kernel
theorem dX9_digest_124 : decode cX9_digest 124 = .ok (.ladd, 1) := by decide +kernel
theorem dX9_digest_125 : decode cX9_digest 125 = .ok (.lstore_n 1, 1) := by decide +kernel
theorem dX9_digest_126 : decode cX9_digest 126 = .ok (.iinc 3 1, 3) := by decide +kernel
theorem dX9_digest_129 : decode cX9_digest 129 = .ok (.goto (-25), 3) := by decide +kernel
theorem dX9_digest_132 : decode cX9_digest 132 = .ok (.lload_n 1, 1) := by decide +kernel
theorem dX9_digest_133 : decode cX9_digest 133 = .ok (.lreturn, 1) := by decide +kernel
theorem dJ9_max_7cf53_0 : decode cJ9_max_7cf53 0 = .ok (.iload_n 0, 1) := by decide +kernel
theorem dJ9_max_7cf53_1 : decode cJ9_max_7cf53 1 = .ok (.iload_n 1, 1) := by decide +kernel
theorem dJ9_max_7cf53_2 : decode cJ9_max_7cf53 2 = .ok (.if_icmp .lt 7, 3) := by decide +kernel
theorem dJ9_max_7cf53_5 : decode cJ9_max_7cf53 5 = .ok (.iload_n 0, 1) := by decide +kernel
theorem dJ9_max_7cf53_6 : decode cJ9_max_7cf53 6 = .ok (.goto 4, 3) := by decide +kernel
theorem dJ9_max_7cf53_9 : decode cJ9_max_7cf53 9 = .ok (.iload_n 1, 1) := by decide +kernel
theorem dJ9_max_7cf53_10 : decode cJ9_max_7cf53 10 = .ok (.ireturn, 1) := by decide +kernel
theorem dJ9_min_7cf53_0 : decode cJ9_min_7cf53 0 = .ok (.iload_n 0, 1) := by decide +kernel
theorem dJ9_min_7cf53_1 : decode cJ9_min_7cf53 1 = .ok (.iload_n 1, 1) := by decide +kernel
theorem dJ9_min_7cf53_2 : decode cJ9_min_7cf53 2 = .ok (.if_icmp .gt 7, 3) := by decide +kernel
theorem dJ9_min_7cf53_5 : decode cJ9_min_7cf53 5 = .ok (.iload_n 0, 1) := by decide +kernel
theorem dJ9_min_7cf53_6 : decode cJ9_min_7cf53 6 = .ok (.goto 4, 3) := by decide +kernel
theorem dJ9_min_7cf53_9 : decode cJ9_min_7cf53 9 = .ok (.iload_n 1, 1) := by decide +kernel
theorem dJ9_min_7cf53_10 : decode cJ9_min_7cf53 10 = .ok (.ireturn, 1) := by decide +kernel
theorem dL_law_0 : decode cL_law 0 = .ok (.new 7, 3) := by decide +kernel
theorem dL_law_3 : decode cL_law 3 = .ok (.dup, 1) := by decide +kernel
theorem dL_law_4 : decode cL_law 4 = .ok (.invokespecial 9, 3) := by decide +kernel
theorem dL_law_7 : decode cL_law 7 = .ok (.astore_n 1, 1) := by decide +kernel
theorem dL_law_8 : decode cL_law 8 = .ok (.new 10, 3) := by decide +kernel
theorem dL_law_11 : decode cL_law 11 = .ok (.dup, 1) := by decide +kernel
theorem dL_law_12 : decode cL_law 12 = .ok (.invokespecial 12, 3) := by decide +kernel
theorem dL_law_15 : decode cL_law 15 = .ok (.astore_n 2, 1) := by decide +kernel
theorem dL_law_16 : decode cL_law 16 = .ok (.iconst 0, 1) := by decide +kernel
theorem dL_law_17 : decode cL_law 17 = .ok (.istore_n 3, 1) := by decide +kernel
theorem dL_law_18 : decode cL_law 18 = .ok (.iload_n 3, 1) := by decide +kernel
theorem dL_law_19 : decode cL_law 19 = .ok (.aload_n 0, 1) := by decide +kernel
theorem dL_law_20 : decode cL_law 20 = .ok (.arraylength, 1) := by decide +kernel
theorem dL_law_21 : decode cL_law 21 = .ok (.iconst 4, 1) := by decide +kernel
theorem dL_law_22 : decode cL_law 22 = .ok (.isub, 1) := by decide +kernel
theorem dL_law_23 : decode cL_law 23 = .ok (.if_icmp .gt 730, 3) := by decide +kernel
theorem dL_law_26 : decode cL_law 26 = .ok (.aload_n 0, 1) := by decide +kernel
theorem dL_law_27 : decode cL_law 27 = .ok (.iload_n 3, 1) := by decide +kernel
theorem dL_law_28 : decode cL_law 28 = .ok (.iaload, 1) := by decide +kernel
theorem dL_law_29 : decode cL_law 29 = .ok (.bipush 31, 2) := by decide +kernel
theorem dL_law_31 : decode cL_law 31 = .ok (.iand, 1) := by decide +kernel
theorem dL_law_32 : decode cL_law 32 = .ok (.tableswitch 715 0 23 #[112, 135, 198, 241, 274, 287, 300, 323, 336, 369, 412, 425, 458, 481, 504, 527, 560, 583, 616, 639, 652, 665, 678, 701], 112) := by decide +kernel
theorem dL_law_144 : decode cL_law 144 = .ok (.aload_n 1, 1) := by decide +kernel
theorem dL_law_145 : decode cL_law 145 = .ok (.aload_n 0, 1) := by decide +kernel
theorem dL_law_146 : decode cL_law 146 = .ok (.iload_n 3, 1) := by decide +kernel
theorem dL_law_147 : decode cL_law 147 = .ok (.iconst 1, 1) := by decide +kernel
theorem dL_law_148 : decode cL_law 148 = .ok (.iadd, 1) := by decide +kernel
theorem dL_law_149 : decode cL_law 149 = .ok (.iaload, 1) := by decide +kernel
theorem dL_law_150 : decode cL_law 150 = .ok (.invokevirtual 13, 3) := by decide +kernel
theorem dL_law_153 : decode cL_law 153 = .ok (.aload_n 2, 1) := by decide +kernel
theorem dL_law_154 : decode cL_law 154 = .ok (.aload_n 0, 1) := by decide +kernel
theorem dL_law_155 : decode cL_law 155 = .ok (.iload_n 3, 1) := by decide +kernel
theorem dL_law_156 : decode cL_law 156 = .ok (.iconst 1, 1) := by decide +kernel
theorem dL_law_157 : decode cL_law 157 = .ok (.iadd, 1) := by decide +kernel
theorem dL_law_158 : decode cL_law 158 = .ok (.iaload, 1) := by decide +kernel
theorem dL_law_159 : decode cL_law 159 = .ok (.invokevirtual 17, 3) := by decide +kernel
theorem dL_law_162 : decode cL_law 162 = .ok (.if_icmp .eq 585, 3) := by decide +kernel
theorem dL_law_165 : decode cL_law 165 = .ok (.iconst 0, 1) := by decide +kernel
theorem dL_law_166 : decode cL_law 166 = .ok (.ireturn, 1) := by decide +kernel
theorem dL_law_167 : decode cL_law 167 = .ok (.aload_n 1, 1) := by decide +kernel
theorem dL_law_168 : decode cL_law 168 = .ok (.aload_n 0, 1) := by decide +kernel
theorem dL_law_169 : decode cL_law 169 = .ok (.iload_n 3, 1) := by decide +kernel
theorem dL_law_170 : decode cL_law 170 = .ok (.iconst 1, 1) := by decide +kernel
theorem dL_law_171 : decode cL_law 171 = .ok (.iadd, 1) := by decide +kernel
theorem dL_law_172 : decode cL_law 172 = .ok (.iaload, 1) := by decide +kernel
theorem dL_law_173 : decode cL_law 173 = .ok (.i2l, 1) := by decide +kernel
theorem dL_law_174 : decode cL_law 174 = .ok (.bipush 32, 2) := by decide +kernel
theorem dL_law_176 : decode cL_law 176 = .ok (.lshl, 1) := by decide +kernel
theorem dL_law_177 : decode cL_law 177 = .ok (.aload_n 0, 1) := by decide +kernel
theorem dL_law_178 : decode cL_law 178 = .ok (.iload_n 3, 1) := by decide +kernel
theorem dL_law_179 : decode cL_law 179 = .ok (.iconst 2, 1) := by decide +kernel
theorem dL_law_180 : decode cL_law 180 = .ok (.iadd, 1) := by decide +kernel
theorem dL_law_181 : decode cL_law 181 = .ok (.iaload, 1) := by decide +kernel
theorem dL_law_182 : decode cL_law 182 = .ok (.i2l, 1) := by decide +kernel
theorem dL_law_183 : decode cL_law 183 = .ok (.ldc2_w 18, 3) := by decide +kernel
theorem dL_law_186 : decode cL_law 186 = .ok (.land, 1) := by decide +kernel
theorem dL_law_187 : decode cL_law 187 = .ok (.lor, 1) := by decide +kernel
theorem dL_law_188 : decode cL_law 188 = .ok (.aload_n 0, 1) := by decide +kernel
theorem dL_law_189 : decode cL_law 189 = .ok (.iload_n 3, 1) := by decide +kernel
theorem dL_law_190 : decode cL_law 190 = .ok (.iconst 3, 1) := by decide +kernel
theorem dL_law_191 : decode cL_law 191 = .ok (.iadd, 1) := by decide +kernel
theorem dL_law_192 : decode cL_law 192 = .ok (.iaload, 1) := by decide +kernel
theorem dL_law_193 : decode cL_law 193 = .ok (.invokevirtual 20, 3) := by decide +kernel
theorem dL_law_196 : decode cL_law 196 = .ok (.aload_n 2, 1) := by decide +kernel
theorem dL_law_197 : decode cL_law 197 = .ok (.aload_n 0, 1) := by decide +kernel
theorem dL_law_198 : decode cL_law 198 = .ok (.iload_n 3, 1) := by decide +kernel
theorem dL_law_199 : decode cL_law 199 = .ok (.iconst 1, 1) := by decide +kernel
theorem dL_law_200 : decode cL_law 200 = .ok (.iadd, 1) := by decide +kernel
theorem dL_law_201 : decode cL_law 201 = .ok (.iaload, 1) := by decide +kernel
theorem dL_law_202 : decode cL_law 202 = .ok (.i2l, 1) := by decide +kernel
theorem dL_law_203 : decode cL_law 203 = .ok (.bipush 32, 2) := by decide +kernel
theorem dL_law_205 : decode cL_law 205 = .ok (.lshl, 1) := by decide +kernel
theorem dL_law_206 : decode cL_law 206 = .ok (.aload_n 0, 1) := by decide +kernel
theorem dL_law_207 : decode cL_law 207 = .ok (.iload_n 3, 1) := by decide +kernel
theorem dL_law_208 : decode cL_law 208 = .ok (.iconst 2, 1) := by decide +kernel
theorem dL_law_209 : decode cL_law 209 = .ok (.iadd, 1) := by decide +kernel
theorem dL_law_210 : decode cL_law 210 = .ok (.iaload, 1) := by decide +kernel
theorem dL_law_211 : decode cL_law 211 = .ok (.i2l, 1) := by decide +kernel
theorem dL_law_212 : decode cL_law 212 = .ok (.ldc2_w 18, 3) := by decide +kernel
theorem dL_law_215 : decode cL_law 215 = .ok (.land, 1) := by decide +kernel
theorem dL_law_216 : decode cL_law 216 = .ok (.lor, 1) := by decide +kernel
theorem dL_law_217 : decode cL_law 217 = .ok (.aload_n 0, 1) := by decide +kernel
theorem dL_law_218 : decode cL_law 218 = .ok (.iload_n 3, 1) := by decide +kernel
theorem dL_law_219 : decode cL_law 219 = .ok (.iconst 3, 1) := by decide +kernel
theorem dL_law_220 : decode cL_law 220 = .ok (.iadd, 1) := by decide +kernel
theorem dL_law_221 : decode cL_law 221 = .ok (.iaload, 1) := by decide +kernel
theorem dL_law_222 : decode cL_law 222 = .ok (.invokevirtual 24, 3) := by decide +kernel
theorem dL_law_225 : decode cL_law 225 = .ok (.if_icmp .eq 522, 3) := by decide +kernel
theorem dL_law_228 : decode cL_law 228 = .ok (.iconst 0, 1) := by decide +kernel
theorem dL_law_229 : decode cL_law 229 = .ok (.ireturn, 1) := by decide +kernel
theorem dL_law_230 : decode cL_law 230 = .ok (.aload_n 1, 1) := by decide +kernel
theorem dL_law_231 : decode cL_law 231 = .ok (.aload_n 0, 1) := by decide +kernel
theorem dL_law_232 : decode cL_law 232 = .ok (.iload_n 3, 1) := by decide +kernel
theorem dL_law_233 : decode cL_law 233 = .ok (.iconst 1, 1) := by decide +kernel
theorem dL_law_234 : decode cL_law 234 = .ok (.iadd, 1) := by decide +kernel
theorem dL_law_235 : decode cL_law 235 = .ok (.iaload, 1) := by decide +kernel
theorem dL_law_236 : decode cL_law 236 = .ok (.aload_n 0, 1) := by decide +kernel
theorem dL_law_237 : decode cL_law 237 = .ok (.iload_n 3, 1) := by decide +kernel
theorem dL_law_238 : decode cL_law 238 = .ok (.iconst 2, 1) := by decide +kernel
theorem dL_law_239 : decode cL_law 239 = .ok (.iadd, 1) := by decide +kernel
theorem dL_law_240 : decode cL_law 240 = .ok (.iaload, 1) := by decide +kernel
theorem dL_law_241 : decode cL_law 241 = .ok (.aload_n 0, 1) := by decide +kernel
theorem dL_law_242 : decode cL_law 242 = .ok (.iload_n 3, 1) := by decide +kernel
theorem dL_law_243 : decode cL_law 243 = .ok (.iconst 3, 1) := by decide +kernel
theorem dL_law_244 : decode cL_law 244 = .ok (.iadd, 1) := by decide +kernel
theorem dL_law_245 : decode cL_law 245 = .ok (.iaload, 1) := by decide +kernel
theorem dL_law_246 : decode cL_law 246 = .ok (.invokevirtual 25, 3) := by decide +kernel
theorem dL_law_249 : decode cL_law 249 = .ok (.aload_n 2, 1) := by decide +kernel
theorem dL_law_250 : decode cL_law 250 = .ok (.aload_n 0, 1) := by decide +kernel
theorem dL_law_251 : decode cL_law 251 = .ok (.iload_n 3, 1) := by decide +kernel
theorem dL_law_252 : decode cL_law 252 = .ok (.iconst 1, 1) := by decide +kernel
theorem dL_law_253 : decode cL_law 253 = .ok (.iadd, 1) := by decide +kernel
theorem dL_law_254 : decode cL_law 254 = .ok (.iaload, 1) := by decide +kernel
theorem dL_law_255 : decode cL_law 255 = .ok (.aload_n 0, 1) := by decide +kernel
theorem dL_law_256 : decode cL_law 256 = .ok (.iload_n 3, 1) := by decide +kernel
theorem dL_law_257 : decode cL_law 257 = .ok (.iconst 2, 1) := by decide +kernel
theorem dL_law_258 : decode cL_law 258 = .ok (.iadd, 1) := by decide +kernel
theorem dL_law_259 : decode cL_law 259 = .ok (.iaload, 1) := by decide +kernel
theorem dL_law_260 : decode cL_law 260 = .ok (.aload_n 0, 1) := by decide +kernel
theorem dL_law_261 : decode cL_law 261 = .ok (.iload_n 3, 1) := by decide +kernel
theorem dL_law_262 : decode cL_law 262 = .ok (.iconst 3, 1) := by decide +kernel
theorem dL_law_263 : decode cL_law 263 = .ok (.iadd, 1) := by decide +kernel
theorem dL_law_264 : decode cL_law 264 = .ok (.iaload, 1) := by decide +kernel
theorem dL_law_265 : decode cL_law 265 = .ok (.invokevirtual 29, 3) := by decide +kernel
theorem dL_law_268 : decode cL_law 268 = .ok (.if_icmp .eq 479, 3) := by decide +kernel
theorem dL_law_271 : decode cL_law 271 = .ok (.iconst 0, 1) := by decide +kernel
theorem dL_law_272 : decode cL_law 272 = .ok (.ireturn, 1) := by decide +kernel
theorem dL_law_273 : decode cL_law 273 = .ok (.aload_n 1, 1) := by decide +kernel
theorem dL_law_274 : decode cL_law 274 = .ok (.aload_n 0, 1) := by decide +kernel
theorem dL_law_275 : decode cL_law 275 = .ok (.iload_n 3, 1) := by decide +kernel
theorem dL_law_276 : decode cL_law 276 = .ok (.iconst 1, 1) := by decide +kernel
theorem dL_law_277 : decode cL_law 277 = .ok (.iadd, 1) := by decide +kernel
theorem dL_law_278 : decode cL_law 278 = .ok (.iaload, 1) := by decide +kernel
theorem dL_law_279 : decode cL_law 279 = .ok (.aload_n 0, 1) := by decide +kernel
theorem dL_law_280 : decode cL_law 280 = .ok (.iload_n 3, 1) := by decide +kernel
theorem dL_law_281 : decode cL_law 281 = .ok (.iconst 2, 1) := by decide +kernel
theorem dL_law_282 : decode cL_law 282 = .ok (.iadd, 1) := by decide +kernel
theorem dL_law_283 : decode cL_law 283 = .ok (.iaload, 1) := by decide +kernel
theorem dL_law_284 : decode cL_law 284 = .ok (.invokevirtual 30, 3) := by decide +kernel
theorem dL_law_287 : decode cL_law 287 = .ok (.aload_n 2, 1) := by decide +kernel
theorem dL_law_288 : decode cL_law 288 = .ok (.aload_n 0, 1) := by decide +kernel
theorem dL_law_289 : decode cL_law 289 = .ok (.iload_n 3, 1) := by decide +kernel
theorem dL_law_290 : decode cL_law 290 = .ok (.iconst 1, 1) := by decide +kernel
theorem dL_law_291 : decode cL_law 291 = .ok (.iadd, 1) := by decide +kernel
theorem dL_law_292 : decode cL_law 292 = .ok (.iaload, 1) := by decide +kernel
theorem dL_law_293 : decode cL_law 293 = .ok (.aload_n 0, 1) := by decide +kernel
theorem dL_law_294 : decode cL_law 294 = .ok (.iload_n 3, 1) := by decide +kernel
theorem dL_law_295 : decode cL_law 295 = .ok (.iconst 2, 1) := by decide +kernel
theorem dL_law_296 : decode cL_law 296 = .ok (.iadd, 1) := by decide +kernel
theorem dL_law_297 : decode cL_law 297 = .ok (.iaload, 1) := by decide +kernel
theorem dL_law_298 : decode cL_law 298 = .ok (.invokevirtual 34, 3) := by decide +kernel
theorem dL_law_301 : decode cL_law 301 = .ok (.if_icmp .eq 446, 3) := by decide +kernel
theorem dL_law_304 : decode cL_law 304 = .ok (.iconst 0, 1) := by decide +kernel
theorem dL_law_305 : decode cL_law 305 = .ok (.ireturn, 1) := by decide +kernel
theorem dL_law_306 : decode cL_law 306 = .ok (.aload_n 1, 1) := by decide +kernel
theorem dL_law_307 : decode cL_law 307 = .ok (.invokevirtual 35, 3) := by decide +kernel
theorem dL_law_310 : decode cL_law 310 = .ok (.aload_n 2, 1) := by decide +kernel
theorem dL_law_311 : decode cL_law 311 = .ok (.invokevirtual 39, 3) := by decide +kernel
theorem dL_law_314 : decode cL_law 314 = .ok (.if_icmp .eq 433, 3) := by decide +kernel
theorem dL_law_317 : decode cL_law 317 = .ok (.iconst 0, 1) := by decide +kernel
theorem dL_law_318 : decode cL_law 318 = .ok (.ireturn, 1) := by decide +kernel
theorem dL_law_319 : decode cL_law 319 = .ok (.aload_n 1, 1) := by decide +kernel
theorem dL_law_320 : decode cL_law 320 = .ok (.invokevirtual 40, 3) := by decide +kernel
theorem dL_law_323 : decode cL_law 323 = .ok (.aload_n 2, 1) := by decide +kernel
theorem dL_law_324 : decode cL_law 324 = .ok (.invokevirtual 43, 3) := by decide +kernel
theorem dL_law_327 : decode cL_law 327 = .ok (.if_icmp .eq 420, 3) := by decide +kernel
theorem dL_law_330 : decode cL_law 330 = .ok (.iconst 0, 1) := by decide +kernel
theorem dL_law_331 : decode cL_law 331 = .ok (.ireturn, 1) := by decide +kernel
theorem dL_law_332 : decode cL_law 332 = .ok (.aload_n 1, 1) := by decide +kernel
theorem dL_law_333 : decode cL_law 333 = .ok (.aload_n 0, 1) := by decide +kernel
theorem dL_law_334 : decode cL_law 334 = .ok (.iload_n 3, 1) := by decide +kernel
theorem dL_law_335 : decode cL_law 335 = .ok (.iconst 1, 1) := by decide +kernel
theorem dL_law_336 : decode cL_law 336 = .ok (.iadd, 1) := by decide +kernel
theorem dL_law_337 : decode cL_law 337 = .ok (.iaload, 1) := by decide +kernel
theorem dL_law_338 : decode cL_law 338 = .ok (.invokevirtual 44, 3) := by decide +kernel
theorem dL_law_341 : decode cL_law 341 = .ok (.aload_n 2, 1) := by decide +kernel
theorem dL_law_342 : decode cL_law 342 = .ok (.aload_n 0, 1) := by decide +kernel
theorem dL_law_343 : decode cL_law 343 = .ok (.iload_n 3, 1) := by decide +kernel
theorem dL_law_344 : decode cL_law 344 = .ok (.iconst 1, 1) := by decide +kernel
theorem dL_law_345 : decode cL_law 345 = .ok (.iadd, 1) := by decide +kernel
theorem dL_law_346 : decode cL_law 346 = .ok (.iaload, 1) := by decide +kernel
theorem dL_law_347 : decode cL_law 347 = .ok (.invokevirtual 47, 3) := by decide +kernel
theorem dL_law_350 : decode cL_law 350 = .ok (.if_icmp .eq 397, 3) := by decide +kernel
theorem dL_law_353 : decode cL_law 353 = .ok (.iconst 0, 1) := by decide +kernel
theorem dL_law_354 : decode cL_law 354 = .ok (.ireturn, 1) := by decide +kernel
theorem dL_law_355 : decode cL_law 355 = .ok (.aload_n 1, 1) := by decide +kernel
theorem dL_law_356 : decode cL_law 356 = .ok (.invokevirtual 48, 3) := by decide +kernel
theorem dL_law_359 : decode cL_law 359 = .ok (.aload_n 2, 1) := by decide +kernel
theorem dL_law_360 : decode cL_law 360 = .ok (.invokevirtual 51, 3) := by decide +kernel
theorem dL_law_363 : decode cL_law 363 = .ok (.if_icmp .eq 384, 3) := by decide +kernel
theorem dL_law_366 : decode cL_law 366 = .ok (.iconst 0, 1) := by decide +kernel
theorem dL_law_367 : decode cL_law 367 = .ok (.ireturn, 1) := by decide +kernel
theorem dL_law_368 : decode cL_law 368 = .ok (.aload_n 1, 1) := by decide +kernel
theorem dL_law_369 : decode cL_law 369 = .ok (.aload_n 0, 1) := by decide +kernel
theorem dL_law_370 : decode cL_law 370 = .ok (.iload_n 3, 1) := by decide +kernel
theorem dL_law_371 : decode cL_law 371 = .ok (.iconst 1, 1) := by decide +kernel
theorem dL_law_372 : decode cL_law 372 = .ok (.iadd, 1) := by decide +kernel
theorem dL_law_373 : decode cL_law 373 = .ok (.iaload, 1) := by decide +kernel
theorem dL_law_374 : decode cL_law 374 = .ok (.aload_n 0, 1) := by decide +kernel
theorem dL_law_375 : decode cL_law 375 = .ok (.iload_n 3, 1) := by decide +kernel
theorem dL_law_376 : decode cL_law 376 = .ok (.iconst 2, 1) := by decide +kernel
theorem dL_law_377 : decode cL_law 377 = .ok (.iadd, 1) := by decide +kernel
theorem dL_law_378 : decode cL_law 378 = .ok (.iaload, 1) := by decide +kernel
theorem dL_law_379 : decode cL_law 379 = .ok (.invokevirtual 52, 3) := by decide +kernel
theorem dL_law_382 : decode cL_law 382 = .ok (.aload_n 2, 1) := by decide +kernel
theorem dL_law_383 : decode cL_law 383 = .ok (.aload_n 0, 1) := by decide +kernel
theorem dL_law_384 : decode cL_law 384 = .ok (.iload_n 3, 1) := by decide +kernel
theorem dL_law_385 : decode cL_law 385 = .ok (.iconst 1, 1) := by decide +kernel
theorem dL_law_386 : decode cL_law 386 = .ok (.iadd, 1) := by decide +kernel
theorem dL_law_387 : decode cL_law 387 = .ok (.iaload, 1) := by decide +kernel
theorem dL_law_388 : decode cL_law 388 = .ok (.aload_n 0, 1) := by decide +kernel
theorem dL_law_389 : decode cL_law 389 = .ok (.iload_n 3, 1) := by decide +kernel
theorem dL_law_390 : decode cL_law 390 = .ok (.iconst 2, 1) := by decide +kernel
theorem dL_law_391 : decode cL_law 391 = .ok (.iadd, 1) := by decide +kernel
theorem dL_law_392 : decode cL_law 392 = .ok (.iaload, 1) := by decide +kernel
theorem dL_law_393 : decode cL_law 393 = .ok (.invokevirtual 55, 3) := by decide +kernel
theorem dL_law_396 : decode cL_law 396 = .ok (.if_icmp .eq 351, 3) := by decide +kernel
theorem dL_law_399 : decode cL_law 399 = .ok (.iconst 0, 1) := by decide +kernel
theorem dL_law_400 : decode cL_law 400 = .ok (.ireturn, 1) := by decide +kernel
theorem dL_law_401 : decode cL_law 401 = .ok (.aload_n 1, 1) := by decide +kernel
theorem dL_law_402 : decode cL_law 402 = .ok (.aload_n 0, 1) := by decide +kernel
theorem dL_law_403 : decode cL_law 403 = .ok (.iload_n 3, 1) := by decide +kernel
theorem dL_law_404 : decode cL_law 404 = .ok (.iconst 1, 1) := by decide +kernel
theorem dL_law_405 : decode cL_law 405 = .ok (.iadd, 1) := by decide +kernel
theorem dL_law_406 : decode cL_law 406 = .ok (.iaload, 1) := by decide +kernel
theorem dL_law_407 : decode cL_law 407 = .ok (.aload_n 0, 1) := by decide +kernel
theorem dL_law_408 : decode cL_law 408 = .ok (.iload_n 3, 1) := by decide +kernel
theorem dL_law_409 : decode cL_law 409 = .ok (.iconst 2, 1) := by decide +kernel
theorem dL_law_410 : decode cL_law 410 = .ok (.iadd, 1) := by decide +kernel
theorem dL_law_411 : decode cL_law 411 = .ok (.iaload, 1) := by decide +kernel
theorem dL_law_412 : decode cL_law 412 = .ok (.aload_n 0, 1) := by decide +kernel
theorem dL_law_413 : decode cL_law 413 = .ok (.iload_n 3, 1) := by decide +kernel
theorem dL_law_414 : decode cL_law 414 = .ok (.iconst 3, 1) := by decide +kernel
theorem dL_law_415 : decode cL_law 415 = .ok (.iadd, 1) := by decide +kernel
theorem dL_law_416 : decode cL_law 416 = .ok (.iaload, 1) := by decide +kernel
theorem dL_law_417 : decode cL_law 417 = .ok (.invokevirtual 56, 3) := by decide +kernel
theorem dL_law_420 : decode cL_law 420 = .ok (.aload_n 2, 1) := by decide +kernel
theorem dL_law_421 : decode cL_law 421 = .ok (.aload_n 0, 1) := by decide +kernel
theorem dL_law_422 : decode cL_law 422 = .ok (.iload_n 3, 1) := by decide +kernel
theorem dL_law_423 : decode cL_law 423 = .ok (.iconst 1, 1) := by decide +kernel
theorem dL_law_424 : decode cL_law 424 = .ok (.iadd, 1) := by decide +kernel
theorem dL_law_425 : decode cL_law 425 = .ok (.iaload, 1) := by decide +kernel
theorem dL_law_426 : decode cL_law 426 = .ok (.aload_n 0, 1) := by decide +kernel
theorem dL_law_427 : decode cL_law 427 = .ok (.iload_n 3, 1) := by decide +kernel
theorem dL_law_428 : decode cL_law 428 = .ok (.iconst 2, 1) := by decide +kernel
theorem dL_law_429 : decode cL_law 429 = .ok (.iadd, 1) := by decide +kernel
theorem dL_law_430 : decode cL_law 430 = .ok (.iaload, 1) := by decide +kernel
theorem dL_law_431 : decode cL_law 431 = .ok (.aload_n 0, 1) := by decide +kernel
theorem dL_law_432 : decode cL_law 432 = .ok (.iload_n 3, 1) := by decide +kernel
theorem dL_law_433 : decode cL_law 433 = .ok (.iconst 3, 1) := by decide +kernel
theorem dL_law_434 : decode cL_law 434 = .ok (.iadd, 1) := by decide +kernel
theorem dL_law_435 : decode cL_law 435 = .ok (.iaload, 1) := by decide +kernel
theorem dL_law_436 : decode cL_law 436 = .ok (.invokevirtual 59, 3) := by decide +kernel
theorem dL_law_439 : decode cL_law 439 = .ok (.if_icmp .eq 308, 3) := by decide +kernel
theorem dL_law_442 : decode cL_law 442 = .ok (.iconst 0, 1) := by decide +kernel
theorem dL_law_443 : decode cL_law 443 = .ok (.ireturn, 1) := by decide +kernel
theorem dL_law_444 : decode cL_law 444 = .ok (.aload_n 1, 1) := by decide +kernel
theorem dL_law_445 : decode cL_law 445 = .ok (.invokevirtual 60, 3) := by decide +kernel
theorem dL_law_448 : decode cL_law 448 = .ok (.aload_n 2, 1) := by decide +kernel
theorem dL_law_449 : decode cL_law 449 = .ok (.invokevirtual 63, 3) := by decide +kernel
theorem dL_law_452 : decode cL_law 452 = .ok (.if_icmp .eq 295, 3) := by decide +kernel
theorem dL_law_455 : decode cL_law 455 = .ok (.iconst 0, 1) := by decide +kernel
theorem dL_law_456 : decode cL_law 456 = .ok (.ireturn, 1) := by decide +kernel
theorem dL_law_457 : decode cL_law 457 = .ok (.aload_n 1, 1) := by decide +kernel
theorem dL_law_458 : decode cL_law 458 = .ok (.aload_n 0, 1) := by decide +kernel
theorem dL_law_459 : decode cL_law 459 = .ok (.iload_n 3, 1) := by decide +kernel
theorem dL_law_460 : decode cL_law 460 = .ok (.iconst 1, 1) := by decide +kernel
theorem dL_law_461 : decode cL_law 461 = .ok (.iadd, 1) := by decide +kernel
theorem dL_law_462 : decode cL_law 462 = .ok (.iaload, 1) := by decide +kernel
theorem dL_law_463 : decode cL_law 463 = .ok (.aload_n 0, 1) := by decide +kernel
theorem dL_law_464 : decode cL_law 464 = .ok (.iload_n 3, 1) := by decide +kernel
theorem dL_law_465 : decode cL_law 465 = .ok (.iconst 2, 1) := by decide +kernel
theorem dL_law_466 : decode cL_law 466 = .ok (.iadd, 1) := by decide +kernel
theorem dL_law_467 : decode cL_law 467 = .ok (.iaload, 1) := by decide +kernel
theorem dL_law_468 : decode cL_law 468 = .ok (.invokevirtual 64, 3) := by decide +kernel
theorem dL_law_471 : decode cL_law 471 = .ok (.aload_n 2, 1) := by decide +kernel
theorem dL_law_472 : decode cL_law 472 = .ok (.aload_n 0, 1) := by decide +kernel
theorem dL_law_473 : decode cL_law 473 = .ok (.iload_n 3, 1) := by decide +kernel
theorem dL_law_474 : decode cL_law 474 = .ok (.iconst 1, 1) := by decide +kernel
theorem dL_law_475 : decode cL_law 475 = .ok (.iadd, 1) := by decide +kernel
theorem dL_law_476 : decode cL_law 476 = .ok (.iaload, 1) := by decide +kernel
theorem dL_law_477 : decode cL_law 477 = .ok (.aload_n 0, 1) := by decide +kernel
theorem dL_law_478 : decode cL_law 478 = .ok (.iload_n 3, 1) := by decide +kernel
theorem dL_law_479 : decode cL_law 479 = .ok (.iconst 2, 1) := by decide +kernel
theorem dL_law_480 : decode cL_law 480 = .ok (.iadd, 1) := by decide +kernel
theorem dL_law_481 : decode cL_law 481 = .ok (.iaload, 1) := by decide +kernel
theorem dL_law_482 : decode cL_law 482 = .ok (.invokevirtual 67, 3) := by decide +kernel
theorem dL_law_485 : decode cL_law 485 = .ok (.if_icmp .eq 262, 3) := by decide +kernel
theorem dL_law_488 : decode cL_law 488 = .ok (.iconst 0, 1) := by decide +kernel
theorem dL_law_489 : decode cL_law 489 = .ok (.ireturn, 1) := by decide +kernel
theorem dL_law_490 : decode cL_law 490 = .ok (.aload_n 1, 1) := by decide +kernel
theorem dL_law_491 : decode cL_law 491 = .ok (.aload_n 0, 1) := by decide +kernel
theorem dL_law_492 : decode cL_law 492 = .ok (.iload_n 3, 1) := by decide +kernel
theorem dL_law_493 : decode cL_law 493 = .ok (.iconst 1, 1) := by decide +kernel
theorem dL_law_494 : decode cL_law 494 = .ok (.iadd, 1) := by decide +kernel
theorem dL_law_495 : decode cL_law 495 = .ok (.iaload, 1) := by decide +kernel
theorem dL_law_496 : decode cL_law 496 = .ok (.invokevirtual 68, 3) := by decide +kernel
theorem dL_law_499 : decode cL_law 499 = .ok (.aload_n 2, 1) := by decide +kernel
theorem dL_law_500 : decode cL_law 500 = .ok (.aload_n 0, 1) := by decide +kernel
theorem dL_law_501 : decode cL_law 501 = .ok (.iload_n 3, 1) := by decide +kernel
theorem dL_law_502 : decode cL_law 502 = .ok (.iconst 1, 1) := by decide +kernel
theorem dL_law_503 : decode cL_law 503 = .ok (.iadd, 1) := by decide +kernel
theorem dL_law_504 : decode cL_law 504 = .ok (.iaload, 1) := by decide +kernel
theorem dL_law_505 : decode cL_law 505 = .ok (.invokevirtual 71, 3) := by decide +kernel
theorem dL_law_508 : decode cL_law 508 = .ok (.if_icmp .eq 239, 3) := by decide +kernel
theorem dL_law_511 : decode cL_law 511 = .ok (.iconst 0, 1) := by decide +kernel
theorem dL_law_512 : decode cL_law 512 = .ok (.ireturn, 1) := by decide +kernel
theorem dL_law_513 : decode cL_law 513 = .ok (.aload_n 1, 1) := by decide +kernel
theorem dL_law_514 : decode cL_law 514 = .ok (.aload_n 0, 1) := by decide +kernel
theorem dL_law_515 : decode cL_law 515 = .ok (.iload_n 3, 1) := by decide +kernel
theorem dL_law_516 : decode cL_law 516 = .ok (.iconst 1, 1) := by decide +kernel
theorem dL_law_517 : decode cL_law 517 = .ok (.iadd, 1) := by decide +kernel
theorem dL_law_518 : decode cL_law 518 = .ok (.iaload, 1) := by decide +kernel
theorem dL_law_519 : decode cL_law 519 = .ok (.invokevirtual 72, 3) := by decide +kernel
theorem dL_law_522 : decode cL_law 522 = .ok (.aload_n 2, 1) := by decide +kernel
theorem dL_law_523 : decode cL_law 523 = .ok (.aload_n 0, 1) := by decide +kernel
theorem dL_law_524 : decode cL_law 524 = .ok (.iload_n 3, 1) := by decide +kernel
theorem dL_law_525 : decode cL_law 525 = .ok (.iconst 1, 1) := by decide +kernel
theorem dL_law_526 : decode cL_law 526 = .ok (.iadd, 1) := by decide +kernel
theorem dL_law_527 : decode cL_law 527 = .ok (.iaload, 1) := by decide +kernel
theorem dL_law_528 : decode cL_law 528 = .ok (.invokevirtual 75, 3) := by decide +kernel
theorem dL_law_531 : decode cL_law 531 = .ok (.if_icmp .eq 216, 3) := by decide +kernel
theorem dL_law_534 : decode cL_law 534 = .ok (.iconst 0, 1) := by decide +kernel
theorem dL_law_535 : decode cL_law 535 = .ok (.ireturn, 1) := by decide +kernel
theorem dL_law_536 : decode cL_law 536 = .ok (.aload_n 1, 1) := by decide +kernel
theorem dL_law_537 : decode cL_law 537 = .ok (.aload_n 0, 1) := by decide +kernel
theorem dL_law_538 : decode cL_law 538 = .ok (.iload_n 3, 1) := by decide +kernel
theorem dL_law_539 : decode cL_law 539 = .ok (.iconst 1, 1) := by decide +kernel
theorem dL_law_540 : decode cL_law 540 = .ok (.iadd, 1) := by decide +kernel
theorem dL_law_541 : decode cL_law 541 = .ok (.iaload, 1) := by decide +kernel
theorem dL_law_542 : decode cL_law 542 = .ok (.invokevirtual 76, 3) := by decide +kernel
theorem dL_law_545 : decode cL_law 545 = .ok (.aload_n 2, 1) := by decide +kernel
theorem dL_law_546 : decode cL_law 546 = .ok (.aload_n 0, 1) := by decide +kernel
theorem dL_law_547 : decode cL_law 547 = .ok (.iload_n 3, 1) := by decide +kernel
theorem dL_law_548 : decode cL_law 548 = .ok (.iconst 1, 1) := by decide +kernel
theorem dL_law_549 : decode cL_law 549 = .ok (.iadd, 1) := by decide +kernel
theorem dL_law_550 : decode cL_law 550 = .ok (.iaload, 1) := by decide +kernel
theorem dL_law_551 : decode cL_law 551 = .ok (.invokevirtual 79, 3) := by decide +kernel
theorem dL_law_554 : decode cL_law 554 = .ok (.if_icmp .eq 193, 3) := by decide +kernel
theorem dL_law_557 : decode cL_law 557 = .ok (.iconst 0, 1) := by decide +kernel
theorem dL_law_558 : decode cL_law 558 = .ok (.ireturn, 1) := by decide +kernel
theorem dL_law_559 : decode cL_law 559 = .ok (.aload_n 1, 1) := by decide +kernel
theorem dL_law_560 : decode cL_law 560 = .ok (.aload_n 0, 1) := by decide +kernel
theorem dL_law_561 : decode cL_law 561 = .ok (.iload_n 3, 1) := by decide +kernel
theorem dL_law_562 : decode cL_law 562 = .ok (.iconst 1, 1) := by decide +kernel
theorem dL_law_563 : decode cL_law 563 = .ok (.iadd, 1) := by decide +kernel
theorem dL_law_564 : decode cL_law 564 = .ok (.iaload, 1) := by decide +kernel
theorem dL_law_565 : decode cL_law 565 = .ok (.aload_n 0, 1) := by decide +kernel
theorem dL_law_566 : decode cL_law 566 = .ok (.iload_n 3, 1) := by decide +kernel
theorem dL_law_567 : decode cL_law 567 = .ok (.iconst 2, 1) := by decide +kernel
theorem dL_law_568 : decode cL_law 568 = .ok (.iadd, 1) := by decide +kernel
theorem dL_law_569 : decode cL_law 569 = .ok (.iaload, 1) := by decide +kernel
theorem dL_law_570 : decode cL_law 570 = .ok (.invokevirtual 80, 3) := by decide +kernel
theorem dL_law_573 : decode cL_law 573 = .ok (.aload_n 2, 1) := by decide +kernel
theorem dL_law_574 : decode cL_law 574 = .ok (.aload_n 0, 1) := by decide +kernel
theorem dL_law_575 : decode cL_law 575 = .ok (.iload_n 3, 1) := by decide +kernel
theorem dL_law_576 : decode cL_law 576 = .ok (.iconst 1, 1) := by decide +kernel
theorem dL_law_577 : decode cL_law 577 = .ok (.iadd, 1) := by decide +kernel
theorem dL_law_578 : decode cL_law 578 = .ok (.iaload, 1) := by decide +kernel
theorem dL_law_579 : decode cL_law 579 = .ok (.aload_n 0, 1) := by decide +kernel
theorem dL_law_580 : decode cL_law 580 = .ok (.iload_n 3, 1) := by decide +kernel
theorem dL_law_581 : decode cL_law 581 = .ok (.iconst 2, 1) := by decide +kernel
theorem dL_law_582 : decode cL_law 582 = .ok (.iadd, 1) := by decide +kernel
theorem dL_law_583 : decode cL_law 583 = .ok (.iaload, 1) := by decide +kernel
theorem dL_law_584 : decode cL_law 584 = .ok (.invokevirtual 83, 3) := by decide +kernel
theorem dL_law_587 : decode cL_law 587 = .ok (.if_icmp .eq 160, 3) := by decide +kernel
theorem dL_law_590 : decode cL_law 590 = .ok (.iconst 0, 1) := by decide +kernel
theorem dL_law_591 : decode cL_law 591 = .ok (.ireturn, 1) := by decide +kernel
theorem dL_law_592 : decode cL_law 592 = .ok (.aload_n 1, 1) := by decide +kernel
theorem dL_law_593 : decode cL_law 593 = .ok (.aload_n 0, 1) := by decide +kernel
theorem dL_law_594 : decode cL_law 594 = .ok (.iload_n 3, 1) := by decide +kernel
theorem dL_law_595 : decode cL_law 595 = .ok (.iconst 1, 1) := by decide +kernel
theorem dL_law_596 : decode cL_law 596 = .ok (.iadd, 1) := by decide +kernel
theorem dL_law_597 : decode cL_law 597 = .ok (.iaload, 1) := by decide +kernel
theorem dL_law_598 : decode cL_law 598 = .ok (.invokevirtual 84, 3) := by decide +kernel
theorem dL_law_601 : decode cL_law 601 = .ok (.aload_n 2, 1) := by decide +kernel
theorem dL_law_602 : decode cL_law 602 = .ok (.aload_n 0, 1) := by decide +kernel
theorem dL_law_603 : decode cL_law 603 = .ok (.iload_n 3, 1) := by decide +kernel
theorem dL_law_604 : decode cL_law 604 = .ok (.iconst 1, 1) := by decide +kernel
theorem dL_law_605 : decode cL_law 605 = .ok (.iadd, 1) := by decide +kernel
theorem dL_law_606 : decode cL_law 606 = .ok (.iaload, 1) := by decide +kernel
theorem dL_law_607 : decode cL_law 607 = .ok (.invokevirtual 87, 3) := by decide +kernel
theorem dL_law_610 : decode cL_law 610 = .ok (.if_icmp .eq 137, 3) := by decide +kernel
theorem dL_law_613 : decode cL_law 613 = .ok (.iconst 0, 1) := by decide +kernel
theorem dL_law_614 : decode cL_law 614 = .ok (.ireturn, 1) := by decide +kernel
theorem dL_law_615 : decode cL_law 615 = .ok (.aload_n 1, 1) := by decide +kernel
theorem dL_law_616 : decode cL_law 616 = .ok (.aload_n 0, 1) := by decide +kernel
theorem dL_law_617 : decode cL_law 617 = .ok (.iload_n 3, 1) := by decide +kernel
theorem dL_law_618 : decode cL_law 618 = .ok (.iconst 1, 1) := by decide +kernel
theorem dL_law_619 : decode cL_law 619 = .ok (.iadd, 1) := by decide +kernel
theorem dL_law_620 : decode cL_law 620 = .ok (.iaload, 1) := by decide +kernel
theorem dL_law_621 : decode cL_law 621 = .ok (.aload_n 0, 1) := by decide +kernel
theorem dL_law_622 : decode cL_law 622 = .ok (.iload_n 3, 1) := by decide +kernel
theorem dL_law_623 : decode cL_law 623 = .ok (.iconst 2, 1) := by decide +kernel
theorem dL_law_624 : decode cL_law 624 = .ok (.iadd, 1) := by decide +kernel
theorem dL_law_625 : decode cL_law 625 = .ok (.iaload, 1) := by decide +kernel
theorem dL_law_626 : decode cL_law 626 = .ok (.invokevirtual 88, 3) := by decide +kernel
theorem dL_law_629 : decode cL_law 629 = .ok (.aload_n 2, 1) := by decide +kernel
theorem dL_law_630 : decode cL_law 630 = .ok (.aload_n 0, 1) := by decide +kernel
theorem dL_law_631 : decode cL_law 631 = .ok (.iload_n 3, 1) := by decide +kernel
theorem dL_law_632 : decode cL_law 632 = .ok (.iconst 1, 1) := by decide +kernel
theorem dL_law_633 : decode cL_law 633 = .ok (.iadd, 1) := by decide +kernel
theorem dL_law_634 : decode cL_law 634 = .ok (.iaload, 1) := by decide +kernel
theorem dL_law_635 : decode cL_law 635 = .ok (.aload_n 0, 1) := by decide +kernel
theorem dL_law_636 : decode cL_law 636 = .ok (.iload_n 3, 1) := by decide +kernel
theorem dL_law_637 : decode cL_law 637 = .ok (.iconst 2, 1) := by decide +kernel
theorem dL_law_638 : decode cL_law 638 = .ok (.iadd, 1) := by decide +kernel
theorem dL_law_639 : decode cL_law 639 = .ok (.iaload, 1) := by decide +kernel
theorem dL_law_640 : decode cL_law 640 = .ok (.invokevirtual 91, 3) := by decide +kernel
theorem dL_law_643 : decode cL_law 643 = .ok (.if_icmp .eq 104, 3) := by decide +kernel
theorem dL_law_646 : decode cL_law 646 = .ok (.iconst 0, 1) := by decide +kernel
theorem dL_law_647 : decode cL_law 647 = .ok (.ireturn, 1) := by decide +kernel
theorem dL_law_648 : decode cL_law 648 = .ok (.aload_n 1, 1) := by decide +kernel
theorem dL_law_649 : decode cL_law 649 = .ok (.aload_n 0, 1) := by decide +kernel
theorem dL_law_650 : decode cL_law 650 = .ok (.iload_n 3, 1) := by decide +kernel
theorem dL_law_651 : decode cL_law 651 = .ok (.iconst 1, 1) := by decide +kernel
theorem dL_law_652 : decode cL_law 652 = .ok (.iadd, 1) := by decide +kernel
theorem dL_law_653 : decode cL_law 653 = .ok (.iaload, 1) := by decide +kernel
theorem dL_law_654 : decode cL_law 654 = .ok (.invokevirtual 92, 3) := by decide +kernel
theorem dL_law_657 : decode cL_law 657 = .ok (.aload_n 2, 1) := by decide +kernel
theorem dL_law_658 : decode cL_law 658 = .ok (.aload_n 0, 1) := by decide +kernel
theorem dL_law_659 : decode cL_law 659 = .ok (.iload_n 3, 1) := by decide +kernel
theorem dL_law_660 : decode cL_law 660 = .ok (.iconst 1, 1) := by decide +kernel
theorem dL_law_661 : decode cL_law 661 = .ok (.iadd, 1) := by decide +kernel
theorem dL_law_662 : decode cL_law 662 = .ok (.iaload, 1) := by decide +kernel
theorem dL_law_663 : decode cL_law 663 = .ok (.invokevirtual 95, 3) := by decide +kernel
theorem dL_law_666 : decode cL_law 666 = .ok (.if_icmp .eq 81, 3) := by decide +kernel
theorem dL_law_669 : decode cL_law 669 = .ok (.iconst 0, 1) := by decide +kernel
theorem dL_law_670 : decode cL_law 670 = .ok (.ireturn, 1) := by decide +kernel
theorem dL_law_671 : decode cL_law 671 = .ok (.aload_n 1, 1) := by decide +kernel
theorem dL_law_672 : decode cL_law 672 = .ok (.invokevirtual 96, 3) := by decide +kernel
theorem dL_law_675 : decode cL_law 675 = .ok (.aload_n 2, 1) := by decide +kernel
theorem dL_law_676 : decode cL_law 676 = .ok (.invokevirtual 99, 3) := by decide +kernel
theorem dL_law_679 : decode cL_law 679 = .ok (.if_icmp .eq 68, 3) := by decide +kernel
theorem dL_law_682 : decode cL_law 682 = .ok (.iconst 0, 1) := by decide +kernel
theorem dL_law_683 : decode cL_law 683 = .ok (.ireturn, 1) := by decide +kernel
theorem dL_law_684 : decode cL_law 684 = .ok (.aload_n 1, 1) := by decide +kernel
theorem dL_law_685 : decode cL_law 685 = .ok (.invokevirtual 100, 3) := by decide +kernel
theorem dL_law_688 : decode cL_law 688 = .ok (.aload_n 2, 1) := by decide +kernel
theorem dL_law_689 : decode cL_law 689 = .ok (.invokevirtual 103, 3) := by decide +kernel
theorem dL_law_692 : decode cL_law 692 = .ok (.if_icmp .eq 55, 3) := by decide +kernel
theorem dL_law_695 : decode cL_law 695 = .ok (.iconst 0, 1) := by decide +kernel
theorem dL_law_696 : decode cL_law 696 = .ok (.ireturn, 1) := by decide +kernel
theorem dL_law_697 : decode cL_law 697 = .ok (.aload_n 1, 1) := by decide +kernel
theorem dL_law_698 : decode cL_law 698 = .ok (.invokevirtual 104, 3) := by decide +kernel
theorem dL_law_701 : decode cL_law 701 = .ok (.aload_n 2, 1) := by decide +kernel
theorem dL_law_702 : decode cL_law 702 = .ok (.invokevirtual 107, 3) := by decide +kernel
theorem dL_law_705 : decode cL_law 705 = .ok (.if_icmp .eq 42, 3) := by decide +kernel
theorem dL_law_708 : decode cL_law 708 = .ok (.iconst 0, 1) := by decide +kernel
theorem dL_law_709 : decode cL_law 709 = .ok (.ireturn, 1) := by decide +kernel
theorem dL_law_710 : decode cL_law 710 = .ok (.aload_n 1, 1) := by decide +kernel
theorem dL_law_711 : decode cL_law 711 = .ok (.aload_n 0, 1) := by decide +kernel
theorem dL_law_712 : decode cL_law 712 = .ok (.iload_n 3, 1) := by decide +kernel
theorem dL_law_713 : decode cL_law 713 = .ok (.iconst 1, 1) := by decide +kernel
theorem dL_law_714 : decode cL_law 714 = .ok (.iadd, 1) := by decide +kernel
theorem dL_law_715 : decode cL_law 715 = .ok (.iaload, 1) := by decide +kernel
theorem dL_law_716 : decode cL_law 716 = .ok (.invokevirtual 108, 3) := by decide +kernel
theorem dL_law_719 : decode cL_law 719 = .ok (.aload_n 2, 1) := by decide +kernel
theorem dL_law_720 : decode cL_law 720 = .ok (.aload_n 0, 1) := by decide +kernel
theorem dL_law_721 : decode cL_law 721 = .ok (.iload_n 3, 1) := by decide +kernel
theorem dL_law_722 : decode cL_law 722 = .ok (.iconst 1, 1) := by decide +kernel
theorem dL_law_723 : decode cL_law 723 = .ok (.iadd, 1) := by decide +kernel
theorem dL_law_724 : decode cL_law 724 = .ok (.iaload, 1) := by decide +kernel
theorem dL_law_725 : decode cL_law 725 = .ok (.invokevirtual 111, 3) := by decide +kernel
theorem dL_law_728 : decode cL_law 728 = .ok (.if_icmp .eq 19, 3) := by decide +kernel
theorem dL_law_731 : decode cL_law 731 = .ok (.iconst 0, 1) := by decide +kernel
theorem dL_law_732 : decode cL_law 732 = .ok (.ireturn, 1) := by decide +kernel
theorem dL_law_733 : decode cL_law 733 = .ok (.aload_n 1, 1) := by decide +kernel
theorem dL_law_734 : decode cL_law 734 = .ok (.invokevirtual 112, 3) := by decide +kernel
theorem dL_law_737 : decode cL_law 737 = .ok (.aload_n 2, 1) := by decide +kernel
theorem dL_law_738 : decode cL_law 738 = .ok (.invokevirtual 116, 3) := by decide +kernel
theorem dL_law_741 : decode cL_law 741 = .ok (.lcmp, 1) := by decide +kernel
theorem dL_law_742 : decode cL_law 742 = .ok (.ifCond .eq 5, 3) := by decide +kernel
theorem dL_law_745 : decode cL_law 745 = .ok (.iconst 0, 1) := by decide +kernel
theorem dL_law_746 : decode cL_law 746 = .ok (.ireturn, 1) := by decide +kernel
theorem dL_law_747 : decode cL_law 747 = .ok (.iinc 3 4, 3) := by decide +kernel
theorem dL_law_750 : decode cL_law 750 = .ok (.goto (-732), 3) := by decide +kernel
theorem dL_law_753 : decode cL_law 753 = .ok (.iconst 1, 1) := by decide +kernel
theorem dL_law_754 : decode cL_law 754 = .ok (.ireturn, 1) := by decide +kernel
