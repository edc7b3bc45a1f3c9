theorem dX0_init_0 : decode cX0_init 0 = .ok (.aload_n 0, 1) := by decide +kernel
theorem dX0_init_1 : decode cX0_init 1 = .ok (.invokespecial 3, 3) := by decide +kernel
theorem dX0_init_4 : decode cX0_init 4 = .ok (.aload_n 0, 1) := by decide +kernel
theorem dX0_init_5 : decode cX0_init 5 = .ok (.new 9, 3) := by decide +kernel
theorem dX0_init_8 : decode cX0_init 8 = .ok (.dup, 1) := by decide +kernel
theorem dX0_init_9 : decode cX0_init 9 = .ok (.sipush 860, 3) := by decide +kernel
theorem dX0_init_12 : decode cX0_init 12 = .ok (.invokespecial 11, 3) := by decide +kernel
theorem dX0_init_15 : decode cX0_init 15 = .ok (.putfield 14, 3) := by decide +kernel
theorem dX0_init_18 : decode cX0_init 18 = .ok (.return_, 1) := by decide +kernel
theorem dX0_keep_0 : decode cX0_keep 0 = .ok (.aload_n 0, 1) := by decide +kernel
theorem dX0_keep_1 : decode cX0_keep 1 = .ok (.getfield 20, 3) := by decide +kernel
theorem dX0_keep_4 : decode cX0_keep 4 = .ok (.iconst 5, 1) := by decide +kernel
theorem dX0_keep_5 : decode cX0_keep 5 = .ok (.if_icmp .ne 25, 3) := by decide +kernel
theorem dX0_keep_8 : decode cX0_keep 8 = .ok (.aload_n 0, 1) := by decide +kernel
theorem dX0_keep_9 : decode cX0_keep 9 = .ok (.aload_n 0, 1) := by decide +kernel
theorem dX0_keep_10 : decode cX0_keep 10 = .ok (.getfield 24, 3) := by decide +kernel
theorem dX0_keep_13 : decode cX0_keep 13 = .ok (.iconst 1, 1) := by decide +kernel
theorem dX0_keep_14 : decode cX0_keep 14 = .ok (.iadd, 1) := by decide +kernel
theorem dX0_keep_15 : decode cX0_keep 15 = .ok (.iconst 5, 1) := by decide +kernel
theorem dX0_keep_16 : decode cX0_keep 16 = .ok (.irem, 1) := by decide +kernel
theorem dX0_keep_17 : decode cX0_keep 17 = .ok (.putfield 24, 3) := by decide +kernel
theorem dX0_keep_20 : decode cX0_keep 20 = .ok (.aload_n 0, 1) := by decide +kernel
theorem dX0_keep_21 : decode cX0_keep 21 = .ok (.dup, 1) := by decide +kernel
theorem dX0_keep_22 : decode cX0_keep 22 = .ok (.getfield 20, 3) := by decide +kernel
theorem dX0_keep_25 : decode cX0_keep 25 = .ok (.iconst 1, 1) := by decide +kernel
theorem dX0_keep_26 : decode cX0_keep 26 = .ok (.isub, 1) := by decide +kernel
theorem dX0_keep_27 : decode cX0_keep 27 = .ok (.putfield 20, 3) := by decide +kernel
theorem dX0_keep_30 : decode cX0_keep 30 = .ok (.aload_n 1, 1) := by decide +kernel
theorem dX0_keep_31 : decode cX0_keep 31 = .ok (.aload_n 0, 1) := by decide +kernel
theorem dX0_keep_32 : decode cX0_keep 32 = .ok (.getfield 14, 3) := by decide +kernel
theorem dX0_keep_35 : decode cX0_keep 35 = .ok (.aload_n 0, 1) := by decide +kernel
theorem dX0_keep_36 : decode cX0_keep 36 = .ok (.aload_n 0, 1) := by decide +kernel
theorem dX0_keep_37 : decode cX0_keep 37 = .ok (.getfield 20, 3) := by decide +kernel
theorem dX0_keep_40 : decode cX0_keep 40 = .ok (.invokevirtual 27, 3) := by decide +kernel
theorem dX0_keep_43 : decode cX0_keep 43 = .ok (.invokevirtual 31, 3) := by decide +kernel
theorem dX0_keep_46 : decode cX0_keep 46 = .ok (.aload_n 0, 1) := by decide +kernel
theorem dX0_keep_47 : decode cX0_keep 47 = .ok (.dup, 1) := by decide +kernel
theorem dX0_keep_48 : decode cX0_keep 48 = .ok (.getfield 20, 3) := by decide +kernel
theorem dX0_keep_51 : decode cX0_keep 51 = .ok (.iconst 1, 1) := by decide +kernel
theorem dX0_keep_52 : decode cX0_keep 52 = .ok (.iadd, 1) := by decide +kernel
theorem dX0_keep_53 : decode cX0_keep 53 = .ok (.putfield 20, 3) := by decide +kernel
theorem dX0_keep_56 : decode cX0_keep 56 = .ok (.return_, 1) := by decide +kernel
theorem dX0_restore_0 : decode cX0_restore 0 = .ok (.aload_n 0, 1) := by decide +kernel
theorem dX0_restore_1 : decode cX0_restore 1 = .ok (.getfield 20, 3) := by decide +kernel
theorem dX0_restore_4 : decode cX0_restore 4 = .ok (.ifCond .le 29, 3) := by decide +kernel
theorem dX0_restore_7 : decode cX0_restore 7 = .ok (.aload_n 0, 1) := by decide +kernel
theorem dX0_restore_8 : decode cX0_restore 8 = .ok (.dup, 1) := by decide +kernel
theorem dX0_restore_9 : decode cX0_restore 9 = .ok (.getfield 20, 3) := by decide +kernel
theorem dX0_restore_12 : decode cX0_restore 12 = .ok (.iconst 1, 1) := by decide +kernel
theorem dX0_restore_13 : decode cX0_restore 13 = .ok (.isub, 1) := by decide +kernel
theorem dX0_restore_14 : decode cX0_restore 14 = .ok (.putfield 20, 3) := by decide +kernel
theorem dX0_restore_17 : decode cX0_restore 17 = .ok (.aload_n 1, 1) := by decide +kernel
theorem dX0_restore_18 : decode cX0_restore 18 = .ok (.aload_n 0, 1) := by decide +kernel
theorem dX0_restore_19 : decode cX0_restore 19 = .ok (.getfield 14, 3) := by decide +kernel
theorem dX0_restore_22 : decode cX0_restore 22 = .ok (.aload_n 0, 1) := by decide +kernel
theorem dX0_restore_23 : decode cX0_restore 23 = .ok (.aload_n 0, 1) := by decide +kernel
theorem dX0_restore_24 : decode cX0_restore 24 = .ok (.getfield 20, 3) := by decide +kernel
theorem dX0_restore_27 : decode cX0_restore 27 = .ok (.invokevirtual 27, 3) := by decide +kernel
theorem dX0_restore_30 : decode cX0_restore 30 = .ok (.invokevirtual 37, 3) := by decide +kernel
theorem dX0_restore_33 : decode cX0_restore 33 = .ok (.return_, 1) := by decide +kernel
theorem dX0_beginOf_0 : decode cX0_beginOf 0 = .ok (.aload_n 0, 1) := by decide +kernel
theorem dX0_beginOf_1 : decode cX0_beginOf 1 = .ok (.getfield 24, 3) := by decide +kernel
theorem dX0_beginOf_4 : decode cX0_beginOf 4 = .ok (.iload_n 1, 1) := by decide +kernel
theorem dX0_beginOf_5 : decode cX0_beginOf 5 = .ok (.iadd, 1) := by decide +kernel
theorem dX0_beginOf_6 : decode cX0_beginOf 6 = .ok (.iconst 5, 1) := by decide +kernel
theorem dX0_beginOf_7 : decode cX0_beginOf 7 = .ok (.irem, 1) := by decide +kernel
theorem dX0_beginOf_8 : decode cX0_beginOf 8 = .ok (.sipush 172, 3) := by decide +kernel
theorem dX0_beginOf_11 : decode cX0_beginOf 11 = .ok (.imul, 1) := by decide +kernel
theorem dX0_beginOf_12 : decode cX0_beginOf 12 = .ok (.ireturn, 1) := by decide +kernel
theorem dX1_init_0 : decode cX1_init 0 = .ok (.aload_n 0, 1) := by decide +kernel
theorem dX1_init_1 : decode cX1_init 1 = .ok (.invokespecial 3, 3) := by decide +kernel
theorem dX1_init_4 : decode cX1_init 4 = .ok (.aload_n 0, 1) := by decide +kernel
theorem dX1_init_5 : decode cX1_init 5 = .ok (.new 9, 3) := by decide +kernel
theorem dX1_init_8 : decode cX1_init 8 = .ok (.dup, 1) := by decide +kernel
theorem dX1_init_9 : decode cX1_init 9 = .ok (.bipush 60, 2) := by decide +kernel
theorem dX1_init_11 : decode cX1_init 11 = .ok (.invokespecial 11, 3) := by decide +kernel
theorem dX1_init_14 : decode cX1_init 14 = .ok (.putfield 14, 3) := by decide +kernel
theorem dX1_init_17 : decode cX1_init 17 = .ok (.return_, 1) := by decide +kernel
theorem dX2_init_0 : decode cX2_init 0 = .ok (.aload_n 0, 1) := by decide +kernel
theorem dX2_init_1 : decode cX2_init 1 = .ok (.invokespecial 3, 3) := by decide +kernel
theorem dX2_init_4 : decode cX2_init 4 = .ok (.return_, 1) := by decide +kernel
theorem dX2_find_0 : decode cX2_find 0 = .ok (.aload_n 1, 1) := by decide +kernel
theorem dX2_find_1 : decode cX2_find 1 = .ok (.iload_n 2, 1) := by decide +kernel
theorem dX2_find_2 : decode cX2_find 2 = .ok (.iconst 1, 1) := by decide +kernel
theorem dX2_find_3 : decode cX2_find 3 = .ok (.invokevirtual 9, 3) := by decide +kernel
theorem dX2_find_6 : decode cX2_find 6 = .ok (.istore 6, 2) := by decide +kernel
theorem dX2_find_8 : decode cX2_find 8 = .ok (.aload_n 1, 1) := by decide +kernel
theorem dX2_find_9 : decode cX2_find 9 = .ok (.iload_n 2, 1) := by decide +kernel
theorem dX2_find_10 : decode cX2_find 10 = .ok (.iconst 2, 1) := by decide +kernel
theorem dX2_find_11 : decode cX2_find 11 = .ok (.invokevirtual 9, 3) := by decide +kernel
theorem dX2_find_14 : decode cX2_find 14 = .ok (.istore 7, 2) := by decide +kernel
theorem dX2_find_16 : decode cX2_find 16 = .ok (.iload_n 3, 1) := by decide +kernel
theorem dX2_find_17 : decode cX2_find 17 = .ok (.invokestatic 15, 3) := by decide +kernel
theorem dX2_find_20 : decode cX2_find 20 = .ok (.istore 8, 2) := by decide +kernel
theorem dX2_find_22 : decode cX2_find 22 = .ok (.iload 8, 2) := by decide +kernel
theorem dX2_find_24 : decode cX2_find 24 = .ok (.ifCond .eq 8, 3) := by decide +kernel
theorem dX2_find_27 : decode cX2_find 27 = .ok (.iload 6, 2) := by decide +kernel
theorem dX2_find_29 : decode cX2_find 29 = .ok (.goto 5, 3) := by decide +kernel
theorem dX2_find_32 : decode cX2_find 32 = .ok (.iload 7, 2) := by decide +kernel
theorem dX2_find_34 : decode cX2_find 34 = .ok (.istore 9, 2) := by decide +kernel
theorem dX2_find_36 : decode cX2_find 36 = .ok (.aload_n 1, 1) := by decide +kernel
theorem dX2_find_37 : decode cX2_find 37 = .ok (.iload_n 2, 1) := by decide +kernel
theorem dX2_find_38 : decode cX2_find 38 = .ok (.iload 8, 2) := by decide +kernel
theorem dX2_find_40 : decode cX2_find 40 = .ok (.invokestatic 19, 3) := by decide +kernel
theorem dX2_find_43 : decode cX2_find 43 = .ok (.istore 10, 2) := by decide +kernel
theorem dX2_find_45 : decode cX2_find 45 = .ok (.aload_n 1, 1) := by decide +kernel
theorem dX2_find_46 : decode cX2_find 46 = .ok (.iload_n 2, 1) := by decide +kernel
theorem dX2_find_47 : decode cX2_find 47 = .ok (.iload 8, 2) := by decide +kernel
theorem dX2_find_49 : decode cX2_find 49 = .ok (.invokestatic 25, 3) := by decide +kernel
theorem dX2_find_52 : decode cX2_find 52 = .ok (.istore 11, 2) := by decide +kernel
theorem dX2_find_54 : decode cX2_find 54 = .ok (.aload_n 1, 1) := by decide +kernel
theorem dX2_find_55 : decode cX2_find 55 = .ok (.iconst 1, 1) := by decide +kernel
theorem dX2_find_56 : decode cX2_find 56 = .ok (.invokevirtual 28, 3) := by decide +kernel
theorem dX2_find_59 : decode cX2_find 59 = .ok (.istore 12, 2) := by decide +kernel
theorem dX2_find_61 : decode cX2_find 61 = .ok (.aload_n 0, 1) := by decide +kernel
theorem dX2_find_62 : decode cX2_find 62 = .ok (.iconst 0, 1) := by decide +kernel
theorem dX2_find_63 : decode cX2_find 63 = .ok (.putfield 32, 3) := by decide +kernel
theorem dX2_find_66 : decode cX2_find 66 = .ok (.aload_n 1, 1) := by decide +kernel
theorem dX2_find_67 : decode cX2_find 67 = .ok (.iload_n 2, 1) := by decide +kernel
theorem dX2_find_68 : decode cX2_find 68 = .ok (.bipush 6, 2) := by decide +kernel
theorem dX2_find_70 : decode cX2_find 70 = .ok (.invokevirtual 9, 3) := by decide +kernel
theorem dX2_find_73 : decode cX2_find 73 = .ok (.iconst 1, 1) := by decide +kernel
theorem dX2_find_74 : decode cX2_find 74 = .ok (.if_icmp .ne 51, 3) := by decide +kernel
theorem dX2_find_77 : decode cX2_find 77 = .ok (.aload_n 1, 1) := by decide +kernel
theorem dX2_find_78 : decode cX2_find 78 = .ok (.iload 8, 2) := by decide +kernel
theorem dX2_find_80 : decode cX2_find 80 = .ok (.ifCond .eq 7, 3) := by decide +kernel
theorem dX2_find_83 : decode cX2_find 83 = .ok (.iconst 0, 1) := by decide +kernel
theorem dX2_find_84 : decode cX2_find 84 = .ok (.goto 4, 3) := by decide +kernel
theorem dX2_find_87 : decode cX2_find 87 = .ok (.iconst 1, 1) := by decide +kernel
theorem dX2_find_88 : decode cX2_find 88 = .ok (.invokevirtual 36, 3) := by decide +kernel
theorem dX2_find_91 : decode cX2_find 91 = .ok (.istore 13, 2) := by decide +kernel
theorem dX2_find_93 : decode cX2_find 93 = .ok (.aload_n 0, 1) := by decide +kernel
theorem dX2_find_94 : decode cX2_find 94 = .ok (.iload 13, 2) := by decide +kernel
theorem dX2_find_96 : decode cX2_find 96 = .ok (.iload 8, 2) := by decide +kernel
theorem dX2_find_98 : decode cX2_find 98 = .ok (.ifCond .eq 8, 3) := by decide +kernel
theorem dX2_find_101 : decode cX2_find 101 = .ok (.iload 4, 2) := by decide +kernel
theorem dX2_find_103 : decode cX2_find 103 = .ok (.goto 5, 3) := by decide +kernel
theorem dX2_find_106 : decode cX2_find 106 = .ok (.iload 5, 2) := by decide +kernel
theorem dX2_find_108 : decode cX2_find 108 = .ok (.iload 10, 2) := by decide +kernel
theorem dX2_find_110 : decode cX2_find 110 = .ok (.iload 9, 2) := by decide +kernel
theorem dX2_find_112 : decode cX2_find 112 = .ok (.iload 11, 2) := by decide +kernel
theorem dX2_find_114 : decode cX2_find 114 = .ok (.iload 10, 2) := by decide +kernel
theorem dX2_find_116 : decode cX2_find 116 = .ok (.isub, 1) := by decide +kernel
theorem dX2_find_117 : decode cX2_find 117 = .ok (.iload 12, 2) := by decide +kernel
theorem dX2_find_119 : decode cX2_find 119 = .ok (.invokestatic 39, 3) := by decide +kernel
theorem dX2_find_122 : decode cX2_find 122 = .ok (.putfield 32, 3) := by decide +kernel
theorem dX2_find_125 : decode cX2_find 125 = .ok (.iload 10, 2) := by decide +kernel
theorem dX2_find_127 : decode cX2_find 127 = .ok (.aload_n 0, 1) := by decide +kernel
theorem dX2_find_128 : decode cX2_find 128 = .ok (.getfield 32, 3) := by decide +kernel
theorem dX2_find_131 : decode cX2_find 131 = .ok (.iadd, 1) := by decide +kernel
theorem dX2_find_132 : decode cX2_find 132 = .ok (.istore 10, 2) := by decide +kernel
theorem dX2_find_134 : decode cX2_find 134 = .ok (.aload_n 0, 1) := by decide +kernel
theorem dX2_find_135 : decode cX2_find 135 = .ok (.iload 11, 2) := by decide +kernel
theorem dX2_find_137 : decode cX2_find 137 = .ok (.iload 10, 2) := by decide +kernel
theorem dX2_find_139 : decode cX2_find 139 = .ok (.isub, 1) := by decide +kernel
theorem dX2_find_140 : decode cX2_find 140 = .ok (.putfield 43, 3) := by decide +kernel
theorem dX2_find_143 : decode cX2_find 143 = .ok (.aload_n 0, 1) := by decide +kernel
theorem dX2_find_144 : decode cX2_find 144 = .ok (.aload_n 0, 1) := by decide +kernel
theorem dX2_find_145 : decode cX2_find 145 = .ok (.getfield 43, 3) := by decide +kernel
theorem dX2_find_148 : decode cX2_find 148 = .ok (.iload 9, 2) := by decide +kernel
theorem dX2_find_150 : decode cX2_find 150 = .ok (.iload 12, 2) := by decide +kernel
theorem dX2_find_152 : decode cX2_find 152 = .ok (.invokestatic 46, 3) := by decide +kernel
theorem dX2_find_155 : decode cX2_find 155 = .ok (.putfield 50, 3) := by decide +kernel
theorem dX2_find_158 : decode cX2_find 158 = .ok (.aload_n 1, 1) := by decide +kernel
theorem dX2_find_159 : decode cX2_find 159 = .ok (.aload_n 1, 1) := by decide +kernel
theorem dX2_find_160 : decode cX2_find 160 = .ok (.iload_n 2, 1) := by decide +kernel
theorem dX2_find_161 : decode cX2_find 161 = .ok (.iconst 0, 1) := by decide +kernel
theorem dX2_find_162 : decode cX2_find 162 = .ok (.invokevirtual 9, 3) := by decide +kernel
theorem dX2_find_165 : decode cX2_find 165 = .ok (.iload_n 3, 1) := by decide +kernel
theorem dX2_find_166 : decode cX2_find 166 = .ok (.invokestatic 54, 3) := by decide +kernel
theorem dX2_find_169 : decode cX2_find 169 = .ok (.istore 13, 2) := by decide +kernel
theorem dX2_find_171 : decode cX2_find 171 = .ok (.iload_n 3, 1) := by decide +kernel
theorem dX2_find_172 : decode cX2_find 172 = .ok (.invokestatic 58, 3) := by decide +kernel
theorem dX2_find_175 : decode cX2_find 175 = .ok (.ifCond .eq 21, 3) := by decide +kernel
theorem dX2_find_178 : decode cX2_find 178 = .ok (.iload 13, 2) := by decide +kernel
theorem dX2_find_180 : decode cX2_find 180 = .ok (.iload 8, 2) := by decide +kernel
theorem dX2_find_182 : decode cX2_find 182 = .ok (.ifCond .eq 8, 3) := by decide +kernel
theorem dX2_find_185 : decode cX2_find 185 = .ok (.iload 7, 2) := by decide +kernel
theorem dX2_find_187 : decode cX2_find 187 = .ok (.goto 5, 3) := by decide +kernel
theorem dX2_find_190 : decode cX2_find 190 = .ok (.iload 6, 2) := by decide +kernel
theorem dX2_find_192 : decode cX2_find 192 = .ok (.isub, 1) := by decide +kernel
theorem dX2_find_193 : decode cX2_find 193 = .ok (.goto 5, 3) := by decide +kernel
theorem dX2_find_196 : decode cX2_find 196 = .ok (.iload 13, 2) := by decide +kernel
theorem dX2_find_198 : decode cX2_find 198 = .ok (.istore 14, 2) := by decide +kernel
theorem dX2_find_200 : decode cX2_find 200 = .ok (.aload_n 0, 1) := by decide +kernel
theorem dX2_find_201 : decode cX2_find 201 = .ok (.iload 8, 2) := by decide +kernel
theorem dX2_find_203 : decode cX2_find 203 = .ok (.ifCond .eq 8, 3) := by decide +kernel
theorem dX2_find_206 : decode cX2_find 206 = .ok (.iload 10, 2) := by decide +kernel
theorem dX2_find_208 : decode cX2_find 208 = .ok (.goto 5, 3) := by decide +kernel
theorem dX2_find_211 : decode cX2_find 211 = .ok (.iload 14, 2) := by decide +kernel
theorem dX2_find_213 : decode cX2_find 213 = .ok (.putfield 61, 3) := by decide +kernel
theorem dX2_find_216 : decode cX2_find 216 = .ok (.aload_n 0, 1) := by decide +kernel
theorem dX2_find_217 : decode cX2_find 217 = .ok (.iload 8, 2) := by decide +kernel
theorem dX2_find_219 : decode cX2_find 219 = .ok (.ifCond .eq 8, 3) := by decide +kernel
theorem dX2_find_222 : decode cX2_find 222 = .ok (.iload 14, 2) := by decide +kernel
theorem dX2_find_224 : decode cX2_find 224 = .ok (.goto 5, 3) := by decide +kernel
theorem dX2_find_227 : decode cX2_find 227 = .ok (.iload 10, 2) := by decide +kernel
theorem dX2_find_229 : decode cX2_find 229 = .ok (.putfield 64, 3) := by decide +kernel
theorem dX2_find_232 : decode cX2_find 232 = .ok (.aload_n 0, 1) := by decide +kernel
theorem dX2_find_233 : decode cX2_find 233 = .ok (.aload_n 0, 1) := by decide +kernel
theorem dX2_find_234 : decode cX2_find 234 = .ok (.getfield 61, 3) := by decide +kernel
theorem dX2_find_237 : decode cX2_find 237 = .ok (.iload 6, 2) := by decide +kernel
theorem dX2_find_239 : decode cX2_find 239 = .ok (.aload_n 1, 1) := by decide +kernel
theorem dX2_find_240 : decode cX2_find 240 = .ok (.iconst 0, 1) := by decide +kernel
theorem dX2_find_241 : decode cX2_find 241 = .ok (.invokevirtual 36, 3) := by decide +kernel
theorem dX2_find_244 : decode cX2_find 244 = .ok (.iload 4, 2) := by decide +kernel
theorem dX2_find_246 : decode cX2_find 246 = .ok (.invokestatic 67, 3) := by decide +kernel
theorem dX2_find_249 : decode cX2_find 249 = .ok (.ifCond .eq 26, 3) := by decide +kernel
theorem dX2_find_252 : decode cX2_find 252 = .ok (.aload_n 0, 1) := by decide +kernel
theorem dX2_find_253 : decode cX2_find 253 = .ok (.getfield 64, 3) := by decide +kernel
theorem dX2_find_256 : decode cX2_find 256 = .ok (.iload 7, 2) := by decide +kernel
theorem dX2_find_258 : decode cX2_find 258 = .ok (.aload_n 1, 1) := by decide +kernel
theorem dX2_find_259 : decode cX2_find 259 = .ok (.iconst 1, 1) := by decide +kernel
theorem dX2_find_260 : decode cX2_find 260 = .ok (.invokevirtual 36, 3) := by decide +kernel
theorem dX2_find_263 : decode cX2_find 263 = .ok (.iload 5, 2) := by decide +kernel
theorem dX2_find_265 : decode cX2_find 265 = .ok (.invokestatic 67, 3) := by decide +kernel
theorem dX2_find_268 : decode cX2_find 268 = .ok (.ifCond .eq 7, 3) := by decide +kernel
theorem dX2_find_271 : decode cX2_find 271 = .ok (.iconst 1, 1) := by decide +kernel
theorem dX2_find_272 : decode cX2_find 272 = .ok (.goto 4, 3) := by decide +kernel
theorem dX2_find_275 : decode cX2_find 275 = .ok (.iconst 0, 1) := by decide +kernel
theorem dX2_find_276 : decode cX2_find 276 = .ok (.putfield 71, 3) := by decide +kernel
theorem dX2_find_279 : decode cX2_find 279 = .ok (.return_, 1) := by decide +kernel
theorem dX2_beginAlong_0 : decode cX2_beginAlong 0 = .ok (.aload_n 0, 1) := by decide +kernel
theorem dX2_beginAlong_1 : decode cX2_beginAlong 1 = .ok (.iload_n 1, 1) := by decide +kernel
theorem dX2_beginAlong_2 : decode cX2_beginAlong 2 = .ok (.iconst 0, 1) := by decide +kernel
theorem dX2_beginAlong_3 : decode cX2_beginAlong 3 = .ok (.invokevirtual 9, 3) := by decide +kernel
theorem dX2_beginAlong_6 : decode cX2_beginAlong 6 = .ok (.istore_n 3, 1) := by decide +kernel
theorem dX2_beginAlong_7 : decode cX2_beginAlong 7 = .ok (.aload_n 0, 1) := by decide +kernel
theorem dX2_beginAlong_8 : decode cX2_beginAlong 8 = .ok (.iload_n 3, 1) := by decide +kernel
theorem dX2_beginAlong_9 : decode cX2_beginAlong 9 = .ok (.iload_n 2, 1) := by decide +kernel
theorem dX2_beginAlong_10 : decode cX2_beginAlong 10 = .ok (.ifCond .eq 7, 3) := by decide +kernel
theorem dX2_beginAlong_13 : decode cX2_beginAlong 13 = .ok (.iconst 0, 1) := by decide +kernel
theorem dX2_beginAlong_14 : decode cX2_beginAlong 14 = .ok (.goto 4, 3) := by decide +kernel
theorem dX2_beginAlong_17 : decode cX2_beginAlong 17 = .ok (.iconst 1, 1) := by decide +kernel
theorem dX2_beginAlong_18 : decode cX2_beginAlong 18 = .ok (.invokevirtual 74, 3) := by decide +kernel
theorem dX2_beginAlong_21 : decode cX2_beginAlong 21 = .ok (.istore 4, 2) := by decide +kernel
theorem dX2_beginAlong_23 : decode cX2_beginAlong 23 = .ok (.aload_n 0, 1) := by decide +kernel
theorem dX2_beginAlong_24 : decode cX2_beginAlong 24 = .ok (.iload_n 3, 1) := by decide +kernel
theorem dX2_beginAlong_25 : decode cX2_beginAlong 25 = .ok (.iload_n 2, 1) := by decide +kernel
theorem dX2_beginAlong_26 : decode cX2_beginAlong 26 = .ok (.ifCond .eq 7, 3) := by decide +kernel
theorem dX2_beginAlong_29 : decode cX2_beginAlong 29 = .ok (.iconst 2, 1) := by decide +kernel
theorem dX2_beginAlong_30 : decode cX2_beginAlong 30 = .ok (.goto 4, 3) := by decide +kernel
theorem dX2_beginAlong_33 : decode cX2_beginAlong 33 = .ok (.iconst 3, 1) := by decide +kernel
theorem dX2_beginAlong_34 : decode cX2_beginAlong 34 = .ok (.invokevirtual 74, 3) := by decide +kernel
theorem dX2_beginAlong_37 : decode cX2_beginAlong 37 = .ok (.aload_n 0, 1) := by decide +kernel
theorem dX2_beginAlong_38 : decode cX2_beginAlong 38 = .ok (.iload_n 1, 1) := by decide +kernel
theorem dX2_beginAlong_39 : decode cX2_beginAlong 39 = .ok (.iload_n 2, 1) := by decide +kernel
theorem dX2_beginAlong_40 : decode cX2_beginAlong 40 = .ok (.ifCond .eq 7, 3) := by decide +kernel
theorem dX2_beginAlong_43 : decode cX2_beginAlong 43 = .ok (.iconst 1, 1) := by decide +kernel
theorem dX2_beginAlong_44 : decode cX2_beginAlong 44 = .ok (.goto 4, 3) := by decide +kernel
theorem dX2_beginAlong_47 : decode cX2_beginAlong 47 = .ok (.iconst 2, 1) := by decide +kernel
theorem dX2_beginAlong_48 : decode cX2_beginAlong 48 = .ok (.invokevirtual 9, 3) := by decide +kernel
theorem dX2_beginAlong_51 : decode cX2_beginAlong 51 = .ok (.isub, 1) := by decide +kernel
theorem dX2_beginAlong_52 : decode cX2_beginAlong 52 = .ok (.istore 5, 2) := by decide +kernel
theorem dX2_beginAlong_54 : decode cX2_beginAlong 54 = .ok (.aload_n 0, 1) := by decide +kernel
theorem dX2_beginAlong_55 : decode cX2_beginAlong 55 = .ok (.iload_n 1, 1) := by decide +kernel
theorem dX2_beginAlong_56 : decode cX2_beginAlong 56 = .ok (.iconst 4, 1) := by decide +kernel
theorem dX2_beginAlong_57 : decode cX2_beginAlong 57 = .ok (.invokevirtual 9, 3) := by decide +kernel
theorem dX2_beginAlong_60 : decode cX2_beginAlong 60 = .ok (.lookupswitch 41 #[(0, 28), (1, 31)], 28) := by decide +kernel
theorem dX2_beginAlong_88 : decode cX2_beginAlong 88 = .ok (.iload 4, 2) := by decide +kernel
theorem dX2_beginAlong_90 : decode cX2_beginAlong 90 = .ok (.ireturn, 1) := by decide +kernel
theorem dX2_beginAlong_91 : decode cX2_beginAlong 91 = .ok (.iload 4, 2) := by decide +kernel
theorem dX2_beginAlong_93 : decode cX2_beginAlong 93 = .ok (.iload 5, 2) := by decide +kernel
theorem dX2_beginAlong_95 : decode cX2_beginAlong 95 = .ok (.iconst 2, 1) := by decide +kernel
theorem dX2_beginAlong_96 : decode cX2_beginAlong 96 = .ok (.invokestatic 77, 3) := by decide +kernel
theorem dX2_beginAlong_99 : decode cX2_beginAlong 99 = .ok (.iadd, 1) := by decide +kernel
theorem dX2_beginAlong_100 : decode cX2_beginAlong 100 = .ok (.ireturn, 1) := by decide +kernel
theorem dX2_beginAlong_101 : decode cX2_beginAlong 101 = .ok (.iload 4, 2) := by decide +kernel
theorem dX2_beginAlong_103 : decode cX2_beginAlong 103 = .ok (.iload 5, 2) := by decide +kernel
theorem dX2_beginAlong_105 : decode cX2_beginAlong 105 = .ok (.iadd, 1) := by decide +kernel
theorem dX2_beginAlong_106 : decode cX2_beginAlong 106 = .ok (.ireturn, 1) := by decide +kernel
theorem dX2_middleAlong_0 : decode cX2_middleAlong 0 = .ok (.aload_n 0, 1) := by decide +kernel
theorem dX2_middleAlong_1 : decode cX2_middleAlong 1 = .ok (.iload_n 1, 1) := by decide +kernel
theorem dX2_middleAlong_2 : decode cX2_middleAlong 2 = .ok (.iconst 0, 1) := by decide +kernel
theorem dX2_middleAlong_3 : decode cX2_middleAlong 3 = .ok (.invokevirtual 9, 3) := by decide +kernel
theorem dX2_middleAlong_6 : decode cX2_middleAlong 6 = .ok (.istore_n 3, 1) := by decide +kernel
theorem dX2_middleAlong_7 : decode cX2_middleAlong 7 = .ok (.aload_n 0, 1) := by decide +kernel
theorem dX2_middleAlong_8 : decode cX2_middleAlong 8 = .ok (.iload_n 3, 1) := by decide +kernel
theorem dX2_middleAlong_9 : decode cX2_middleAlong 9 = .ok (.iload_n 2, 1) := by decide +kernel
theorem dX2_middleAlong_10 : decode cX2_middleAlong 10 = .ok (.ifCond .eq 7, 3) := by decide +kernel
theorem dX2_middleAlong_13 : decode cX2_middleAlong 13 = .ok (.iconst 2, 1) := by decide +kernel
theorem dX2_middleAlong_14 : decode cX2_middleAlong 14 = .ok (.goto 4, 3) := by decide +kernel
theorem dX2_middleAlong_17 : decode cX2_middleAlong 17 = .ok (.iconst 3, 1) := by decide +kernel
theorem dX2_middleAlong_18 : decode cX2_middleAlong 18 = .ok (.invokevirtual 74, 3) := by decide +kernel
theorem dX2_middleAlong_21 : decode cX2_middleAlong 21 = .ok (.istore 4, 2) := by decide +kernel
theorem dX2_middleAlong_23 : decode cX2_middleAlong 23 = .ok (.aload_n 0, 1) := by decide +kernel
theorem dX2_middleAlong_24 : decode cX2_middleAlong 24 = .ok (.iload_n 3, 1) := by decide +kernel
theorem dX2_middleAlong_25 : decode cX2_middleAlong 25 = .ok (.iload_n 2, 1) := by decide +kernel
theorem dX2_middleAlong_26 : decode cX2_middleAlong 26 = .ok (.ifCond .eq 7, 3) := by decide +kernel
theorem dX2_middleAlong_29 : decode cX2_middleAlong 29 = .ok (.iconst 0, 1) := by decide +kernel
theorem dX2_middleAlong_30 : decode cX2_middleAlong 30 = .ok (.goto 4, 3) := by decide +kernel
theorem dX2_middleAlong_33 : decode cX2_middleAlong 33 = .ok (.iconst 1, 1) := by decide +kernel
theorem dX2_middleAlong_34 : decode cX2_middleAlong 34 = .ok (.invokevirtual 74, 3) := by decide +kernel
theorem dX2_middleAlong_37 : decode cX2_middleAlong 37 = .ok (.iload 4, 2) := by decide +kernel
theorem dX2_middleAlong_39 : decode cX2_middleAlong 39 = .ok (.iconst 2, 1) := by decide +kernel
theorem dX2_middleAlong_40 : decode cX2_middleAlong 40 = .ok (.invokestatic 77, 3) := by decide +kernel
theorem dX2_middleAlong_43 : decode cX2_middleAlong 43 = .ok (.iadd, 1) := by decide +kernel
theorem dX2_middleAlong_44 : decode cX2_middleAlong 44 = .ok (.ireturn, 1) := by decide +kernel
theorem dX2_shiftInto_0 : decode cX2_shiftInto 0 = .ok (.iload_n 3, 1) := by decide +kernel
theorem dX2_shiftInto_1 : decode cX2_shiftInto 1 = .ok (.iload_n 1, 1) := by decide +kernel
theorem dX2_shiftInto_2 : decode cX2_shiftInto 2 = .ok (.if_icmp .le 5, 3) := by decide +kernel
theorem dX2_shiftInto_5 : decode cX2_shiftInto 5 = .ok (.iconst 0, 1) := by decide +kernel
theorem dX2_shiftInto_6 : decode cX2_shiftInto 6 = .ok (.ireturn, 1) := by decide +kernel
theorem dX2_shiftInto_7 : decode cX2_shiftInto 7 = .ok (.iconst 0, 1) := by decide +kernel
theorem dX2_shiftInto_8 : decode cX2_shiftInto 8 = .ok (.iload_n 0, 1) := by decide +kernel
theorem dX2_shiftInto_9 : decode cX2_shiftInto 9 = .ok (.iload_n 2, 1) := by decide +kernel
theorem dX2_shiftInto_10 : decode cX2_shiftInto 10 = .ok (.isub, 1) := by decide +kernel
theorem dX2_shiftInto_11 : decode cX2_shiftInto 11 = .ok (.invokestatic 82, 3) := by decide +kernel
theorem dX2_shiftInto_14 : decode cX2_shiftInto 14 = .ok (.istore 6, 2) := by decide +kernel
theorem dX2_shiftInto_16 : decode cX2_shiftInto 16 = .ok (.iconst 0, 1) := by decide +kernel
theorem dX2_shiftInto_17 : decode cX2_shiftInto 17 = .ok (.iload_n 2, 1) := by decide +kernel
theorem dX2_shiftInto_18 : decode cX2_shiftInto 18 = .ok (.iload_n 3, 1) := by decide +kernel
theorem dX2_shiftInto_19 : decode cX2_shiftInto 19 = .ok (.iadd, 1) := by decide +kernel
theorem dX2_shiftInto_20 : decode cX2_shiftInto 20 = .ok (.iload_n 0, 1) := by decide +kernel
theorem dX2_shiftInto_21 : decode cX2_shiftInto 21 = .ok (.isub, 1) := by decide +kernel
theorem dX2_shiftInto_22 : decode cX2_shiftInto 22 = .ok (.iload_n 1, 1) := by decide +kernel
theorem dX2_shiftInto_23 : decode cX2_shiftInto 23 = .ok (.isub, 1) := by decide +kernel
theorem dX2_shiftInto_24 : decode cX2_shiftInto 24 = .ok (.invokestatic 82, 3) := by decide +kernel
theorem dX2_shiftInto_27 : decode cX2_shiftInto 27 = .ok (.istore 7, 2) := by decide +kernel
theorem dX2_shiftInto_29 : decode cX2_shiftInto 29 = .ok (.iload 4, 2) := by decide +kernel
theorem dX2_shiftInto_31 : decode cX2_shiftInto 31 = .ok (.iload_n 3, 1) := by decide +kernel
theorem dX2_shiftInto_32 : decode cX2_shiftInto 32 = .ok (.iload 5, 2) := by decide +kernel
theorem dX2_shiftInto_34 : decode cX2_shiftInto 34 = .ok (.invokestatic 46, 3) := by decide +kernel
theorem dX2_shiftInto_37 : decode cX2_shiftInto 37 = .ok (.ifCond .eq 31, 3) := by decide +kernel
theorem dX2_shiftInto_40 : decode cX2_shiftInto 40 = .ok (.iload 6, 2) := by decide +kernel
theorem dX2_shiftInto_42 : decode cX2_shiftInto 42 = .ok (.iload 4, 2) := by decide +kernel
theorem dX2_shiftInto_44 : decode cX2_shiftInto 44 = .ok (.iload 5, 2) := by decide +kernel
theorem dX2_shiftInto_46 : decode cX2_shiftInto 46 = .ok (.isub, 1) := by decide +kernel
theorem dX2_shiftInto_47 : decode cX2_shiftInto 47 = .ok (.invokestatic 85, 3) := by decide +kernel
theorem dX2_shiftInto_50 : decode cX2_shiftInto 50 = .ok (.istore 6, 2) := by decide +kernel
theorem dX2_shiftInto_52 : decode cX2_shiftInto 52 = .ok (.iload 7, 2) := by decide +kernel
theorem dX2_shiftInto_54 : decode cX2_shiftInto 54 = .ok (.iload_n 3, 1) := by decide +kernel
theorem dX2_shiftInto_55 : decode cX2_shiftInto 55 = .ok (.iconst 1, 1) := by decide +kernel
theorem dX2_shiftInto_56 : decode cX2_shiftInto 56 = .ok (.isub, 1) := by decide +kernel
theorem dX2_shiftInto_57 : decode cX2_shiftInto 57 = .ok (.iload 5, 2) := by decide +kernel
theorem dX2_shiftInto_59 : decode cX2_shiftInto 59 = .ok (.isub, 1) := by decide +kernel
theorem dX2_shiftInto_60 : decode cX2_shiftInto 60 = .ok (.iload 4, 2) := by decide +kernel
theorem dX2_shiftInto_62 : decode cX2_shiftInto 62 = .ok (.isub, 1) := by decide +kernel
theorem dX2_shiftInto_63 : decode cX2_shiftInto 63 = .ok (.invokestatic 85, 3) := by decide +kernel
theorem dX2_shiftInto_66 : decode cX2_shiftInto 66 = .ok (.istore 7, 2) := by decide +kernel
theorem dX2_shiftInto_68 : decode cX2_shiftInto 68 = .ok (.iload 6, 2) := by decide +kernel
theorem dX2_shiftInto_70 : decode cX2_shiftInto 70 = .ok (.iload 7, 2) := by decide +kernel
theorem dX2_shiftInto_72 : decode cX2_shiftInto 72 = .ok (.isub, 1) := by decide +kernel
theorem dX2_shiftInto_73 : decode cX2_shiftInto 73 = .ok (.ireturn, 1) := by decide +kernel
theorem dX2_isGood_0 : decode cX2_isGood 0 = .ok (.iload_n 0, 1) := by decide +kernel
theorem dX2_isGood_1 : decode cX2_isGood 1 = .ok (.iload_n 2, 1) := by decide +kernel
theorem dX2_isGood_2 : decode cX2_isGood 2 = .ok (.if_icmp .lt 16, 3) := by decide +kernel
theorem dX2_isGood_5 : decode cX2_isGood 5 = .ok (.iload_n 0, 1) := by decide +kernel
theorem dX2_isGood_6 : decode cX2_isGood 6 = .ok (.iload_n 1, 1) := by decide +kernel
theorem dX2_isGood_7 : decode cX2_isGood 7 = .ok (.iconst 1, 1) := by decide +kernel
theorem dX2_isGood_8 : decode cX2_isGood 8 = .ok (.isub, 1) := by decide +kernel
theorem dX2_isGood_9 : decode cX2_isGood 9 = .ok (.iload_n 2, 1) := by decide +kernel
theorem dX2_isGood_10 : decode cX2_isGood 10 = .ok (.isub, 1) := by decide +kernel
theorem dX2_isGood_11 : decode cX2_isGood 11 = .ok (.if_icmp .gt 7, 3) := by decide +kernel
theorem dX2_isGood_14 : decode cX2_isGood 14 = .ok (.iconst 1, 1) := by decide +kernel
theorem dX2_isGood_15 : decode cX2_isGood 15 = .ok (.goto 4, 3) := by decide +kernel
theorem dX2_isGood_18 : decode cX2_isGood 18 = .ok (.iconst 0, 1) := by decide +kernel
theorem dX2_isGood_19 : decode cX2_isGood 19 = .ok (.ireturn, 1) := by decide +kernel
theorem dX3_init_0 : decode cX3_init 0 = .ok (.aload_n 0, 1) := by decide +kernel
theorem dX3_init_1 : decode cX3_init 1 = .ok (.invokespecial 1, 3) := by decide +kernel
theorem dX3_init_4 : decode cX3_init 4 = .ok (.aload_n 0, 1) := by decide +kernel
theorem dX3_init_5 : decode cX3_init 5 = .ok (.iconst 0, 1) := by decide +kernel
theorem dX3_init_6 : decode cX3_init 6 = .ok (.iload_n 1, 1) := by decide +kernel
theorem dX3_init_7 : decode cX3_init 7 = .ok (.invokestatic 7, 3) := by decide +kernel
theorem dX3_init_10 : decode cX3_init 10 = .ok (.newarray .int, 2) := by decide +kernel
theorem dX3_init_12 : decode cX3_init 12 = .ok (.putfield 13, 3) := by decide +kernel
theorem dX3_init_15 : decode cX3_init 15 = .ok (.return_, 1) := by decide +kernel
theorem dX3_get_0 : decode cX3_get 0 = .ok (.iload_n 1, 1) := by decide +kernel
theorem dX3_get_1 : decode cX3_get 1 = .ok (.ifCond .lt 21, 3) := by decide +kernel
theorem dX3_get_4 : decode cX3_get 4 = .ok (.iload_n 1, 1) := by decide +kernel
theorem dX3_get_5 : decode cX3_get 5 = .ok (.aload_n 0, 1) := by decide +kernel
theorem dX3_get_6 : decode cX3_get 6 = .ok (.getfield 13, 3) := by decide +kernel
theorem dX3_get_9 : decode cX3_get 9 = .ok (.arraylength, 1) := by decide +kernel
theorem dX3_get_10 : decode cX3_get 10 = .ok (.if_icmp .ge 12, 3) := by decide +kernel
theorem dX3_get_13 : decode cX3_get 13 = .ok (.aload_n 0, 1) := by decide +kernel
theorem dX3_get_14 : decode cX3_get 14 = .ok (.getfield 13, 3) := by decide +kernel
theorem dX3_get_17 : decode cX3_get 17 = .ok (.iload_n 1, 1) := by decide +kernel
theorem dX3_get_18 : decode cX3_get 18 = .ok (.iaload, 1) := by decide +kernel
theorem dX3_get_19 : decode cX3_get 19 = .ok (.goto 4, 3) := by decide +kernel
theorem dX3_get_22 : decode cX3_get 22 = .ok (.iconst 0, 1) := by decide +kernel
theorem dX3_get_23 : decode cX3_get 23 = .ok (.ireturn, 1) := by decide +kernel
theorem dX3_put_0 : decode cX3_put 0 = .ok (.iload_n 1, 1) := by decide +kernel
theorem dX3_put_1 : decode cX3_put 1 = .ok (.ifCond .lt 19, 3) := by decide +kernel
theorem dX3_put_4 : decode cX3_put 4 = .ok (.iload_n 1, 1) := by decide +kernel
theorem dX3_put_5 : decode cX3_put 5 = .ok (.aload_n 0, 1) := by decide +kernel
theorem dX3_put_6 : decode cX3_put 6 = .ok (.getfield 13, 3) := by decide +kernel
theorem dX3_put_9 : decode cX3_put 9 = .ok (.arraylength, 1) := by decide +kernel
theorem dX3_put_10 : decode cX3_put 10 = .ok (.if_icmp .ge 10, 3) := by decide +kernel
theorem dX3_put_13 : decode cX3_put 13 = .ok (.aload_n 0, 1) := by decide +kernel
theorem dX3_put_14 : decode cX3_put 14 = .ok (.getfield 13, 3) := by decide +kernel
theorem dX3_put_17 : decode cX3_put 17 = .ok (.iload_n 1, 1) := by decide +kernel
theorem dX3_put_18 : decode cX3_put 18 = .ok (.iload_n 2, 1) := by decide +kernel
theorem dX3_put_19 : decode cX3_put 19 = .ok (.iastore, 1) := by decide +kernel
theorem dX3_put_20 : decode cX3_put 20 = .ok (.return_, 1) := by decide +kernel
theorem dX4_init_0 : decode cX4_init 0 = .ok (.aload_n 0, 1) := by decide +kernel
theorem dX4_init_1 : decode cX4_init 1 = .ok (.invokespecial 3, 3) := by decide +kernel
theorem dX4_init_4 : decode cX4_init 4 = .ok (.aload_n 0, 1) := by decide +kernel
theorem dX4_init_5 : decode cX4_init 5 = .ok (.new 9, 3) := by decide +kernel
theorem dX4_init_8 : decode cX4_init 8 = .ok (.dup, 1) := by decide +kernel
theorem dX4_init_9 : decode cX4_init 9 = .ok (.bipush 12, 2) := by decide +kernel
theorem dX4_init_11 : decode cX4_init 11 = .ok (.invokespecial 11, 3) := by decide +kernel
theorem dX4_init_14 : decode cX4_init 14 = .ok (.putfield 14, 3) := by decide +kernel
theorem dX4_init_17 : decode cX4_init 17 = .ok (.aload_n 0, 1) := by decide +kernel
theorem dX4_init_18 : decode cX4_init 18 = .ok (.new 9, 3) := by decide +kernel
theorem dX4_init_21 : decode cX4_init 21 = .ok (.dup, 1) := by decide +kernel
theorem dX4_init_22 : decode cX4_init 22 = .ok (.bipush 12, 2) := by decide +kernel
theorem dX4_init_24 : decode cX4_init 24 = .ok (.invokespecial 11, 3) := by decide +kernel
theorem dX4_init_27 : decode cX4_init 27 = .ok (.putfield 20, 3) := by decide +kernel
theorem dX4_init_30 : decode cX4_init 30 = .ok (.aload_n 0, 1) := by decide +kernel
theorem dX4_init_31 : decode cX4_init 31 = .ok (.new 9, 3) := by decide +kernel
theorem dX4_init_34 : decode cX4_init 34 = .ok (.dup, 1) := by decide +kernel
theorem dX4_init_35 : decode cX4_init 35 = .ok (.bipush 12, 2) := by decide +kernel
theorem dX4_init_37 : decode cX4_init 37 = .ok (.invokespecial 11, 3) := by decide +kernel
theorem dX4_init_40 : decode cX4_init 40 = .ok (.putfield 23, 3) := by decide +kernel
theorem dX4_init_43 : decode cX4_init 43 = .ok (.aload_n 0, 1) := by decide +kernel
theorem dX4_init_44 : decode cX4_init 44 = .ok (.new 9, 3) := by decide +kernel
theorem dX4_init_47 : decode cX4_init 47 = .ok (.dup, 1) := by decide +kernel
theorem dX4_init_48 : decode cX4_init 48 = .ok (.bipush 12, 2) := by decide +kernel
theorem dX4_init_50 : decode cX4_init 50 = .ok (.invokespecial 11, 3) := by decide +kernel
theorem dX4_init_53 : decode cX4_init 53 = .ok (.putfield 26, 3) := by decide +kernel
theorem dX4_init_56 : decode cX4_init 56 = .ok (.aload_n 0, 1) := by decide +kernel
theorem dX4_init_57 : decode cX4_init 57 = .ok (.new 9, 3) := by decide +kernel
theorem dX4_init_60 : decode cX4_init 60 = .ok (.dup, 1) := by decide +kernel
theorem dX4_init_61 : decode cX4_init 61 = .ok (.bipush 12, 2) := by decide +kernel
theorem dX4_init_63 : decode cX4_init 63 = .ok (.invokespecial 11, 3) := by decide +kernel
theorem dX4_init_66 : decode cX4_init 66 = .ok (.putfield 29, 3) := by decide +kernel
theorem dX4_init_69 : decode cX4_init 69 = .ok (.aload_n 0, 1) := by decide +kernel
theorem dX4_init_70 : decode cX4_init 70 = .ok (.new 32, 3) := by decide +kernel
theorem dX4_init_73 : decode cX4_init 73 = .ok (.dup, 1) := by decide +kernel
theorem dX4_init_74 : decode cX4_init 74 = .ok (.invokespecial 34, 3) := by decide +kernel
theorem dX4_init_77 : decode cX4_init 77 = .ok (.putfield 35, 3) := by decide +kernel
theorem dX4_init_80 : decode cX4_init 80 = .ok (.aload_n 0, 1) := by decide +kernel
theorem dX4_init_81 : decode cX4_init 81 = .ok (.new 39, 3) := by decide +kernel
theorem dX4_init_84 : decode cX4_init 84 = .ok (.dup, 1) := by decide +kernel
theorem dX4_init_85 : decode cX4_init 85 = .ok (.invokespecial 41, 3) := by decide +kernel
theorem dX4_init_88 : decode cX4_init 88 = .ok (.putfield 42, 3) := by decide +kernel
theorem dX4_init_91 : decode cX4_init 91 = .ok (.return_, 1) := by decide +kernel
theorem dX4_arrange_0 : decode cX4_arrange 0 = .ok (.aload_n 0, 1) := by decide +kernel
theorem dX4_arrange_1 : decode cX4_arrange 1 = .ok (.iconst 0, 1) := by decide +kernel
theorem dX4_arrange_2 : decode cX4_arrange 2 = .ok (.putfield 46, 3) := by decide +kernel
theorem dX4_arrange_5 : decode cX4_arrange 5 = .ok (.aload_n 0, 1) := by decide +kernel
theorem dX4_arrange_6 : decode cX4_arrange 6 = .ok (.aload_n 1, 1) := by decide +kernel
theorem dX4_arrange_7 : decode cX4_arrange 7 = .ok (.invokevirtual 50, 3) := by decide +kernel
theorem dX4_arrange_10 : decode cX4_arrange 10 = .ok (.istore_n 2, 1) := by decide +kernel
theorem dX4_arrange_11 : decode cX4_arrange 11 = .ok (.iconst 0, 1) := by decide +kernel
theorem dX4_arrange_12 : decode cX4_arrange 12 = .ok (.istore_n 3, 1) := by decide +kernel
theorem dX4_arrange_13 : decode cX4_arrange 13 = .ok (.iload_n 3, 1) := by decide +kernel
theorem dX4_arrange_14 : decode cX4_arrange 14 = .ok (.iload_n 2, 1) := by decide +kernel
theorem dX4_arrange_15 : decode cX4_arrange 15 = .ok (.if_icmp .ge 54, 3) := by decide +kernel
theorem dX4_arrange_18 : decode cX4_arrange 18 = .ok (.aload_n 0, 1) := by decide +kernel
theorem dX4_arrange_19 : decode cX4_arrange 19 = .ok (.getfield 29, 3) := by decide +kernel
theorem dX4_arrange_22 : decode cX4_arrange 22 = .ok (.iload_n 3, 1) := by decide +kernel
theorem dX4_arrange_23 : decode cX4_arrange 23 = .ok (.invokevirtual 54, 3) := by decide +kernel
theorem dX4_arrange_26 : decode cX4_arrange 26 = .ok (.istore 4, 2) := by decide +kernel
theorem dX4_arrange_28 : decode cX4_arrange 28 = .ok (.aload_n 0, 1) := by decide +kernel
theorem dX4_arrange_29 : decode cX4_arrange 29 = .ok (.aload_n 1, 1) := by decide +kernel
theorem dX4_arrange_30 : decode cX4_arrange 30 = .ok (.iload 4, 2) := by decide +kernel
theorem dX4_arrange_32 : decode cX4_arrange 32 = .ok (.invokevirtual 58, 3) := by decide +kernel
theorem dX4_arrange_35 : decode cX4_arrange 35 = .ok (.istore 5, 2) := by decide +kernel
theorem dX4_arrange_37 : decode cX4_arrange 37 = .ok (.aload_n 0, 1) := by decide +kernel
theorem dX4_arrange_38 : decode cX4_arrange 38 = .ok (.getfield 14, 3) := by decide +kernel
theorem dX4_arrange_41 : decode cX4_arrange 41 = .ok (.iload 4, 2) := by decide +kernel
theorem dX4_arrange_43 : decode cX4_arrange 43 = .ok (.iload 5, 2) := by decide +kernel
theorem dX4_arrange_45 : decode cX4_arrange 45 = .ok (.invokevirtual 62, 3) := by decide +kernel
theorem dX4_arrange_48 : decode cX4_arrange 48 = .ok (.iload 5, 2) := by decide +kernel
theorem dX4_arrange_50 : decode cX4_arrange 50 = .ok (.ifCond .ne 13, 3) := by decide +kernel
theorem dX4_arrange_53 : decode cX4_arrange 53 = .ok (.aload_n 0, 1) := by decide +kernel
theorem dX4_arrange_54 : decode cX4_arrange 54 = .ok (.dup, 1) := by decide +kernel
theorem dX4_arrange_55 : decode cX4_arrange 55 = .ok (.getfield 46, 3) := by decide +kernel
theorem dX4_arrange_58 : decode cX4_arrange 58 = .ok (.iconst 1, 1) := by decide +kernel
theorem dX4_arrange_59 : decode cX4_arrange 59 = .ok (.iadd, 1) := by decide +kernel
theorem dX4_arrange_60 : decode cX4_arrange 60 = .ok (.putfield 46, 3) := by decide +kernel
theorem dX4_arrange_63 : decode cX4_arrange 63 = .ok (.iinc 3 1, 3) := by decide +kernel
theorem dX4_arrange_66 : decode cX4_arrange 66 = .ok (.goto (-53), 3) := by decide +kernel
theorem dX4_arrange_69 : decode cX4_arrange 69 = .ok (.aload_n 0, 1) := by decide +kernel
theorem dX4_arrange_70 : decode cX4_arrange 70 = .ok (.getfield 46, 3) := by decide +kernel
theorem dX4_arrange_73 : decode cX4_arrange 73 = .ok (.ireturn, 1) := by decide +kernel
theorem dX4_orderOpenHints_0 : decode cX4_orderOpenHints 0 = .ok (.iconst 0, 1) := by decide +kernel
theorem dX4_orderOpenHints_1 : decode cX4_orderOpenHints 1 = .ok (.istore_n 2, 1) := by decide +kernel
theorem dX4_orderOpenHints_2 : decode cX4_orderOpenHints 2 = .ok (.iconst 0, 1) := by decide +kernel
theorem dX4_orderOpenHints_3 : decode cX4_orderOpenHints 3 = .ok (.istore_n 3, 1) := by decide +kernel
theorem dX4_orderOpenHints_4 : decode cX4_orderOpenHints 4 = .ok (.iload_n 3, 1) := by decide +kernel
theorem dX4_orderOpenHints_5 : decode cX4_orderOpenHints 5 = .ok (.aload_n 1, 1) := by decide +kernel
theorem dX4_orderOpenHints_6 : decode cX4_orderOpenHints 6 = .ok (.iconst 5, 1) := by decide +kernel
theorem dX4_orderOpenHints_7 : decode cX4_orderOpenHints 7 = .ok (.invokevirtual 66, 3) := by decide +kernel
theorem dX4_orderOpenHints_10 : decode cX4_orderOpenHints 10 = .ok (.if_icmp .ge 42, 3) := by decide +kernel
theorem dX4_orderOpenHints_13 : decode cX4_orderOpenHints 13 = .ok (.aload_n 0, 1) := by decide +kernel
theorem dX4_orderOpenHints_14 : decode cX4_orderOpenHints 14 = .ok (.getfield 14, 3) := by decide +kernel
theorem dX4_orderOpenHints_17 : decode cX4_orderOpenHints 17 = .ok (.iload_n 3, 1) := by decide +kernel
theorem dX4_orderOpenHints_18 : decode cX4_orderOpenHints 18 = .ok (.iconst 1, 1) := by decide +kernel
theorem dX4_orderOpenHints_19 : decode cX4_orderOpenHints 19 = .ok (.invokevirtual 62, 3) := by decide +kernel
theorem dX4_orderOpenHints_22 : decode cX4_orderOpenHints 22 = .ok (.aload_n 1, 1) := by decide +kernel
theorem dX4_orderOpenHints_23 : decode cX4_orderOpenHints 23 = .ok (.iload_n 3, 1) := by decide +kernel
theorem dX4_orderOpenHints_24 : decode cX4_orderOpenHints 24 = .ok (.invokevirtual 69, 3) := by decide +kernel
theorem dX4_orderOpenHints_27 : decode cX4_orderOpenHints 27 = .ok (.ifCond .eq 19, 3) := by decide +kernel
theorem dX4_orderOpenHints_30 : decode cX4_orderOpenHints 30 = .ok (.aload_n 0, 1) := by decide +kernel
theorem dX4_orderOpenHints_31 : decode cX4_orderOpenHints 31 = .ok (.getfield 29, 3) := by decide +kernel
theorem dX4_orderOpenHints_34 : decode cX4_orderOpenHints 34 = .ok (.aload_n 1, 1) := by decide +kernel
theorem dX4_orderOpenHints_35 : decode cX4_orderOpenHints 35 = .ok (.iload_n 3, 1) := by decide +kernel
theorem dX4_orderOpenHints_36 : decode cX4_orderOpenHints 36 = .ok (.invokevirtual 73, 3) := by decide +kernel
theorem dX4_orderOpenHints_39 : decode cX4_orderOpenHints 39 = .ok (.iload_n 3, 1) := by decide +kernel
theorem dX4_orderOpenHints_40 : decode cX4_orderOpenHints 40 = .ok (.invokevirtual 62, 3) := by decide +kernel
theorem dX4_orderOpenHints_43 : decode cX4_orderOpenHints 43 = .ok (.iinc 2 1, 3) := by decide +kernel
theorem dX4_orderOpenHints_46 : decode cX4_orderOpenHints 46 = .ok (.iinc 3 1, 3) := by decide +kernel
theorem dX4_orderOpenHints_49 : decode cX4_orderOpenHints 49 = .ok (.goto (-45), 3) := by decide +kernel
theorem dX4_orderOpenHints_52 : decode cX4_orderOpenHints 52 = .ok (.iload_n 2, 1) := by decide +kernel
theorem dX4_orderOpenHints_53 : decode cX4_orderOpenHints 53 = .ok (.ireturn, 1) := by decide +kernel
theorem dX4_tryToShow_0 : decode cX4_tryToShow 0 = .ok (.aload_n 1, 1) := by decide +kernel
theorem dX4_tryToShow_1 : decode cX4_tryToShow 1 = .ok (.aload_n 1, 1) := by decide +kernel
theorem dX4_tryToShow_2 : decode cX4_tryToShow 2 = .ok (.iload_n 2, 1) := by decide +kernel
theorem dX4_tryToShow_3 : decode cX4_tryToShow 3 = .ok (.iconst 0, 1) := by decide +kernel
theorem dX4_tryToShow_4 : decode cX4_tryToShow 4 = .ok (.invokevirtual 76, 3) := by decide +kernel
theorem dX4_tryToShow_7 : decode cX4_tryToShow 7 = .ok (.invokevirtual 80, 3) := by decide +kernel
theorem dX4_tryToShow_10 : decode cX4_tryToShow 10 = .ok (.ifCond .ne 5, 3) := by decide +kernel
theorem dX4_tryToShow_13 : decode cX4_tryToShow 13 = .ok (.iconst 2, 1) := by decide +kernel
theorem dX4_tryToShow_14 : decode cX4_tryToShow 14 = .ok (.ireturn, 1) := by decide +kernel
theorem dX4_tryToShow_15 : decode cX4_tryToShow 15 = .ok (.aload_n 0, 1) := by decide +kernel
theorem dX4_tryToShow_16 : decode cX4_tryToShow 16 = .ok (.getfield 46, 3) := by decide +kernel
theorem dX4_tryToShow_19 : decode cX4_tryToShow 19 = .ok (.aload_n 1, 1) := by decide +kernel
theorem dX4_tryToShow_20 : decode cX4_tryToShow 20 = .ok (.iconst 2, 1) := by decide +kernel
theorem dX4_tryToShow_21 : decode cX4_tryToShow 21 = .ok (.invokevirtual 83, 3) := by decide +kernel
theorem dX4_tryToShow_24 : decode cX4_tryToShow 24 = .ok (.if_icmp .lt 5, 3) := by decide +kernel
theorem dX4_tryToShow_27 : decode cX4_tryToShow 27 = .ok (.iconst 5, 1) := by decide +kernel
theorem dX4_tryToShow_28 : decode cX4_tryToShow 28 = .ok (.ireturn, 1) := by decide +kernel
theorem dX4_tryToShow_29 : decode cX4_tryToShow 29 = .ok (.iconst 3, 1) := by decide +kernel
theorem dX4_tryToShow_30 : decode cX4_tryToShow 30 = .ok (.istore_n 3, 1) := by decide +kernel
theorem dX4_tryToShow_31 : decode cX4_tryToShow 31 = .ok (.aload_n 0, 1) := by decide +kernel
theorem dX4_tryToShow_32 : decode cX4_tryToShow 32 = .ok (.getfield 35, 3) := by decide +kernel
theorem dX4_tryToShow_35 : decode cX4_tryToShow 35 = .ok (.aload_n 1, 1) := by decide +kernel
theorem dX4_tryToShow_36 : decode cX4_tryToShow 36 = .ok (.iload_n 2, 1) := by decide +kernel
theorem dX4_tryToShow_37 : decode cX4_tryToShow 37 = .ok (.invokevirtual 86, 3) := by decide +kernel
theorem dX4_tryToShow_40 : decode cX4_tryToShow 40 = .ok (.iconst 0, 1) := by decide +kernel
theorem dX4_tryToShow_41 : decode cX4_tryToShow 41 = .ok (.istore 4, 2) := by decide +kernel
theorem dX4_tryToShow_43 : decode cX4_tryToShow 43 = .ok (.iload 4, 2) := by decide +kernel
theorem dX4_tryToShow_45 : decode cX4_tryToShow 45 = .ok (.aload_n 0, 1) := by decide +kernel
theorem dX4_tryToShow_46 : decode cX4_tryToShow 46 = .ok (.getfield 35, 3) := by decide +kernel
theorem dX4_tryToShow_49 : decode cX4_tryToShow 49 = .ok (.getfield 90, 3) := by decide +kernel
theorem dX4_tryToShow_52 : decode cX4_tryToShow 52 = .ok (.if_icmp .ge 113, 3) := by decide +kernel
theorem dX4_tryToShow_55 : decode cX4_tryToShow 55 = .ok (.aload_n 0, 1) := by decide +kernel
theorem dX4_tryToShow_56 : decode cX4_tryToShow 56 = .ok (.getfield 42, 3) := by decide +kernel
theorem dX4_tryToShow_59 : decode cX4_tryToShow 59 = .ok (.aload_n 1, 1) := by decide +kernel
theorem dX4_tryToShow_60 : decode cX4_tryToShow 60 = .ok (.iload_n 2, 1) := by decide +kernel
theorem dX4_tryToShow_61 : decode cX4_tryToShow 61 = .ok (.aload_n 0, 1) := by decide +kernel
theorem dX4_tryToShow_62 : decode cX4_tryToShow 62 = .ok (.getfield 35, 3) := by decide +kernel
theorem dX4_tryToShow_65 : decode cX4_tryToShow 65 = .ok (.getfield 93, 3) := by decide +kernel
theorem dX4_tryToShow_68 : decode cX4_tryToShow 68 = .ok (.iload 4, 2) := by decide +kernel
theorem dX4_tryToShow_70 : decode cX4_tryToShow 70 = .ok (.invokevirtual 54, 3) := by decide +kernel
theorem dX4_tryToShow_73 : decode cX4_tryToShow 73 = .ok (.aload_n 1, 1) := by decide +kernel
theorem dX4_tryToShow_74 : decode cX4_tryToShow 74 = .ok (.iconst 2, 1) := by decide +kernel
theorem dX4_tryToShow_75 : decode cX4_tryToShow 75 = .ok (.invokevirtual 66, 3) := by decide +kernel
theorem dX4_tryToShow_78 : decode cX4_tryToShow 78 = .ok (.aload_n 1, 1) := by decide +kernel
theorem dX4_tryToShow_79 : decode cX4_tryToShow 79 = .ok (.iconst 3, 1) := by decide +kernel
theorem dX4_tryToShow_80 : decode cX4_tryToShow 80 = .ok (.invokevirtual 66, 3) := by decide +kernel
theorem dX4_tryToShow_83 : decode cX4_tryToShow 83 = .ok (.invokevirtual 94, 3) := by decide +kernel
theorem dX4_tryToShow_86 : decode cX4_tryToShow 86 = .ok (.aload_n 0, 1) := by decide +kernel
theorem dX4_tryToShow_87 : decode cX4_tryToShow 87 = .ok (.getfield 42, 3) := by decide +kernel
theorem dX4_tryToShow_90 : decode cX4_tryToShow 90 = .ok (.getfield 98, 3) := by decide +kernel
theorem dX4_tryToShow_93 : decode cX4_tryToShow 93 = .ok (.ifCond .eq 66, 3) := by decide +kernel
theorem dX4_tryToShow_96 : decode cX4_tryToShow 96 = .ok (.aload_n 0, 1) := by decide +kernel
theorem dX4_tryToShow_97 : decode cX4_tryToShow 97 = .ok (.aload_n 1, 1) := by decide +kernel
theorem dX4_tryToShow_98 : decode cX4_tryToShow 98 = .ok (.iload_n 2, 1) := by decide +kernel
theorem dX4_tryToShow_99 : decode cX4_tryToShow 99 = .ok (.invokevirtual 102, 3) := by decide +kernel
theorem dX4_tryToShow_102 : decode cX4_tryToShow 102 = .ok (.ifCond .eq 55, 3) := by decide +kernel
theorem dX4_tryToShow_105 : decode cX4_tryToShow 105 = .ok (.aload_n 0, 1) := by decide +kernel
theorem dX4_tryToShow_106 : decode cX4_tryToShow 106 = .ok (.getfield 20, 3) := by decide +kernel
theorem dX4_tryToShow_109 : decode cX4_tryToShow 109 = .ok (.iload_n 2, 1) := by decide +kernel
theorem dX4_tryToShow_110 : decode cX4_tryToShow 110 = .ok (.aload_n 0, 1) := by decide +kernel
theorem dX4_tryToShow_111 : decode cX4_tryToShow 111 = .ok (.getfield 35, 3) := by decide +kernel
theorem dX4_tryToShow_114 : decode cX4_tryToShow 114 = .ok (.getfield 93, 3) := by decide +kernel
theorem dX4_tryToShow_117 : decode cX4_tryToShow 117 = .ok (.iload 4, 2) := by decide +kernel
theorem dX4_tryToShow_119 : decode cX4_tryToShow 119 = .ok (.invokevirtual 54, 3) := by decide +kernel
theorem dX4_tryToShow_122 : decode cX4_tryToShow 122 = .ok (.invokevirtual 62, 3) := by decide +kernel
theorem dX4_tryToShow_125 : decode cX4_tryToShow 125 = .ok (.aload_n 0, 1) := by decide +kernel
theorem dX4_tryToShow_126 : decode cX4_tryToShow 126 = .ok (.getfield 23, 3) := by decide +kernel
theorem dX4_tryToShow_129 : decode cX4_tryToShow 129 = .ok (.iload_n 2, 1) := by decide +kernel
theorem dX4_tryToShow_130 : decode cX4_tryToShow 130 = .ok (.aload_n 0, 1) := by decide +kernel
theorem dX4_tryToShow_131 : decode cX4_tryToShow 131 = .ok (.getfield 42, 3) := by decide +kernel
theorem dX4_tryToShow_134 : decode cX4_tryToShow 134 = .ok (.getfield 106, 3) := by decide +kernel
theorem dX4_tryToShow_137 : decode cX4_tryToShow 137 = .ok (.invokevirtual 62, 3) := by decide +kernel
theorem dX4_tryToShow_140 : decode cX4_tryToShow 140 = .ok (.aload_n 0, 1) := by decide +kernel
theorem dX4_tryToShow_141 : decode cX4_tryToShow 141 = .ok (.getfield 26, 3) := by decide +kernel
theorem dX4_tryToShow_144 : decode cX4_tryToShow 144 = .ok (.iload_n 2, 1) := by decide +kernel
theorem dX4_tryToShow_145 : decode cX4_tryToShow 145 = .ok (.aload_n 0, 1) := by decide +kernel
theorem dX4_tryToShow_146 : decode cX4_tryToShow 146 = .ok (.getfield 42, 3) := by decide +kernel
theorem dX4_tryToShow_149 : decode cX4_tryToShow 149 = .ok (.getfield 109, 3) := by decide +kernel
theorem dX4_tryToShow_152 : decode cX4_tryToShow 152 = .ok (.invokevirtual 62, 3) := by decide +kernel
theorem dX4_tryToShow_155 : decode cX4_tryToShow 155 = .ok (.iconst 0, 1) := by decide +kernel
theorem dX4_tryToShow_156 : decode cX4_tryToShow 156 = .ok (.ireturn, 1) := by decide +kernel
theorem dX4_tryToShow_157 : decode cX4_tryToShow 157 = .ok (.iconst 4, 1) := by decide +kernel
theorem dX4_tryToShow_158 : decode cX4_tryToShow 158 = .ok (.istore_n 3, 1) := by decide +kernel
theorem dX4_tryToShow_159 : decode cX4_tryToShow 159 = .ok (.iinc 4 1, 3) := by decide +kernel
theorem dX4_tryToShow_162 : decode cX4_tryToShow 162 = .ok (.goto (-119), 3) := by decide +kernel
theorem dX4_tryToShow_165 : decode cX4_tryToShow 165 = .ok (.iload_n 3, 1) := by decide +kernel
theorem dX4_tryToShow_166 : decode cX4_tryToShow 166 = .ok (.ireturn, 1) := by decide +kernel
theorem dX4_isFree_0 : decode cX4_isFree 0 = .ok (.aload_n 1, 1) := by decide +kernel
theorem dX4_isFree_1 : decode cX4_isFree 1 = .ok (.iload_n 2, 1) := by decide +kernel
theorem dX4_isFree_2 : decode cX4_isFree 2 = .ok (.iconst 1, 1) := by decide +kernel
theorem dX4_isFree_3 : decode cX4_isFree 3 = .ok (.invokevirtual 76, 3) := by decide +kernel
theorem dX4_isFree_6 : decode cX4_isFree 6 = .ok (.istore_n 3, 1) := by decide +kernel
theorem dX4_isFree_7 : decode cX4_isFree 7 = .ok (.aload_n 1, 1) := by decide +kernel
theorem dX4_isFree_8 : decode cX4_isFree 8 = .ok (.iload_n 2, 1) := by decide +kernel
theorem dX4_isFree_9 : decode cX4_isFree 9 = .ok (.iconst 2, 1) := by decide +kernel
theorem dX4_isFree_10 : decode cX4_isFree 10 = .ok (.invokevirtual 76, 3) := by decide +kernel
theorem dX4_isFree_13 : decode cX4_isFree 13 = .ok (.istore 4, 2) := by decide +kernel
theorem dX4_isFree_15 : decode cX4_isFree 15 = .ok (.aload_n 0, 1) := by decide +kernel
theorem dX4_isFree_16 : decode cX4_isFree 16 = .ok (.aload_n 1, 1) := by decide +kernel
theorem dX4_isFree_17 : decode cX4_isFree 17 = .ok (.aload_n 0, 1) := by decide +kernel
theorem dX4_isFree_18 : decode cX4_isFree 18 = .ok (.getfield 42, 3) := by decide +kernel
theorem dX4_isFree_21 : decode cX4_isFree 21 = .ok (.getfield 106, 3) := by decide +kernel
theorem dX4_isFree_24 : decode cX4_isFree 24 = .ok (.aload_n 0, 1) := by decide +kernel
theorem dX4_isFree_25 : decode cX4_isFree 25 = .ok (.getfield 42, 3) := by decide +kernel
theorem dX4_isFree_28 : decode cX4_isFree 28 = .ok (.getfield 109, 3) := by decide +kernel
theorem dX4_isFree_31 : decode cX4_isFree 31 = .ok (.iload_n 3, 1) := by decide +kernel
theorem dX4_isFree_32 : decode cX4_isFree 32 = .ok (.iload 4, 2) := by decide +kernel
theorem dX4_isFree_34 : decode cX4_isFree 34 = .ok (.invokevirtual 112, 3) := by decide +kernel
theorem dX4_isFree_37 : decode cX4_isFree 37 = .ok (.ifCond .lt 5, 3) := by decide +kernel
theorem dX4_isFree_40 : decode cX4_isFree 40 = .ok (.iconst 0, 1) := by decide +kernel
theorem dX4_isFree_41 : decode cX4_isFree 41 = .ok (.ireturn, 1) := by decide +kernel
theorem dX4_isFree_42 : decode cX4_isFree 42 = .ok (.aload_n 1, 1) := by decide +kernel
theorem dX4_isFree_43 : decode cX4_isFree 43 = .ok (.iconst 4, 1) := by decide +kernel
theorem dX4_isFree_44 : decode cX4_isFree 44 = .ok (.invokevirtual 83, 3) := by decide +kernel
theorem dX4_isFree_47 : decode cX4_isFree 47 = .ok (.ifCond .ne 5, 3) := by decide +kernel
theorem dX4_isFree_50 : decode cX4_isFree 50 = .ok (.iconst 1, 1) := by decide +kernel
theorem dX4_isFree_51 : decode cX4_isFree 51 = .ok (.ireturn, 1) := by decide +kernel
theorem dX4_isFree_52 : decode cX4_isFree 52 = .ok (.iconst 0, 1) := by decide +kernel
theorem dX4_isFree_53 : decode cX4_isFree 53 = .ok (.istore 5, 2) := by decide +kernel
theorem dX4_isFree_55 : decode cX4_isFree 55 = .ok (.iload 5, 2) := by decide +kernel
theorem dX4_isFree_57 : decode cX4_isFree 57 = .ok (.aload_n 1, 1) := by decide +kernel
theorem dX4_isFree_58 : decode cX4_isFree 58 = .ok (.iconst 4, 1) := by decide +kernel
theorem dX4_isFree_59 : decode cX4_isFree 59 = .ok (.invokevirtual 66, 3) := by decide +kernel
theorem dX4_isFree_62 : decode cX4_isFree 62 = .ok (.if_icmp .ge 37, 3) := by decide +kernel
theorem dX4_isFree_65 : decode cX4_isFree 65 = .ok (.aload_n 1, 1) := by decide +kernel
theorem dX4_isFree_66 : decode cX4_isFree 66 = .ok (.iload 5, 2) := by decide +kernel
theorem dX4_isFree_68 : decode cX4_isFree 68 = .ok (.aload_n 0, 1) := by decide +kernel
theorem dX4_isFree_69 : decode cX4_isFree 69 = .ok (.getfield 42, 3) := by decide +kernel
theorem dX4_isFree_72 : decode cX4_isFree 72 = .ok (.getfield 106, 3) := by decide +kernel
theorem dX4_isFree_75 : decode cX4_isFree 75 = .ok (.aload_n 0, 1) := by decide +kernel
theorem dX4_isFree_76 : decode cX4_isFree 76 = .ok (.getfield 42, 3) := by decide +kernel
theorem dX4_isFree_79 : decode cX4_isFree 79 = .ok (.getfield 109, 3) := by decide +kernel
theorem dX4_isFree_82 : decode cX4_isFree 82 = .ok (.iload_n 3, 1) := by decide +kernel
theorem dX4_isFree_83 : decode cX4_isFree 83 = .ok (.iload 4, 2) := by decide +kernel
theorem dX4_isFree_85 : decode cX4_isFree 85 = .ok (.invokevirtual 116, 3) := by decide +kernel
theorem dX4_isFree_88 : decode cX4_isFree 88 = .ok (.ifCond .eq 5, 3) := by decide +kernel
theorem dX4_isFree_91 : decode cX4_isFree 91 = .ok (.iconst 0, 1) := by decide +kernel
theorem dX4_isFree_92 : decode cX4_isFree 92 = .ok (.ireturn, 1) := by decide +kernel
theorem dX4_isFree_93 : decode cX4_isFree 93 = .ok (.iinc 5 1, 3) := by decide +kernel
theorem dX4_isFree_96 : decode cX4_isFree 96 = .ok (.goto (-41), 3) := by decide +kernel
theorem dX4_isFree_99 : decode cX4_isFree 99 = .ok (.iconst 1, 1) := by decide +kernel
theorem dX4_isFree_100 : decode cX4_isFree 100 = .ok (.ireturn, 1) := by decide +kernel
theorem dX4_shownThatMeets_0 : decode cX4_shownThatMeets 0 = .ok (.iconst 0, 1) := by decide +kernel
theorem dX4_shownThatMeets_1 : decode cX4_shownThatMeets 1 = .ok (.istore 6, 2) := by decide +kernel
theorem dX4_shownThatMeets_3 : decode cX4_shownThatMeets 3 = .ok (.iload 6, 2) := by decide +kernel
theorem dX4_shownThatMeets_5 : decode cX4_shownThatMeets 5 = .ok (.aload_n 1, 1) := by decide +kernel
theorem dX4_shownThatMeets_6 : decode cX4_shownThatMeets 6 = .ok (.iconst 5, 1) := by decide +kernel
theorem dX4_shownThatMeets_7 : decode cX4_shownThatMeets 7 = .ok (.invokevirtual 66, 3) := by decide +kernel
theorem dX4_shownThatMeets_10 : decode cX4_shownThatMeets 10 = .ok (.if_icmp .ge 74, 3) := by decide +kernel
theorem dX4_shownThatMeets_13 : decode cX4_shownThatMeets 13 = .ok (.aload_n 0, 1) := by decide +kernel
theorem dX4_shownThatMeets_14 : decode cX4_shownThatMeets 14 = .ok (.getfield 14, 3) := by decide +kernel
theorem dX4_shownThatMeets_17 : decode cX4_shownThatMeets 17 = .ok (.iload 6, 2) := by decide +kernel
theorem dX4_shownThatMeets_19 : decode cX4_shownThatMeets 19 = .ok (.invokevirtual 54, 3) := by decide +kernel
theorem dX4_shownThatMeets_22 : decode cX4_shownThatMeets 22 = .ok (.ifCond .ne 56, 3) := by decide +kernel
theorem dX4_shownThatMeets_25 : decode cX4_shownThatMeets 25 = .ok (.aload_n 0, 1) := by decide +kernel
theorem dX4_shownThatMeets_26 : decode cX4_shownThatMeets 26 = .ok (.getfield 23, 3) := by decide +kernel
theorem dX4_shownThatMeets_29 : decode cX4_shownThatMeets 29 = .ok (.iload 6, 2) := by decide +kernel
theorem dX4_shownThatMeets_31 : decode cX4_shownThatMeets 31 = .ok (.invokevirtual 54, 3) := by decide +kernel
theorem dX4_shownThatMeets_34 : decode cX4_shownThatMeets 34 = .ok (.aload_n 1, 1) := by decide +kernel
theorem dX4_shownThatMeets_35 : decode cX4_shownThatMeets 35 = .ok (.iload 6, 2) := by decide +kernel
theorem dX4_shownThatMeets_37 : decode cX4_shownThatMeets 37 = .ok (.iconst 1, 1) := by decide +kernel
theorem dX4_shownThatMeets_38 : decode cX4_shownThatMeets 38 = .ok (.invokevirtual 76, 3) := by decide +kernel
theorem dX4_shownThatMeets_41 : decode cX4_shownThatMeets 41 = .ok (.iload_n 2, 1) := by decide +kernel
theorem dX4_shownThatMeets_42 : decode cX4_shownThatMeets 42 = .ok (.iload 4, 2) := by decide +kernel
theorem dX4_shownThatMeets_44 : decode cX4_shownThatMeets 44 = .ok (.invokestatic 120, 3) := by decide +kernel
theorem dX4_shownThatMeets_47 : decode cX4_shownThatMeets 47 = .ok (.ifCond .eq 31, 3) := by decide +kernel
theorem dX4_shownThatMeets_50 : decode cX4_shownThatMeets 50 = .ok (.aload_n 0, 1) := by decide +kernel
theorem dX4_shownThatMeets_51 : decode cX4_shownThatMeets 51 = .ok (.getfield 26, 3) := by decide +kernel
theorem dX4_shownThatMeets_54 : decode cX4_shownThatMeets 54 = .ok (.iload 6, 2) := by decide +kernel
theorem dX4_shownThatMeets_56 : decode cX4_shownThatMeets 56 = .ok (.invokevirtual 54, 3) := by decide +kernel
theorem dX4_shownThatMeets_59 : decode cX4_shownThatMeets 59 = .ok (.aload_n 1, 1) := by decide +kernel
theorem dX4_shownThatMeets_60 : decode cX4_shownThatMeets 60 = .ok (.iload 6, 2) := by decide +kernel
theorem dX4_shownThatMeets_62 : decode cX4_shownThatMeets 62 = .ok (.iconst 2, 1) := by decide +kernel
theorem dX4_shownThatMeets_63 : decode cX4_shownThatMeets 63 = .ok (.invokevirtual 76, 3) := by decide +kernel
theorem dX4_shownThatMeets_66 : decode cX4_shownThatMeets 66 = .ok (.iload_n 3, 1) := by decide +kernel
theorem dX4_shownThatMeets_67 : decode cX4_shownThatMeets 67 = .ok (.iload 5, 2) := by decide +kernel
theorem dX4_shownThatMeets_69 : decode cX4_shownThatMeets 69 = .ok (.invokestatic 120, 3) := by decide +kernel
theorem dX4_shownThatMeets_72 : decode cX4_shownThatMeets 72 = .ok (.ifCond .eq 6, 3) := by decide +kernel
theorem dX4_shownThatMeets_75 : decode cX4_shownThatMeets 75 = .ok (.iload 6, 2) := by decide +kernel
theorem dX4_shownThatMeets_77 : decode cX4_shownThatMeets 77 = .ok (.ireturn, 1) := by decide +kernel
theorem dX4_shownThatMeets_78 : decode cX4_shownThatMeets 78 = .ok (.iinc 6 1, 3) := by decide +kernel
theorem dX4_shownThatMeets_81 : decode cX4_shownThatMeets 81 = .ok (.goto (-78), 3) := by decide +kernel
theorem dX4_shownThatMeets_84 : decode cX4_shownThatMeets 84 = .ok (.iconst (-1), 1) := by decide +kernel
theorem dX4_shownThatMeets_85 : decode cX4_shownThatMeets 85 = .ok (.ireturn, 1) := by decide +kernel
theorem dX5_init_0 : decode cX5_init 0 = .ok (.aload_n 0, 1) := by decide +kernel
theorem dX5_init_1 : decode cX5_init 1 = .ok (.invokespecial 3, 3) := by decide +kernel
theorem dX5_init_4 : decode cX5_init 4 = .ok (.aload_n 0, 1) := by decide +kernel
theorem dX5_init_5 : decode cX5_init 5 = .ok (.new 9, 3) := by decide +kernel
theorem dX5_init_8 : decode cX5_init 8 = .ok (.dup, 1) := by decide +kernel
theorem dX5_init_9 : decode cX5_init 9 = .ok (.sipush 172, 3) := by decide +kernel
theorem dX5_init_12 : decode cX5_init 12 = .ok (.invokespecial 11, 3) := by decide +kernel
theorem dX5_init_15 : decode cX5_init 15 = .ok (.putfield 14, 3) := by decide +kernel
theorem dX5_init_18 : decode cX5_init 18 = .ok (.aload_n 0, 1) := by decide +kernel
theorem dX5_init_19 : decode cX5_init 19 = .ok (.getfield 14, 3) := by decide +kernel
theorem dX5_init_22 : decode cX5_init 22 = .ok (.iconst 2, 1) := by decide +kernel
theorem dX5_init_23 : decode cX5_init 23 = .ok (.sipush 200, 3) := by decide +kernel
theorem dX5_init_26 : decode cX5_init 26 = .ok (.invokevirtual 20, 3) := by decide +kernel
theorem dX5_init_29 : decode cX5_init 29 = .ok (.aload_n 0, 1) := by decide +kernel
theorem dX5_init_30 : decode cX5_init 30 = .ok (.getfield 14, 3) := by decide +kernel
theorem dX5_init_33 : decode cX5_init 33 = .ok (.iconst 3, 1) := by decide +kernel
theorem dX5_init_34 : decode cX5_init 34 = .ok (.bipush 120, 2) := by decide +kernel
theorem dX5_init_36 : decode cX5_init 36 = .ok (.invokevirtual 20, 3) := by decide +kernel
theorem dX5_init_39 : decode cX5_init 39 = .ok (.aload_n 0, 1) := by decide +kernel
theorem dX5_init_40 : decode cX5_init 40 = .ok (.getfield 14, 3) := by decide +kernel
theorem dX5_init_43 : decode cX5_init 43 = .ok (.bipush 7, 2) := by decide +kernel
theorem dX5_init_45 : decode cX5_init 45 = .ok (.iconst 4, 1) := by decide +kernel
theorem dX5_init_46 : decode cX5_init 46 = .ok (.invokevirtual 20, 3) := by decide +kernel
theorem dX5_init_49 : decode cX5_init 49 = .ok (.aload_n 0, 1) := by decide +kernel
theorem dX5_init_50 : decode cX5_init 50 = .ok (.getfield 14, 3) := by decide +kernel
theorem dX5_init_53 : decode cX5_init 53 = .ok (.bipush 8, 2) := by decide +kernel
theorem dX5_init_55 : decode cX5_init 55 = .ok (.bipush 6, 2) := by decide +kernel
theorem dX5_init_57 : decode cX5_init 57 = .ok (.invokevirtual 20, 3) := by decide +kernel
theorem dX5_init_60 : decode cX5_init 60 = .ok (.aload_n 0, 1) := by decide +kernel
theorem dX5_init_61 : decode cX5_init 61 = .ok (.getfield 14, 3) := by decide +kernel
theorem dX5_init_64 : decode cX5_init 64 = .ok (.bipush 9, 2) := by decide +kernel
theorem dX5_init_66 : decode cX5_init 66 = .ok (.iconst 3, 1) := by decide +kernel
theorem dX5_init_67 : decode cX5_init 67 = .ok (.invokevirtual 20, 3) := by decide +kernel
theorem dX5_init_70 : decode cX5_init 70 = .ok (.aload_n 0, 1) := by decide +kernel
theorem dX5_init_71 : decode cX5_init 71 = .ok (.getfield 14, 3) := by decide +kernel
theorem dX5_init_74 : decode cX5_init 74 = .ok (.bipush 10, 2) := by decide +kernel
theorem dX5_init_76 : decode cX5_init 76 = .ok (.iconst 1, 1) := by decide +kernel
theorem dX5_init_77 : decode cX5_init 77 = .ok (.invokevirtual 20, 3) := by decide +kernel
theorem dX5_init_80 : decode cX5_init 80 = .ok (.return_, 1) := by decide +kernel
theorem dX5_get_0 : decode cX5_get 0 = .ok (.aload_n 0, 1) := by decide +kernel
theorem dX5_get_1 : decode cX5_get 1 = .ok (.getfield 14, 3) := by decide +kernel
theorem dX5_get_4 : decode cX5_get 4 = .ok (.iload_n 1, 1) := by decide +kernel
theorem dX5_get_5 : decode cX5_get 5 = .ok (.invokevirtual 24, 3) := by decide +kernel
theorem dX5_get_8 : decode cX5_get 8 = .ok (.ireturn, 1) := by decide +kernel
theorem dX5_put_0 : decode cX5_put 0 = .ok (.aload_n 0, 1) := by decide +kernel
theorem dX5_put_1 : decode cX5_put 1 = .ok (.getfield 14, 3) := by decide +kernel
theorem dX5_put_4 : decode cX5_put 4 = .ok (.iload_n 1, 1) := by decide +kernel
theorem dX5_put_5 : decode cX5_put 5 = .ok (.iload_n 2, 1) := by decide +kernel
theorem dX5_put_6 : decode cX5_put 6 = .ok (.invokevirtual 20, 3) := by decide +kernel
theorem dX5_put_9 : decode cX5_put 9 = .ok (.return_, 1) := by decide +kernel
theorem dX5_setting_0 : decode cX5_setting 0 = .ok (.aload_n 0, 1) := by decide +kernel
theorem dX5_setting_1 : decode cX5_setting 1 = .ok (.getfield 14, 3) := by decide +kernel
theorem dX5_setting_4 : decode cX5_setting 4 = .ok (.bipush 7, 2) := by decide +kernel
theorem dX5_setting_6 : decode cX5_setting 6 = .ok (.iload_n 1, 1) := by decide +kernel
theorem dX5_setting_7 : decode cX5_setting 7 = .ok (.iadd, 1) := by decide +kernel
theorem dX5_setting_8 : decode cX5_setting 8 = .ok (.invokevirtual 24, 3) := by decide +kernel
theorem dX5_setting_11 : decode cX5_setting 11 = .ok (.ireturn, 1) := by decide +kernel
theorem dX5_anchorValue_0 : decode cX5_anchorValue 0 = .ok (.aload_n 0, 1) := by decide +kernel
theorem dX5_anchorValue_1 : decode cX5_anchorValue 1 = .ok (.getfield 14, 3) := by decide +kernel
theorem dX5_anchorValue_4 : decode cX5_anchorValue 4 = .ok (.bipush 12, 2) := by decide +kernel
theorem dX5_anchorValue_6 : decode cX5_anchorValue 6 = .ok (.iload_n 1, 1) := by decide +kernel
theorem dX5_anchorValue_7 : decode cX5_anchorValue 7 = .ok (.iconst 4, 1) := by decide +kernel
theorem dX5_anchorValue_8 : decode cX5_anchorValue 8 = .ok (.imul, 1) := by decide +kernel
theorem dX5_anchorValue_9 : decode cX5_anchorValue 9 = .ok (.iadd, 1) := by decide +kernel
theorem dX5_anchorValue_10 : decode cX5_anchorValue 10 = .ok (.iload_n 2, 1) := by decide +kernel
theorem dX5_anchorValue_11 : decode cX5_anchorValue 11 = .ok (.iadd, 1) := by decide +kernel
theorem dX5_anchorValue_12 : decode cX5_anchorValue 12 = .ok (.invokevirtual 24, 3) := by decide +kernel
theorem dX5_anchorValue_15 : decode cX5_anchorValue 15 = .ok (.ireturn, 1) := by decide +kernel
theorem dX5_putAnchorValue_0 : decode cX5_putAnchorValue 0 = .ok (.aload_n 0, 1) := by decide +kernel
theorem dX5_putAnchorValue_1 : decode cX5_putAnchorValue 1 = .ok (.getfield 14, 3) := by decide +kernel
theorem dX5_putAnchorValue_4 : decode cX5_putAnchorValue 4 = .ok (.bipush 12, 2) := by decide +kernel
theorem dX5_putAnchorValue_6 : decode cX5_putAnchorValue 6 = .ok (.iload_n 1, 1) := by decide +kernel
theorem dX5_putAnchorValue_7 : decode cX5_putAnchorValue 7 = .ok (.iconst 4, 1) := by decide +kernel
theorem dX5_putAnchorValue_8 : decode cX5_putAnchorValue 8 = .ok (.imul, 1) := by decide +kernel
theorem dX5_putAnchorValue_9 : decode cX5_putAnchorValue 9 = .ok (.iadd, 1) := by decide +kernel
theorem dX5_putAnchorValue_10 : decode cX5_putAnchorValue 10 = .ok (.iload_n 2, 1) := by decide +kernel
theorem dX5_putAnchorValue_11 : decode cX5_putAnchorValue 11 = .ok (.iadd, 1) := by decide +kernel
theorem dX5_putAnchorValue_12 : decode cX5_putAnchorValue 12 = .ok (.iload_n 3, 1) := by decide +kernel
theorem dX5_putAnchorValue_13 : decode cX5_putAnchorValue 13 = .ok (.invokevirtual 20, 3) := by decide +kernel
theorem dX5_putAnchorValue_16 : decode cX5_putAnchorValue 16 = .ok (.return_, 1) := by decide +kernel
theorem dX5_hintValue_0 : decode cX5_hintValue 0 = .ok (.aload_n 0, 1) := by decide +kernel
theorem dX5_hintValue_1 : decode cX5_hintValue 1 = .ok (.getfield 14, 3) := by decide +kernel
theorem dX5_hintValue_4 : decode cX5_hintValue 4 = .ok (.bipush 52, 2) := by decide +kernel
theorem dX5_hintValue_6 : decode cX5_hintValue 6 = .ok (.iload_n 1, 1) := by decide +kernel
theorem dX5_hintValue_7 : decode cX5_hintValue 7 = .ok (.bipush 10, 2) := by decide +kernel
theorem dX5_hintValue_9 : decode cX5_hintValue 9 = .ok (.imul, 1) := by decide +kernel
theorem dX5_hintValue_10 : decode cX5_hintValue 10 = .ok (.iadd, 1) := by decide +kernel
theorem dX5_hintValue_11 : decode cX5_hintValue 11 = .ok (.iload_n 2, 1) := by decide +kernel
theorem dX5_hintValue_12 : decode cX5_hintValue 12 = .ok (.iadd, 1) := by decide +kernel
theorem dX5_hintValue_13 : decode cX5_hintValue 13 = .ok (.invokevirtual 24, 3) := by decide +kernel
theorem dX5_hintValue_16 : decode cX5_hintValue 16 = .ok (.ireturn, 1) := by decide +kernel
theorem dX5_putHintValue_0 : decode cX5_putHintValue 0 = .ok (.aload_n 0, 1) := by decide +kernel
theorem dX5_putHintValue_1 : decode cX5_putHintValue 1 = .ok (.getfield 14, 3) := by decide +kernel
theorem dX5_putHintValue_4 : decode cX5_putHintValue 4 = .ok (.bipush 52, 2) := by decide +kernel
theorem dX5_putHintValue_6 : decode cX5_putHintValue 6 = .ok (.iload_n 1, 1) := by decide +kernel
theorem dX5_putHintValue_7 : decode cX5_putHintValue 7 = .ok (.bipush 10, 2) := by decide +kernel
theorem dX5_putHintValue_9 : decode cX5_putHintValue 9 = .ok (.imul, 1) := by decide +kernel
theorem dX5_putHintValue_10 : decode cX5_putHintValue 10 = .ok (.iadd, 1) := by decide +kernel
theorem dX5_putHintValue_11 : decode cX5_putHintValue 11 = .ok (.iload_n 2, 1) := by decide +kernel
theorem dX5_putHintValue_12 : decode cX5_putHintValue 12 = .ok (.iadd, 1) := by decide +kernel
theorem dX5_putHintValue_13 : decode cX5_putHintValue 13 = .ok (.iload_n 3, 1) := by decide +kernel
theorem dX5_putHintValue_14 : decode cX5_putHintValue 14 = .ok (.invokevirtual 20, 3) := by decide +kernel
theorem dX5_putHintValue_17 : decode cX5_putHintValue 17 = .ok (.return_, 1) := by decide +kernel
theorem dX5_isOpen_0 : decode cX5_isOpen 0 = .ok (.aload_n 0, 1) := by decide +kernel
theorem dX5_isOpen_1 : decode cX5_isOpen 1 = .ok (.iload_n 1, 1) := by decide +kernel
theorem dX5_isOpen_2 : decode cX5_isOpen 2 = .ok (.bipush 8, 2) := by decide +kernel
theorem dX5_isOpen_4 : decode cX5_isOpen 4 = .ok (.invokevirtual 28, 3) := by decide +kernel
theorem dX5_isOpen_7 : decode cX5_isOpen 7 = .ok (.ifCond .eq 7, 3) := by decide +kernel
theorem dX5_isOpen_10 : decode cX5_isOpen 10 = .ok (.iconst 1, 1) := by decide +kernel
theorem dX5_isOpen_11 : decode cX5_isOpen 11 = .ok (.goto 4, 3) := by decide +kernel
theorem dX5_isOpen_14 : decode cX5_isOpen 14 = .ok (.iconst 0, 1) := by decide +kernel
theorem dX5_isOpen_15 : decode cX5_isOpen 15 = .ok (.ireturn, 1) := by decide +kernel
theorem dX5_isAnchorInSight_0 : decode cX5_isAnchorInSight 0 = .ok (.aload_n 0, 1) := by decide +kernel
theorem dX5_isAnchorInSight_1 : decode cX5_isAnchorInSight 1 = .ok (.iload_n 1, 1) := by decide +kernel
theorem dX5_isAnchorInSight_2 : decode cX5_isAnchorInSight 2 = .ok (.aload_n 0, 1) := by decide +kernel
theorem dX5_isAnchorInSight_3 : decode cX5_isAnchorInSight 3 = .ok (.iconst 0, 1) := by decide +kernel
theorem dX5_isAnchorInSight_4 : decode cX5_isAnchorInSight 4 = .ok (.invokevirtual 32, 3) := by decide +kernel
theorem dX5_isAnchorInSight_7 : decode cX5_isAnchorInSight 7 = .ok (.aload_n 0, 1) := by decide +kernel
theorem dX5_isAnchorInSight_8 : decode cX5_isAnchorInSight 8 = .ok (.iconst 1, 1) := by decide +kernel
theorem dX5_isAnchorInSight_9 : decode cX5_isAnchorInSight 9 = .ok (.invokevirtual 32, 3) := by decide +kernel
theorem dX5_isAnchorInSight_12 : decode cX5_isAnchorInSight 12 = .ok (.aload_n 0, 1) := by decide +kernel
theorem dX5_isAnchorInSight_13 : decode cX5_isAnchorInSight 13 = .ok (.iconst 2, 1) := by decide +kernel
theorem dX5_isAnchorInSight_14 : decode cX5_isAnchorInSight 14 = .ok (.invokevirtual 32, 3) := by decide +kernel
theorem dX5_isAnchorInSight_17 : decode cX5_isAnchorInSight 17 = .ok (.aload_n 0, 1) := by decide +kernel
theorem dX5_isAnchorInSight_18 : decode cX5_isAnchorInSight 18 = .ok (.iconst 3, 1) := by decide +kernel
theorem dX5_isAnchorInSight_19 : decode cX5_isAnchorInSight 19 = .ok (.invokevirtual 32, 3) := by decide +kernel
theorem dX5_isAnchorInSight_22 : decode cX5_isAnchorInSight 22 = .ok (.invokevirtual 33, 3) := by decide +kernel
theorem dX5_isAnchorInSight_25 : decode cX5_isAnchorInSight 25 = .ok (.ireturn, 1) := by decide +kernel
theorem dX5_anchorMeets_0 : decode cX5_anchorMeets 0 = .ok (.aload_n 0, 1) := by decide +kernel
theorem dX5_anchorMeets_1 : decode cX5_anchorMeets 1 = .ok (.iload_n 1, 1) := by decide +kernel
theorem dX5_anchorMeets_2 : decode cX5_anchorMeets 2 = .ok (.iconst 0, 1) := by decide +kernel
theorem dX5_anchorMeets_3 : decode cX5_anchorMeets 3 = .ok (.invokevirtual 37, 3) := by decide +kernel
theorem dX5_anchorMeets_6 : decode cX5_anchorMeets 6 = .ok (.aload_n 0, 1) := by decide +kernel
theorem dX5_anchorMeets_7 : decode cX5_anchorMeets 7 = .ok (.iload_n 1, 1) := by decide +kernel
theorem dX5_anchorMeets_8 : decode cX5_anchorMeets 8 = .ok (.iconst 2, 1) := by decide +kernel
theorem dX5_anchorMeets_9 : decode cX5_anchorMeets 9 = .ok (.invokevirtual 37, 3) := by decide +kernel
theorem dX5_anchorMeets_12 : decode cX5_anchorMeets 12 = .ok (.iload_n 2, 1) := by decide +kernel
theorem dX5_anchorMeets_13 : decode cX5_anchorMeets 13 = .ok (.iload 4, 2) := by decide +kernel
theorem dX5_anchorMeets_15 : decode cX5_anchorMeets 15 = .ok (.invokestatic 40, 3) := by decide +kernel
theorem dX5_anchorMeets_18 : decode cX5_anchorMeets 18 = .ok (.ifCond .eq 28, 3) := by decide +kernel
theorem dX5_anchorMeets_21 : decode cX5_anchorMeets 21 = .ok (.aload_n 0, 1) := by decide +kernel
theorem dX5_anchorMeets_22 : decode cX5_anchorMeets 22 = .ok (.iload_n 1, 1) := by decide +kernel
theorem dX5_anchorMeets_23 : decode cX5_anchorMeets 23 = .ok (.iconst 1, 1) := by decide +kernel
theorem dX5_anchorMeets_24 : decode cX5_anchorMeets 24 = .ok (.invokevirtual 37, 3) := by decide +kernel
theorem dX5_anchorMeets_27 : decode cX5_anchorMeets 27 = .ok (.aload_n 0, 1) := by decide +kernel
theorem dX5_anchorMeets_28 : decode cX5_anchorMeets 28 = .ok (.iload_n 1, 1) := by decide +kernel
theorem dX5_anchorMeets_29 : decode cX5_anchorMeets 29 = .ok (.iconst 3, 1) := by decide +kernel
theorem dX5_anchorMeets_30 : decode cX5_anchorMeets 30 = .ok (.invokevirtual 37, 3) := by decide +kernel
theorem dX5_anchorMeets_33 : decode cX5_anchorMeets 33 = .ok (.iload_n 3, 1) := by decide +kernel
theorem dX5_anchorMeets_34 : decode cX5_anchorMeets 34 = .ok (.iload 5, 2) := by decide +kernel
theorem dX5_anchorMeets_36 : decode cX5_anchorMeets 36 = .ok (.invokestatic 40, 3) := by decide +kernel
theorem dX5_anchorMeets_39 : decode cX5_anchorMeets 39 = .ok (.ifCond .eq 7, 3) := by decide +kernel
theorem dX5_anchorMeets_42 : decode cX5_anchorMeets 42 = .ok (.iconst 1, 1) := by decide +kernel
theorem dX5_anchorMeets_43 : decode cX5_anchorMeets 43 = .ok (.goto 4, 3) := by decide +kernel
theorem dX5_anchorMeets_46 : decode cX5_anchorMeets 46 = .ok (.iconst 0, 1) := by decide +kernel
theorem dX5_anchorMeets_47 : decode cX5_anchorMeets 47 = .ok (.ireturn, 1) := by decide +kernel
theorem dX5_turn_0 : decode cX5_turn 0 = .ok (.iconst 0, 1) := by decide +kernel
theorem dX5_turn_1 : decode cX5_turn 1 = .ok (.istore_n 2, 1) := by decide +kernel
theorem dX5_turn_2 : decode cX5_turn 2 = .ok (.iconst 0, 1) := by decide +kernel
theorem dX5_turn_3 : decode cX5_turn 3 = .ok (.istore_n 3, 1) := by decide +kernel
theorem dX5_turn_4 : decode cX5_turn 4 = .ok (.iload_n 3, 1) := by decide +kernel
theorem dX5_turn_5 : decode cX5_turn 5 = .ok (.aload_n 0, 1) := by decide +kernel
theorem dX5_turn_6 : decode cX5_turn 6 = .ok (.iconst 5, 1) := by decide +kernel
theorem dX5_turn_7 : decode cX5_turn 7 = .ok (.invokevirtual 32, 3) := by decide +kernel
theorem dX5_turn_10 : decode cX5_turn 10 = .ok (.if_icmp .ge 29, 3) := by decide +kernel
theorem dX5_turn_13 : decode cX5_turn 13 = .ok (.aload_n 0, 1) := by decide +kernel
theorem dX5_turn_14 : decode cX5_turn 14 = .ok (.iload_n 3, 1) := by decide +kernel
theorem dX5_turn_15 : decode cX5_turn 15 = .ok (.invokevirtual 44, 3) := by decide +kernel
theorem dX5_turn_18 : decode cX5_turn 18 = .ok (.ifCond .eq 15, 3) := by decide +kernel
theorem dX5_turn_21 : decode cX5_turn 21 = .ok (.aload_n 0, 1) := by decide +kernel
theorem dX5_turn_22 : decode cX5_turn 22 = .ok (.iload_n 3, 1) := by decide +kernel
theorem dX5_turn_23 : decode cX5_turn 23 = .ok (.iload_n 1, 1) := by decide +kernel
theorem dX5_turn_24 : decode cX5_turn 24 = .ok (.invokevirtual 48, 3) := by decide +kernel
theorem dX5_turn_27 : decode cX5_turn 27 = .ok (.ifCond .eq 6, 3) := by decide +kernel
theorem dX5_turn_30 : decode cX5_turn 30 = .ok (.iinc 2 1, 3) := by decide +kernel
theorem dX5_turn_33 : decode cX5_turn 33 = .ok (.iinc 3 1, 3) := by decide +kernel
theorem dX5_turn_36 : decode cX5_turn 36 = .ok (.goto (-32), 3) := by decide +kernel
theorem dX5_turn_39 : decode cX5_turn 39 = .ok (.iload_n 2, 1) := by decide +kernel
theorem dX5_turn_40 : decode cX5_turn 40 = .ok (.ireturn, 1) := by decide +kernel
theorem dX5_goesBefore_0 : decode cX5_goesBefore 0 = .ok (.aload_n 0, 1) := by decide +kernel
theorem dX5_goesBefore_1 : decode cX5_goesBefore 1 = .ok (.iload_n 1, 1) := by decide +kernel
theorem dX5_goesBefore_2 : decode cX5_goesBefore 2 = .ok (.bipush 7, 2) := by decide +kernel
theorem dX5_goesBefore_4 : decode cX5_goesBefore 4 = .ok (.invokevirtual 28, 3) := by decide +kernel
theorem dX5_goesBefore_7 : decode cX5_goesBefore 7 = .ok (.istore_n 3, 1) := by decide +kernel
theorem dX5_goesBefore_8 : decode cX5_goesBefore 8 = .ok (.aload_n 0, 1) := by decide +kernel
theorem dX5_goesBefore_9 : decode cX5_goesBefore 9 = .ok (.iload_n 2, 1) := by decide +kernel
theorem dX5_goesBefore_10 : decode cX5_goesBefore 10 = .ok (.bipush 7, 2) := by decide +kernel
theorem dX5_goesBefore_12 : decode cX5_goesBefore 12 = .ok (.invokevirtual 28, 3) := by decide +kernel
theorem dX5_goesBefore_15 : decode cX5_goesBefore 15 = .ok (.istore 4, 2) := by decide +kernel
theorem dX5_goesBefore_17 : decode cX5_goesBefore 17 = .ok (.iload_n 3, 1) := by decide +kernel
theorem dX5_goesBefore_18 : decode cX5_goesBefore 18 = .ok (.iload 4, 2) := by decide +kernel
theorem dX5_goesBefore_20 : decode cX5_goesBefore 20 = .ok (.if_icmp .eq 15, 3) := by decide +kernel
theorem dX5_goesBefore_23 : decode cX5_goesBefore 23 = .ok (.iload_n 3, 1) := by decide +kernel
theorem dX5_goesBefore_24 : decode cX5_goesBefore 24 = .ok (.iload 4, 2) := by decide +kernel
theorem dX5_goesBefore_26 : decode cX5_goesBefore 26 = .ok (.if_icmp .le 7, 3) := by decide +kernel
theorem dX5_goesBefore_29 : decode cX5_goesBefore 29 = .ok (.iconst 1, 1) := by decide +kernel
theorem dX5_goesBefore_30 : decode cX5_goesBefore 30 = .ok (.goto 4, 3) := by decide +kernel
theorem dX5_goesBefore_33 : decode cX5_goesBefore 33 = .ok (.iconst 0, 1) := by decide +kernel
theorem dX5_goesBefore_34 : decode cX5_goesBefore 34 = .ok (.ireturn, 1) := by decide +kernel
theorem dX5_goesBefore_35 : decode cX5_goesBefore 35 = .ok (.aload_n 0, 1) := by decide +kernel
theorem dX5_goesBefore_36 : decode cX5_goesBefore 36 = .ok (.iload_n 1, 1) := by decide +kernel
theorem dX5_goesBefore_37 : decode cX5_goesBefore 37 = .ok (.bipush 8, 2) := by decide +kernel
theorem dX5_goesBefore_39 : decode cX5_goesBefore 39 = .ok (.invokevirtual 28, 3) := by decide +kernel
theorem dX5_goesBefore_42 : decode cX5_goesBefore 42 = .ok (.aload_n 0, 1) := by decide +kernel
theorem dX5_goesBefore_43 : decode cX5_goesBefore 43 = .ok (.iload_n 2, 1) := by decide +kernel
theorem dX5_goesBefore_44 : decode cX5_goesBefore 44 = .ok (.bipush 8, 2) := by decide +kernel
theorem dX5_goesBefore_46 : decode cX5_goesBefore 46 = .ok (.invokevirtual 28, 3) := by decide +kernel
theorem dX5_goesBefore_49 : decode cX5_goesBefore 49 = .ok (.if_icmp .ge 7, 3) := by decide +kernel
theorem dX5_goesBefore_52 : decode cX5_goesBefore 52 = .ok (.iconst 1, 1) := by decide +kernel
theorem dX5_goesBefore_53 : decode cX5_goesBefore 53 = .ok (.goto 4, 3) := by decide +kernel
theorem dX5_goesBefore_56 : decode cX5_goesBefore 56 = .ok (.iconst 0, 1) := by decide +kernel
theorem dX5_goesBefore_57 : decode cX5_goesBefore 57 = .ok (.ireturn, 1) := by decide +kernel
theorem dX5_copyTo_0 : decode cX5_copyTo 0 = .ok (.iconst 0, 1) := by decide +kernel
theorem dX5_copyTo_1 : decode cX5_copyTo 1 = .ok (.istore_n 3, 1) := by decide +kernel
theorem dX5_copyTo_2 : decode cX5_copyTo 2 = .ok (.iload_n 3, 1) := by decide +kernel
theorem dX5_copyTo_3 : decode cX5_copyTo 3 = .ok (.sipush 172, 3) := by decide +kernel
theorem dX5_copyTo_6 : decode cX5_copyTo 6 = .ok (.if_icmp .ge 24, 3) := by decide +kernel
theorem dX5_copyTo_9 : decode cX5_copyTo 9 = .ok (.aload_n 1, 1) := by decide +kernel
theorem dX5_copyTo_10 : decode cX5_copyTo 10 = .ok (.iload_n 2, 1) := by decide +kernel
theorem dX5_copyTo_11 : decode cX5_copyTo 11 = .ok (.iload_n 3, 1) := by decide +kernel
theorem dX5_copyTo_12 : decode cX5_copyTo 12 = .ok (.iadd, 1) := by decide +kernel
theorem dX5_copyTo_13 : decode cX5_copyTo 13 = .ok (.aload_n 0, 1) := by decide +kernel
theorem dX5_copyTo_14 : decode cX5_copyTo 14 = .ok (.getfield 14, 3) := by decide +kernel
theorem dX5_copyTo_17 : decode cX5_copyTo 17 = .ok (.iload_n 3, 1) := by decide +kernel
theorem dX5_copyTo_18 : decode cX5_copyTo 18 = .ok (.invokevirtual 24, 3) := by decide +kernel
theorem dX5_copyTo_21 : decode cX5_copyTo 21 = .ok (.invokevirtual 20, 3) := by decide +kernel
theorem dX5_copyTo_24 : decode cX5_copyTo 24 = .ok (.iinc 3 1, 3) := by decide +kernel
theorem dX5_copyTo_27 : decode cX5_copyTo 27 = .ok (.goto (-25), 3) := by decide +kernel
theorem dX5_copyTo_30 : decode cX5_copyTo 30 = .ok (.return_, 1) := by decide +kernel
theorem dX5_copyFrom_0 : decode cX5_copyFrom 0 = .ok (.iconst 0, 1) := by decide +kernel
theorem dX5_copyFrom_1 : decode cX5_copyFrom 1 = .ok (.istore_n 3, 1) := by decide +kernel
theorem dX5_copyFrom_2 : decode cX5_copyFrom 2 = .ok (.iload_n 3, 1) := by decide +kernel
theorem dX5_copyFrom_3 : decode cX5_copyFrom 3 = .ok (.sipush 172, 3) := by decide +kernel
theorem dX5_copyFrom_6 : decode cX5_copyFrom 6 = .ok (.if_icmp .ge 24, 3) := by decide +kernel
theorem dX5_copyFrom_9 : decode cX5_copyFrom 9 = .ok (.aload_n 0, 1) := by decide +kernel
theorem dX5_copyFrom_10 : decode cX5_copyFrom 10 = .ok (.getfield 14, 3) := by decide +kernel
theorem dX5_copyFrom_13 : decode cX5_copyFrom 13 = .ok (.iload_n 3, 1) := by decide +kernel
theorem dX5_copyFrom_14 : decode cX5_copyFrom 14 = .ok (.aload_n 1, 1) := by decide +kernel
theorem dX5_copyFrom_15 : decode cX5_copyFrom 15 = .ok (.iload_n 2, 1) := by decide +kernel
theorem dX5_copyFrom_16 : decode cX5_copyFrom 16 = .ok (.iload_n 3, 1) := by decide +kernel
theorem dX5_copyFrom_17 : decode cX5_copyFrom 17 = .ok (.iadd, 1) := by decide +kernel
theorem dX5_copyFrom_18 : decode cX5_copyFrom 18 = .ok (.invokevirtual 24, 3) := by decide +kernel
theorem dX5_copyFrom_21 : decode cX5_copyFrom 21 = .ok (.invokevirtual 20, 3) := by decide +kernel
theorem dX5_copyFrom_24 : decode cX5_copyFrom 24 = .ok (.iinc 3 1, 3) := by decide +kernel
theorem dX5_copyFrom_27 : decode cX5_copyFrom 27 = .ok (.goto (-25), 3) := by decide +kernel
theorem dX5_copyFrom_30 : decode cX5_copyFrom 30 = .ok (.return_, 1) := by decide +kernel
theorem dX6_init_0 : decode cX6_init 0 = .ok (.aload_n 0, 1) := by decide +kernel
theorem dX6_init_1 : decode cX6_init 1 = .ok (.invokespecial 3, 3) := by decide +kernel
theorem dX6_init_4 : decode cX6_init 4 = .ok (.aload_n 0, 1) := by decide +kernel
theorem dX6_init_5 : decode cX6_init 5 = .ok (.new 9, 3) := by decide +kernel
theorem dX6_init_8 : decode cX6_init 8 = .ok (.dup, 1) := by decide +kernel
theorem dX6_init_9 : decode cX6_init 9 = .ok (.iconst 4, 1) := by decide +kernel
theorem dX6_init_10 : decode cX6_init 10 = .ok (.invokespecial 11, 3) := by decide +kernel
theorem dX6_init_13 : decode cX6_init 13 = .ok (.putfield 14, 3) := by decide +kernel
theorem dX6_init_16 : decode cX6_init 16 = .ok (.return_, 1) := by decide +kernel
theorem dX6_list_0 : decode cX6_list 0 = .ok (.aload_n 0, 1) := by decide +kernel
theorem dX6_list_1 : decode cX6_list 1 = .ok (.iconst 0, 1) := by decide +kernel
theorem dX6_list_2 : decode cX6_list 2 = .ok (.putfield 20, 3) := by decide +kernel
theorem dX6_list_5 : decode cX6_list 5 = .ok (.aload_n 1, 1) := by decide +kernel
theorem dX6_list_6 : decode cX6_list 6 = .ok (.iload_n 2, 1) := by decide +kernel
theorem dX6_list_7 : decode cX6_list 7 = .ok (.bipush 9, 2) := by decide +kernel
theorem dX6_list_9 : decode cX6_list 9 = .ok (.invokevirtual 24, 3) := by decide +kernel
theorem dX6_list_12 : decode cX6_list 12 = .ok (.istore_n 3, 1) := by decide +kernel
theorem dX6_list_13 : decode cX6_list 13 = .ok (.aload_n 1, 1) := by decide +kernel
theorem dX6_list_14 : decode cX6_list 14 = .ok (.iconst 3, 1) := by decide +kernel
theorem dX6_list_15 : decode cX6_list 15 = .ok (.invokevirtual 30, 3) := by decide +kernel
theorem dX6_list_18 : decode cX6_list 18 = .ok (.iconst 1, 1) := by decide +kernel
theorem dX6_list_19 : decode cX6_list 19 = .ok (.if_icmp .ne 13, 3) := by decide +kernel
theorem dX6_list_22 : decode cX6_list 22 = .ok (.iload_n 3, 1) := by decide +kernel
theorem dX6_list_23 : decode cX6_list 23 = .ok (.iconst (-1), 1) := by decide +kernel
theorem dX6_list_24 : decode cX6_list 24 = .ok (.if_icmp .eq 8, 3) := by decide +kernel
theorem dX6_list_27 : decode cX6_list 27 = .ok (.aload_n 0, 1) := by decide +kernel
theorem dX6_list_28 : decode cX6_list 28 = .ok (.iload_n 3, 1) := by decide +kernel
theorem dX6_list_29 : decode cX6_list 29 = .ok (.invokevirtual 34, 3) := by decide +kernel
theorem dX6_list_32 : decode cX6_list 32 = .ok (.aload_n 1, 1) := by decide +kernel
theorem dX6_list_33 : decode cX6_list 33 = .ok (.iload_n 2, 1) := by decide +kernel
theorem dX6_list_34 : decode cX6_list 34 = .ok (.iconst 3, 1) := by decide +kernel
theorem dX6_list_35 : decode cX6_list 35 = .ok (.invokevirtual 24, 3) := by decide +kernel
theorem dX6_list_38 : decode cX6_list 38 = .ok (.istore 4, 2) := by decide +kernel
theorem dX6_list_40 : decode cX6_list 40 = .ok (.aload_n 1, 1) := by decide +kernel
theorem dX6_list_41 : decode cX6_list 41 = .ok (.iload_n 2, 1) := by decide +kernel
theorem dX6_list_42 : decode cX6_list 42 = .ok (.iconst 5, 1) := by decide +kernel
theorem dX6_list_43 : decode cX6_list 43 = .ok (.invokevirtual 24, 3) := by decide +kernel
theorem dX6_list_46 : decode cX6_list 46 = .ok (.istore 5, 2) := by decide +kernel
theorem dX6_list_48 : decode cX6_list 48 = .ok (.aload_n 0, 1) := by decide +kernel
theorem dX6_list_49 : decode cX6_list 49 = .ok (.iload 4, 2) := by decide +kernel
theorem dX6_list_51 : decode cX6_list 51 = .ok (.invokevirtual 34, 3) := by decide +kernel
theorem dX6_list_54 : decode cX6_list 54 = .ok (.iload 5, 2) := by decide +kernel
theorem dX6_list_56 : decode cX6_list 56 = .ok (.iconst 1, 1) := by decide +kernel
theorem dX6_list_57 : decode cX6_list 57 = .ok (.if_icmp .lt 13, 3) := by decide +kernel
theorem dX6_list_60 : decode cX6_list 60 = .ok (.aload_n 0, 1) := by decide +kernel
theorem dX6_list_61 : decode cX6_list 61 = .ok (.iload 4, 2) := by decide +kernel
theorem dX6_list_63 : decode cX6_list 63 = .ok (.iconst 2, 1) := by decide +kernel
theorem dX6_list_64 : decode cX6_list 64 = .ok (.iadd, 1) := by decide +kernel
theorem dX6_list_65 : decode cX6_list 65 = .ok (.iconst 4, 1) := by decide +kernel
theorem dX6_list_66 : decode cX6_list 66 = .ok (.irem, 1) := by decide +kernel
theorem dX6_list_67 : decode cX6_list 67 = .ok (.invokevirtual 34, 3) := by decide +kernel
theorem dX6_list_70 : decode cX6_list 70 = .ok (.iload 5, 2) := by decide +kernel
theorem dX6_list_72 : decode cX6_list 72 = .ok (.iconst 2, 1) := by decide +kernel
theorem dX6_list_73 : decode cX6_list 73 = .ok (.if_icmp .ne 25, 3) := by decide +kernel
theorem dX6_list_76 : decode cX6_list 76 = .ok (.aload_n 0, 1) := by decide +kernel
theorem dX6_list_77 : decode cX6_list 77 = .ok (.iload 4, 2) := by decide +kernel
theorem dX6_list_79 : decode cX6_list 79 = .ok (.iconst 1, 1) := by decide +kernel
theorem dX6_list_80 : decode cX6_list 80 = .ok (.iadd, 1) := by decide +kernel
theorem dX6_list_81 : decode cX6_list 81 = .ok (.iconst 4, 1) := by decide +kernel
theorem dX6_list_82 : decode cX6_list 82 = .ok (.irem, 1) := by decide +kernel
theorem dX6_list_83 : decode cX6_list 83 = .ok (.invokevirtual 34, 3) := by decide +kernel
theorem dX6_list_86 : decode cX6_list 86 = .ok (.aload_n 0, 1) := by decide +kernel
theorem dX6_list_87 : decode cX6_list 87 = .ok (.iload 4, 2) := by decide +kernel
theorem dX6_list_89 : decode cX6_list 89 = .ok (.iconst 4, 1) := by decide +kernel
theorem dX6_list_90 : decode cX6_list 90 = .ok (.iadd, 1) := by decide +kernel
theorem dX6_list_91 : decode cX6_list 91 = .ok (.iconst 1, 1) := by decide +kernel
theorem dX6_list_92 : decode cX6_list 92 = .ok (.isub, 1) := by decide +kernel
theorem dX6_list_93 : decode cX6_list 93 = .ok (.iconst 4, 1) := by decide +kernel
theorem dX6_list_94 : decode cX6_list 94 = .ok (.irem, 1) := by decide +kernel
theorem dX6_list_95 : decode cX6_list 95 = .ok (.invokevirtual 34, 3) := by decide +kernel
theorem dX6_list_98 : decode cX6_list 98 = .ok (.return_, 1) := by decide +kernel
theorem dX6_add_0 : decode cX6_add 0 = .ok (.iconst 0, 1) := by decide +kernel
theorem dX6_add_1 : decode cX6_add 1 = .ok (.istore_n 2, 1) := by decide +kernel
theorem dX6_add_2 : decode cX6_add 2 = .ok (.iload_n 2, 1) := by decide +kernel
theorem dX6_add_3 : decode cX6_add 3 = .ok (.aload_n 0, 1) := by decide +kernel
theorem dX6_add_4 : decode cX6_add 4 = .ok (.getfield 20, 3) := by decide +kernel
theorem dX6_add_7 : decode cX6_add 7 = .ok (.if_icmp .ge 22, 3) := by decide +kernel
theorem dX6_add_10 : decode cX6_add 10 = .ok (.aload_n 0, 1) := by decide +kernel
theorem dX6_add_11 : decode cX6_add 11 = .ok (.getfield 14, 3) := by decide +kernel
theorem dX6_add_14 : decode cX6_add 14 = .ok (.iload_n 2, 1) := by decide +kernel
theorem dX6_add_15 : decode cX6_add 15 = .ok (.invokevirtual 37, 3) := by decide +kernel
theorem dX6_add_18 : decode cX6_add 18 = .ok (.iload_n 1, 1) := by decide +kernel
theorem dX6_add_19 : decode cX6_add 19 = .ok (.if_icmp .ne 4, 3) := by decide +kernel
theorem dX6_add_22 : decode cX6_add 22 = .ok (.return_, 1) := by decide +kernel
theorem dX6_add_23 : decode cX6_add 23 = .ok (.iinc 2 1, 3) := by decide +kernel
theorem dX6_add_26 : decode cX6_add 26 = .ok (.goto (-24), 3) := by decide +kernel
theorem dX6_add_29 : decode cX6_add 29 = .ok (.aload_n 0, 1) := by decide +kernel
theorem dX6_add_30 : decode cX6_add 30 = .ok (.getfield 14, 3) := by decide +kernel
theorem dX6_add_33 : decode cX6_add 33 = .ok (.aload_n 0, 1) := by decide +kernel
theorem dX6_add_34 : decode cX6_add 34 = .ok (.getfield 20, 3) := by decide +kernel
theorem dX6_add_37 : decode cX6_add 37 = .ok (.iload_n 1, 1) := by decide +kernel
theorem dX6_add_38 : decode cX6_add 38 = .ok (.invokevirtual 40, 3) := by decide +kernel
theorem dX6_add_41 : decode cX6_add 41 = .ok (.aload_n 0, 1) := by decide +kernel
theorem dX6_add_42 : decode cX6_add 42 = .ok (.dup, 1) := by decide +kernel
theorem dX6_add_43 : decode cX6_add 43 = .ok (.getfield 20, 3) := by decide +kernel
theorem dX6_add_46 : decode cX6_add 46 = .ok (.iconst 1, 1) := by decide +kernel
theorem dX6_add_47 : decode cX6_add 47 = .ok (.iadd, 1) := by decide +kernel
theorem dX6_add_48 : decode cX6_add 48 = .ok (.putfield 20, 3) := by decide +kernel
theorem dX6_add_51 : decode cX6_add 51 = .ok (.return_, 1) := by decide +kernel
theorem dX7_init_0 : decode cX7_init 0 = .ok (.aload_n 0, 1) := by decide +kernel
theorem dX7_init_1 : decode cX7_init 1 = .ok (.invokespecial 3, 3) := by decide +kernel
theorem dX7_init_4 : decode cX7_init 4 = .ok (.aload_n 0, 1) := by decide +kernel
theorem dX7_init_5 : decode cX7_init 5 = .ok (.new 9, 3) := by decide +kernel
theorem dX7_init_8 : decode cX7_init 8 = .ok (.dup, 1) := by decide +kernel
theorem dX7_init_9 : decode cX7_init 9 = .ok (.invokespecial 11, 3) := by decide +kernel
theorem dX7_init_12 : decode cX7_init 12 = .ok (.putfield 12, 3) := by decide +kernel
theorem dX7_init_15 : decode cX7_init 15 = .ok (.aload_n 0, 1) := by decide +kernel
theorem dX7_init_16 : decode cX7_init 16 = .ok (.new 16, 3) := by decide +kernel
theorem dX7_init_19 : decode cX7_init 19 = .ok (.dup, 1) := by decide +kernel
theorem dX7_init_20 : decode cX7_init 20 = .ok (.invokespecial 18, 3) := by decide +kernel
theorem dX7_init_23 : decode cX7_init 23 = .ok (.putfield 19, 3) := by decide +kernel
theorem dX7_init_26 : decode cX7_init 26 = .ok (.aload_n 0, 1) := by decide +kernel
theorem dX7_init_27 : decode cX7_init 27 = .ok (.new 23, 3) := by decide +kernel
theorem dX7_init_30 : decode cX7_init 30 = .ok (.dup, 1) := by decide +kernel
theorem dX7_init_31 : decode cX7_init 31 = .ok (.invokespecial 25, 3) := by decide +kernel
theorem dX7_init_34 : decode cX7_init 34 = .ok (.putfield 26, 3) := by decide +kernel
theorem dX7_init_37 : decode cX7_init 37 = .ok (.aload_n 0, 1) := by decide +kernel
theorem dX7_init_38 : decode cX7_init 38 = .ok (.new 30, 3) := by decide +kernel
theorem dX7_init_41 : decode cX7_init 41 = .ok (.dup, 1) := by decide +kernel
theorem dX7_init_42 : decode cX7_init 42 = .ok (.invokespecial 32, 3) := by decide +kernel
theorem dX7_init_45 : decode cX7_init 45 = .ok (.putfield 33, 3) := by decide +kernel
theorem dX7_init_48 : decode cX7_init 48 = .ok (.aload_n 0, 1) := by decide +kernel
theorem dX7_init_49 : decode cX7_init 49 = .ok (.new 37, 3) := by decide +kernel
theorem dX7_init_52 : decode cX7_init 52 = .ok (.dup, 1) := by decide +kernel
theorem dX7_init_53 : decode cX7_init 53 = .ok (.invokespecial 39, 3) := by decide +kernel
theorem dX7_init_56 : decode cX7_init 56 = .ok (.putfield 40, 3) := by decide +kernel
theorem dX7_init_59 : decode cX7_init 59 = .ok (.aload_n 0, 1) := by decide +kernel
theorem dX7_init_60 : decode cX7_init 60 = .ok (.new 44, 3) := by decide +kernel
theorem dX7_init_63 : decode cX7_init 63 = .ok (.dup, 1) := by decide +kernel
theorem dX7_init_64 : decode cX7_init 64 = .ok (.invokespecial 46, 3) := by decide +kernel
theorem dX7_init_67 : decode cX7_init 67 = .ok (.putfield 47, 3) := by decide +kernel
theorem dX7_init_70 : decode cX7_init 70 = .ok (.return_, 1) := by decide +kernel
theorem dX7_view_0 : decode cX7_view 0 = .ok (.iload_n 1, 1) := by decide +kernel
theorem dX7_view_1 : decode cX7_view 1 = .ok (.invokestatic 51, 3) := by decide +kernel
theorem dX7_view_4 : decode cX7_view 4 = .ok (.ifCond .eq 10, 3) := by decide +kernel
theorem dX7_view_7 : decode cX7_view 7 = .ok (.iload_n 2, 1) := by decide +kernel
theorem dX7_view_8 : decode cX7_view 8 = .ok (.invokestatic 51, 3) := by decide +kernel
theorem dX7_view_11 : decode cX7_view 11 = .ok (.ifCond .ne 7, 3) := by decide +kernel
theorem dX7_view_14 : decode cX7_view 14 = .ok (.sipush (-10001), 3) := by decide +kernel
theorem dX7_view_17 : decode cX7_view 17 = .ok (.ireturn, 1) := by decide +kernel
theorem dX7_view_18 : decode cX7_view 18 = .ok (.aload_n 0, 1) := by decide +kernel
theorem dX7_view_19 : decode cX7_view 19 = .ok (.getfield 19, 3) := by decide +kernel
theorem dX7_view_22 : decode cX7_view 22 = .ok (.aload_n 0, 1) := by decide +kernel
theorem dX7_view_23 : decode cX7_view 23 = .ok (.getfield 12, 3) := by decide +kernel
theorem dX7_view_26 : decode cX7_view 26 = .ok (.invokevirtual 55, 3) := by decide +kernel
theorem dX7_view_29 : decode cX7_view 29 = .ok (.aload_n 0, 1) := by decide +kernel
theorem dX7_view_30 : decode cX7_view 30 = .ok (.getfield 12, 3) := by decide +kernel
theorem dX7_view_33 : decode cX7_view 33 = .ok (.iconst 2, 1) := by decide +kernel
theorem dX7_view_34 : decode cX7_view 34 = .ok (.iload_n 1, 1) := by decide +kernel
theorem dX7_view_35 : decode cX7_view 35 = .ok (.invokevirtual 59, 3) := by decide +kernel
theorem dX7_view_38 : decode cX7_view 38 = .ok (.aload_n 0, 1) := by decide +kernel
theorem dX7_view_39 : decode cX7_view 39 = .ok (.getfield 12, 3) := by decide +kernel
theorem dX7_view_42 : decode cX7_view 42 = .ok (.iconst 3, 1) := by decide +kernel
theorem dX7_view_43 : decode cX7_view 43 = .ok (.iload_n 2, 1) := by decide +kernel
theorem dX7_view_44 : decode cX7_view 44 = .ok (.invokevirtual 59, 3) := by decide +kernel
theorem dX7_view_47 : decode cX7_view 47 = .ok (.aload_n 0, 1) := by decide +kernel
theorem dX7_view_48 : decode cX7_view 48 = .ok (.getfield 26, 3) := by decide +kernel
theorem dX7_view_51 : decode cX7_view 51 = .ok (.aload_n 0, 1) := by decide +kernel
theorem dX7_view_52 : decode cX7_view 52 = .ok (.getfield 12, 3) := by decide +kernel
theorem dX7_view_55 : decode cX7_view 55 = .ok (.invokevirtual 63, 3) := by decide +kernel
theorem dX7_view_58 : decode cX7_view 58 = .ok (.ireturn, 1) := by decide +kernel
theorem dX7_scroll_0 : decode cX7_scroll 0 = .ok (.iload_n 1, 1) := by decide +kernel
theorem dX7_scroll_1 : decode cX7_scroll 1 = .ok (.sipush 1000, 3) := by decide +kernel
theorem dX7_scroll_4 : decode cX7_scroll 4 = .ok (.invokestatic 67, 3) := by decide +kernel
theorem dX7_scroll_7 : decode cX7_scroll 7 = .ok (.ifCond .eq 13, 3) := by decide +kernel
theorem dX7_scroll_10 : decode cX7_scroll 10 = .ok (.iload_n 2, 1) := by decide +kernel
theorem dX7_scroll_11 : decode cX7_scroll 11 = .ok (.sipush 1000, 3) := by decide +kernel
theorem dX7_scroll_14 : decode cX7_scroll 14 = .ok (.invokestatic 67, 3) := by decide +kernel
theorem dX7_scroll_17 : decode cX7_scroll 17 = .ok (.ifCond .ne 7, 3) := by decide +kernel
theorem dX7_scroll_20 : decode cX7_scroll 20 = .ok (.sipush (-10001), 3) := by decide +kernel
theorem dX7_scroll_23 : decode cX7_scroll 23 = .ok (.ireturn, 1) := by decide +kernel
theorem dX7_scroll_24 : decode cX7_scroll 24 = .ok (.aload_n 0, 1) := by decide +kernel
theorem dX7_scroll_25 : decode cX7_scroll 25 = .ok (.iload_n 1, 1) := by decide +kernel
theorem dX7_scroll_26 : decode cX7_scroll 26 = .ok (.iload_n 2, 1) := by decide +kernel
theorem dX7_scroll_27 : decode cX7_scroll 27 = .ok (.invokevirtual 71, 3) := by decide +kernel
theorem dX7_scroll_30 : decode cX7_scroll 30 = .ok (.ifCond .ne 7, 3) := by decide +kernel
theorem dX7_scroll_33 : decode cX7_scroll 33 = .ok (.sipush (-10002), 3) := by decide +kernel
theorem dX7_scroll_36 : decode cX7_scroll 36 = .ok (.ireturn, 1) := by decide +kernel
theorem dX7_scroll_37 : decode cX7_scroll 37 = .ok (.aload_n 0, 1) := by decide +kernel
theorem dX7_scroll_38 : decode cX7_scroll 38 = .ok (.getfield 19, 3) := by decide +kernel
theorem dX7_scroll_41 : decode cX7_scroll 41 = .ok (.aload_n 0, 1) := by decide +kernel
theorem dX7_scroll_42 : decode cX7_scroll 42 = .ok (.getfield 12, 3) := by decide +kernel
theorem dX7_scroll_45 : decode cX7_scroll 45 = .ok (.invokevirtual 55, 3) := by decide +kernel
theorem dX7_scroll_48 : decode cX7_scroll 48 = .ok (.aload_n 0, 1) := by decide +kernel
theorem dX7_scroll_49 : decode cX7_scroll 49 = .ok (.iload_n 1, 1) := by decide +kernel
theorem dX7_scroll_50 : decode cX7_scroll 50 = .ok (.iload_n 2, 1) := by decide +kernel
theorem dX7_scroll_51 : decode cX7_scroll 51 = .ok (.invokevirtual 74, 3) := by decide +kernel
theorem dX7_scroll_54 : decode cX7_scroll 54 = .ok (.aload_n 0, 1) := by decide +kernel
theorem dX7_scroll_55 : decode cX7_scroll 55 = .ok (.getfield 26, 3) := by decide +kernel
theorem dX7_scroll_58 : decode cX7_scroll 58 = .ok (.aload_n 0, 1) := by decide +kernel
theorem dX7_scroll_59 : decode cX7_scroll 59 = .ok (.getfield 12, 3) := by decide +kernel
theorem dX7_scroll_62 : decode cX7_scroll 62 = .ok (.invokevirtual 63, 3) := by decide +kernel
theorem dX7_scroll_65 : decode cX7_scroll 65 = .ok (.ireturn, 1) := by decide +kernel
theorem dX7_anchor_0 : decode cX7_anchor 0 = .ok (.iload_n 1, 1) := by decide +kernel
theorem dX7_anchor_1 : decode cX7_anchor 1 = .ok (.sipush 1000, 3) := by decide +kernel
theorem dX7_anchor_4 : decode cX7_anchor 4 = .ok (.invokestatic 67, 3) := by decide +kernel
theorem dX7_anchor_7 : decode cX7_anchor 7 = .ok (.ifCond .eq 13, 3) := by decide +kernel
theorem dX7_anchor_10 : decode cX7_anchor 10 = .ok (.iload_n 2, 1) := by decide +kernel
theorem dX7_anchor_11 : decode cX7_anchor 11 = .ok (.sipush 1000, 3) := by decide +kernel
theorem dX7_anchor_14 : decode cX7_anchor 14 = .ok (.invokestatic 67, 3) := by decide +kernel
theorem dX7_anchor_17 : decode cX7_anchor 17 = .ok (.ifCond .ne 7, 3) := by decide +kernel
theorem dX7_anchor_20 : decode cX7_anchor 20 = .ok (.sipush (-10001), 3) := by decide +kernel
theorem dX7_anchor_23 : decode cX7_anchor 23 = .ok (.ireturn, 1) := by decide +kernel
theorem dX7_anchor_24 : decode cX7_anchor 24 = .ok (.iload_n 3, 1) := by decide +kernel
theorem dX7_anchor_25 : decode cX7_anchor 25 = .ok (.invokestatic 77, 3) := by decide +kernel
theorem dX7_anchor_28 : decode cX7_anchor 28 = .ok (.ifCond .eq 11, 3) := by decide +kernel
theorem dX7_anchor_31 : decode cX7_anchor 31 = .ok (.iload 4, 2) := by decide +kernel
theorem dX7_anchor_33 : decode cX7_anchor 33 = .ok (.invokestatic 77, 3) := by decide +kernel
theorem dX7_anchor_36 : decode cX7_anchor 36 = .ok (.ifCond .ne 7, 3) := by decide +kernel
theorem dX7_anchor_39 : decode cX7_anchor 39 = .ok (.sipush (-10001), 3) := by decide +kernel
theorem dX7_anchor_42 : decode cX7_anchor 42 = .ok (.ireturn, 1) := by decide +kernel
theorem dX7_anchor_43 : decode cX7_anchor 43 = .ok (.aload_n 0, 1) := by decide +kernel
theorem dX7_anchor_44 : decode cX7_anchor 44 = .ok (.getfield 12, 3) := by decide +kernel
theorem dX7_anchor_47 : decode cX7_anchor 47 = .ok (.iconst 4, 1) := by decide +kernel
theorem dX7_anchor_48 : decode cX7_anchor 48 = .ok (.invokevirtual 80, 3) := by decide +kernel
theorem dX7_anchor_51 : decode cX7_anchor 51 = .ok (.istore 5, 2) := by decide +kernel
theorem dX7_anchor_53 : decode cX7_anchor 53 = .ok (.iload 5, 2) := by decide +kernel
theorem dX7_anchor_55 : decode cX7_anchor 55 = .ok (.bipush 10, 2) := by decide +kernel
theorem dX7_anchor_57 : decode cX7_anchor 57 = .ok (.if_icmp .lt 7, 3) := by decide +kernel
theorem dX7_anchor_60 : decode cX7_anchor 60 = .ok (.sipush (-10003), 3) := by decide +kernel
theorem dX7_anchor_63 : decode cX7_anchor 63 = .ok (.ireturn, 1) := by decide +kernel
theorem dX7_anchor_64 : decode cX7_anchor 64 = .ok (.aload_n 0, 1) := by decide +kernel
theorem dX7_anchor_65 : decode cX7_anchor 65 = .ok (.getfield 19, 3) := by decide +kernel
theorem dX7_anchor_68 : decode cX7_anchor 68 = .ok (.aload_n 0, 1) := by decide +kernel
theorem dX7_anchor_69 : decode cX7_anchor 69 = .ok (.getfield 12, 3) := by decide +kernel
theorem dX7_anchor_72 : decode cX7_anchor 72 = .ok (.invokevirtual 55, 3) := by decide +kernel
theorem dX7_anchor_75 : decode cX7_anchor 75 = .ok (.aload_n 0, 1) := by decide +kernel
theorem dX7_anchor_76 : decode cX7_anchor 76 = .ok (.getfield 12, 3) := by decide +kernel
theorem dX7_anchor_79 : decode cX7_anchor 79 = .ok (.iconst 4, 1) := by decide +kernel
theorem dX7_anchor_80 : decode cX7_anchor 80 = .ok (.iload 5, 2) := by decide +kernel
theorem dX7_anchor_82 : decode cX7_anchor 82 = .ok (.iconst 1, 1) := by decide +kernel
theorem dX7_anchor_83 : decode cX7_anchor 83 = .ok (.iadd, 1) := by decide +kernel
theorem dX7_anchor_84 : decode cX7_anchor 84 = .ok (.invokevirtual 59, 3) := by decide +kernel
theorem dX7_anchor_87 : decode cX7_anchor 87 = .ok (.aload_n 0, 1) := by decide +kernel
theorem dX7_anchor_88 : decode cX7_anchor 88 = .ok (.getfield 12, 3) := by decide +kernel
theorem dX7_anchor_91 : decode cX7_anchor 91 = .ok (.iload 5, 2) := by decide +kernel
theorem dX7_anchor_93 : decode cX7_anchor 93 = .ok (.iconst 0, 1) := by decide +kernel
theorem dX7_anchor_94 : decode cX7_anchor 94 = .ok (.iload_n 1, 1) := by decide +kernel
theorem dX7_anchor_95 : decode cX7_anchor 95 = .ok (.invokevirtual 84, 3) := by decide +kernel
theorem dX7_anchor_98 : decode cX7_anchor 98 = .ok (.aload_n 0, 1) := by decide +kernel
theorem dX7_anchor_99 : decode cX7_anchor 99 = .ok (.getfield 12, 3) := by decide +kernel
theorem dX7_anchor_102 : decode cX7_anchor 102 = .ok (.iload 5, 2) := by decide +kernel
theorem dX7_anchor_104 : decode cX7_anchor 104 = .ok (.iconst 1, 1) := by decide +kernel
theorem dX7_anchor_105 : decode cX7_anchor 105 = .ok (.iload_n 2, 1) := by decide +kernel
theorem dX7_anchor_106 : decode cX7_anchor 106 = .ok (.invokevirtual 84, 3) := by decide +kernel
theorem dX7_anchor_109 : decode cX7_anchor 109 = .ok (.aload_n 0, 1) := by decide +kernel
theorem dX7_anchor_110 : decode cX7_anchor 110 = .ok (.getfield 12, 3) := by decide +kernel
theorem dX7_anchor_113 : decode cX7_anchor 113 = .ok (.iload 5, 2) := by decide +kernel
theorem dX7_anchor_115 : decode cX7_anchor 115 = .ok (.iconst 2, 1) := by decide +kernel
theorem dX7_anchor_116 : decode cX7_anchor 116 = .ok (.iload_n 3, 1) := by decide +kernel
theorem dX7_anchor_117 : decode cX7_anchor 117 = .ok (.invokevirtual 84, 3) := by decide +kernel
theorem dX7_anchor_120 : decode cX7_anchor 120 = .ok (.aload_n 0, 1) := by decide +kernel
theorem dX7_anchor_121 : decode cX7_anchor 121 = .ok (.getfield 12, 3) := by decide +kernel
theorem dX7_anchor_124 : decode cX7_anchor 124 = .ok (.iload 5, 2) := by decide +kernel
theorem dX7_anchor_126 : decode cX7_anchor 126 = .ok (.iconst 3, 1) := by decide +kernel
theorem dX7_anchor_127 : decode cX7_anchor 127 = .ok (.iload 4, 2) := by decide +kernel
theorem dX7_anchor_129 : decode cX7_anchor 129 = .ok (.invokevirtual 84, 3) := by decide +kernel
theorem dX7_anchor_132 : decode cX7_anchor 132 = .ok (.aload_n 0, 1) := by decide +kernel
theorem dX7_anchor_133 : decode cX7_anchor 133 = .ok (.getfield 26, 3) := by decide +kernel
theorem dX7_anchor_136 : decode cX7_anchor 136 = .ok (.aload_n 0, 1) := by decide +kernel
theorem dX7_anchor_137 : decode cX7_anchor 137 = .ok (.getfield 12, 3) := by decide +kernel
theorem dX7_anchor_140 : decode cX7_anchor 140 = .ok (.invokevirtual 63, 3) := by decide +kernel
theorem dX7_anchor_143 : decode cX7_anchor 143 = .ok (.pop, 1) := by decide +kernel
theorem dX7_anchor_144 : decode cX7_anchor 144 = .ok (.iload 5, 2) := by decide +kernel
theorem dX7_anchor_146 : decode cX7_anchor 146 = .ok (.ireturn, 1) := by decide +kernel
theorem dX7_moveAnchor_0 : decode cX7_moveAnchor 0 = .ok (.aload_n 0, 1) := by decide +kernel
theorem dX7_moveAnchor_1 : decode cX7_moveAnchor 1 = .ok (.iload_n 1, 1) := by decide +kernel
theorem dX7_moveAnchor_2 : decode cX7_moveAnchor 2 = .ok (.invokevirtual 88, 3) := by decide +kernel
theorem dX7_moveAnchor_5 : decode cX7_moveAnchor 5 = .ok (.ifCond .eq 23, 3) := by decide +kernel
theorem dX7_moveAnchor_8 : decode cX7_moveAnchor 8 = .ok (.iload_n 2, 1) := by decide +kernel
theorem dX7_moveAnchor_9 : decode cX7_moveAnchor 9 = .ok (.sipush 1000, 3) := by decide +kernel
theorem dX7_moveAnchor_12 : decode cX7_moveAnchor 12 = .ok (.invokestatic 67, 3) := by decide +kernel
theorem dX7_moveAnchor_15 : decode cX7_moveAnchor 15 = .ok (.ifCond .eq 13, 3) := by decide +kernel
theorem dX7_moveAnchor_18 : decode cX7_moveAnchor 18 = .ok (.iload_n 3, 1) := by decide +kernel
theorem dX7_moveAnchor_19 : decode cX7_moveAnchor 19 = .ok (.sipush 1000, 3) := by decide +kernel
theorem dX7_moveAnchor_22 : decode cX7_moveAnchor 22 = .ok (.invokestatic 67, 3) := by decide +kernel
theorem dX7_moveAnchor_25 : decode cX7_moveAnchor 25 = .ok (.ifCond .ne 7, 3) := by decide +kernel
theorem dX7_moveAnchor_28 : decode cX7_moveAnchor 28 = .ok (.sipush (-10001), 3) := by decide +kernel
theorem dX7_moveAnchor_31 : decode cX7_moveAnchor 31 = .ok (.ireturn, 1) := by decide +kernel
theorem dX7_moveAnchor_32 : decode cX7_moveAnchor 32 = .ok (.aload_n 0, 1) := by decide +kernel
theorem dX7_moveAnchor_33 : decode cX7_moveAnchor 33 = .ok (.getfield 19, 3) := by decide +kernel
theorem dX7_moveAnchor_36 : decode cX7_moveAnchor 36 = .ok (.aload_n 0, 1) := by decide +kernel
theorem dX7_moveAnchor_37 : decode cX7_moveAnchor 37 = .ok (.getfield 12, 3) := by decide +kernel
theorem dX7_moveAnchor_40 : decode cX7_moveAnchor 40 = .ok (.invokevirtual 55, 3) := by decide +kernel
theorem dX7_moveAnchor_43 : decode cX7_moveAnchor 43 = .ok (.aload_n 0, 1) := by decide +kernel
theorem dX7_moveAnchor_44 : decode cX7_moveAnchor 44 = .ok (.getfield 12, 3) := by decide +kernel
theorem dX7_moveAnchor_47 : decode cX7_moveAnchor 47 = .ok (.iload_n 1, 1) := by decide +kernel
theorem dX7_moveAnchor_48 : decode cX7_moveAnchor 48 = .ok (.iconst 0, 1) := by decide +kernel
theorem dX7_moveAnchor_49 : decode cX7_moveAnchor 49 = .ok (.iload_n 2, 1) := by decide +kernel
theorem dX7_moveAnchor_50 : decode cX7_moveAnchor 50 = .ok (.invokevirtual 84, 3) := by decide +kernel
theorem dX7_moveAnchor_53 : decode cX7_moveAnchor 53 = .ok (.aload_n 0, 1) := by decide +kernel
theorem dX7_moveAnchor_54 : decode cX7_moveAnchor 54 = .ok (.getfield 12, 3) := by decide +kernel
theorem dX7_moveAnchor_57 : decode cX7_moveAnchor 57 = .ok (.iload_n 1, 1) := by decide +kernel
theorem dX7_moveAnchor_58 : decode cX7_moveAnchor 58 = .ok (.iconst 1, 1) := by decide +kernel
theorem dX7_moveAnchor_59 : decode cX7_moveAnchor 59 = .ok (.iload_n 3, 1) := by decide +kernel
theorem dX7_moveAnchor_60 : decode cX7_moveAnchor 60 = .ok (.invokevirtual 84, 3) := by decide +kernel
theorem dX7_moveAnchor_63 : decode cX7_moveAnchor 63 = .ok (.aload_n 0, 1) := by decide +kernel
theorem dX7_moveAnchor_64 : decode cX7_moveAnchor 64 = .ok (.getfield 26, 3) := by decide +kernel
theorem dX7_moveAnchor_67 : decode cX7_moveAnchor 67 = .ok (.aload_n 0, 1) := by decide +kernel
theorem dX7_moveAnchor_68 : decode cX7_moveAnchor 68 = .ok (.getfield 12, 3) := by decide +kernel
theorem dX7_moveAnchor_71 : decode cX7_moveAnchor 71 = .ok (.invokevirtual 63, 3) := by decide +kernel
theorem dX7_moveAnchor_74 : decode cX7_moveAnchor 74 = .ok (.ireturn, 1) := by decide +kernel
theorem dX7_anchorOf_0 : decode cX7_anchorOf 0 = .ok (.aload_n 0, 1) := by decide +kernel
theorem dX7_anchorOf_1 : decode cX7_anchorOf 1 = .ok (.iload_n 1, 1) := by decide +kernel
theorem dX7_anchorOf_2 : decode cX7_anchorOf 2 = .ok (.invokevirtual 88, 3) := by decide +kernel
theorem dX7_anchorOf_5 : decode cX7_anchorOf 5 = .ok (.ifCond .ne 7, 3) := by decide +kernel
theorem dX7_anchorOf_8 : decode cX7_anchorOf 8 = .ok (.sipush (-10001), 3) := by decide +kernel
theorem dX7_anchorOf_11 : decode cX7_anchorOf 11 = .ok (.ireturn, 1) := by decide +kernel
theorem dX7_anchorOf_12 : decode cX7_anchorOf 12 = .ok (.iload_n 2, 1) := by decide +kernel
theorem dX7_anchorOf_13 : decode cX7_anchorOf 13 = .ok (.tableswitch 84 0 6 #[43, 43, 43, 43, 53, 70, 77], 43) := by decide +kernel
theorem dX7_anchorOf_56 : decode cX7_anchorOf 56 = .ok (.aload_n 0, 1) := by decide +kernel
theorem dX7_anchorOf_57 : decode cX7_anchorOf 57 = .ok (.getfield 12, 3) := by decide +kernel
theorem dX7_anchorOf_60 : decode cX7_anchorOf 60 = .ok (.iload_n 1, 1) := by decide +kernel
theorem dX7_anchorOf_61 : decode cX7_anchorOf 61 = .ok (.iload_n 2, 1) := by decide +kernel
theorem dX7_anchorOf_62 : decode cX7_anchorOf 62 = .ok (.invokevirtual 91, 3) := by decide +kernel
theorem dX7_anchorOf_65 : decode cX7_anchorOf 65 = .ok (.ireturn, 1) := by decide +kernel
theorem dX7_anchorOf_66 : decode cX7_anchorOf 66 = .ok (.aload_n 0, 1) := by decide +kernel
theorem dX7_anchorOf_67 : decode cX7_anchorOf 67 = .ok (.getfield 12, 3) := by decide +kernel
theorem dX7_anchorOf_70 : decode cX7_anchorOf 70 = .ok (.iload_n 1, 1) := by decide +kernel
theorem dX7_anchorOf_71 : decode cX7_anchorOf 71 = .ok (.invokevirtual 95, 3) := by decide +kernel
theorem dX7_anchorOf_74 : decode cX7_anchorOf 74 = .ok (.ifCond .eq 7, 3) := by decide +kernel
theorem dX7_anchorOf_77 : decode cX7_anchorOf 77 = .ok (.iconst 1, 1) := by decide +kernel
theorem dX7_anchorOf_78 : decode cX7_anchorOf 78 = .ok (.goto 4, 3) := by decide +kernel
theorem dX7_anchorOf_81 : decode cX7_anchorOf 81 = .ok (.iconst 0, 1) := by decide +kernel
theorem dX7_anchorOf_82 : decode cX7_anchorOf 82 = .ok (.ireturn, 1) := by decide +kernel
theorem dX7_anchorOf_83 : decode cX7_anchorOf 83 = .ok (.aload_n 0, 1) := by decide +kernel
theorem dX7_anchorOf_84 : decode cX7_anchorOf 84 = .ok (.iload_n 1, 1) := by decide +kernel
theorem dX7_anchorOf_85 : decode cX7_anchorOf 85 = .ok (.iconst 0, 1) := by decide +kernel
theorem dX7_anchorOf_86 : decode cX7_anchorOf 86 = .ok (.invokevirtual 98, 3) := by decide +kernel
theorem dX7_anchorOf_89 : decode cX7_anchorOf 89 = .ok (.ireturn, 1) := by decide +kernel
theorem dX7_anchorOf_90 : decode cX7_anchorOf 90 = .ok (.aload_n 0, 1) := by decide +kernel
theorem dX7_anchorOf_91 : decode cX7_anchorOf 91 = .ok (.iload_n 1, 1) := by decide +kernel
theorem dX7_anchorOf_92 : decode cX7_anchorOf 92 = .ok (.iconst 1, 1) := by decide +kernel
theorem dX7_anchorOf_93 : decode cX7_anchorOf 93 = .ok (.invokevirtual 98, 3) := by decide +kernel
theorem dX7_anchorOf_96 : decode cX7_anchorOf 96 = .ok (.ireturn, 1) := by decide +kernel
theorem dX7_anchorOf_97 : decode cX7_anchorOf 97 = .ok (.sipush (-10001), 3) := by decide +kernel
theorem dX7_anchorOf_100 : decode cX7_anchorOf 100 = .ok (.ireturn, 1) := by decide +kernel
theorem dX7_count_0 : decode cX7_count 0 = .ok (.iload_n 1, 1) := by decide +kernel
theorem dX7_count_1 : decode cX7_count 1 = .ok (.bipush 11, 2) := by decide +kernel
theorem dX7_count_3 : decode cX7_count 3 = .ok (.if_icmp .lt 21, 3) := by decide +kernel
theorem dX7_count_6 : decode cX7_count 6 = .ok (.iload_n 1, 1) := by decide +kernel
theorem dX7_count_7 : decode cX7_count 7 = .ok (.bipush 16, 2) := by decide +kernel
theorem dX7_count_9 : decode cX7_count 9 = .ok (.if_icmp .ge 15, 3) := by decide +kernel
theorem dX7_count_12 : decode cX7_count 12 = .ok (.aload_n 0, 1) := by decide +kernel
theorem dX7_count_13 : decode cX7_count 13 = .ok (.getfield 12, 3) := by decide +kernel
theorem dX7_count_16 : decode cX7_count 16 = .ok (.iload_n 1, 1) := by decide +kernel
theorem dX7_count_17 : decode cX7_count 17 = .ok (.bipush 11, 2) := by decide +kernel
theorem dX7_count_19 : decode cX7_count 19 = .ok (.isub, 1) := by decide +kernel
theorem dX7_count_20 : decode cX7_count 20 = .ok (.invokevirtual 108, 3) := by decide +kernel
theorem dX7_count_23 : decode cX7_count 23 = .ok (.ireturn, 1) := by decide +kernel
theorem dX7_count_24 : decode cX7_count 24 = .ok (.iload_n 1, 1) := by decide +kernel
theorem dX7_count_25 : decode cX7_count 25 = .ok (.tableswitch 188 0 17 #[87, 96, 105, 114, 123, 132, 141, 146, 154, 159, 167, 188, 188, 188, 188, 188, 175, 180], 87) := by decide +kernel
theorem dX7_count_112 : decode cX7_count 112 = .ok (.aload_n 0, 1) := by decide +kernel
theorem dX7_count_113 : decode cX7_count 113 = .ok (.getfield 12, 3) := by decide +kernel
theorem dX7_count_116 : decode cX7_count 116 = .ok (.iconst 0, 1) := by decide +kernel
theorem dX7_count_117 : decode cX7_count 117 = .ok (.invokevirtual 80, 3) := by decide +kernel
theorem dX7_count_120 : decode cX7_count 120 = .ok (.ireturn, 1) := by decide +kernel
theorem dX7_count_121 : decode cX7_count 121 = .ok (.aload_n 0, 1) := by decide +kernel
theorem dX7_count_122 : decode cX7_count 122 = .ok (.getfield 12, 3) := by decide +kernel
theorem dX7_count_125 : decode cX7_count 125 = .ok (.iconst 1, 1) := by decide +kernel
theorem dX7_count_126 : decode cX7_count 126 = .ok (.invokevirtual 80, 3) := by decide +kernel
theorem dX7_count_129 : decode cX7_count 129 = .ok (.ireturn, 1) := by decide +kernel
theorem dX7_count_130 : decode cX7_count 130 = .ok (.aload_n 0, 1) := by decide +kernel
theorem dX7_count_131 : decode cX7_count 131 = .ok (.getfield 12, 3) := by decide +kernel
theorem dX7_count_134 : decode cX7_count 134 = .ok (.iconst 2, 1) := by decide +kernel
theorem dX7_count_135 : decode cX7_count 135 = .ok (.invokevirtual 80, 3) := by decide +kernel
theorem dX7_count_138 : decode cX7_count 138 = .ok (.ireturn, 1) := by decide +kernel
theorem dX7_count_139 : decode cX7_count 139 = .ok (.aload_n 0, 1) := by decide +kernel
theorem dX7_count_140 : decode cX7_count 140 = .ok (.getfield 12, 3) := by decide +kernel
theorem dX7_count_143 : decode cX7_count 143 = .ok (.iconst 3, 1) := by decide +kernel
theorem dX7_count_144 : decode cX7_count 144 = .ok (.invokevirtual 80, 3) := by decide +kernel
theorem dX7_count_147 : decode cX7_count 147 = .ok (.ireturn, 1) := by decide +kernel
theorem dX7_count_148 : decode cX7_count 148 = .ok (.aload_n 0, 1) := by decide +kernel
theorem dX7_count_149 : decode cX7_count 149 = .ok (.getfield 12, 3) := by decide +kernel
theorem dX7_count_152 : decode cX7_count 152 = .ok (.iconst 4, 1) := by decide +kernel
theorem dX7_count_153 : decode cX7_count 153 = .ok (.invokevirtual 80, 3) := by decide +kernel
theorem dX7_count_156 : decode cX7_count 156 = .ok (.ireturn, 1) := by decide +kernel
theorem dX7_count_157 : decode cX7_count 157 = .ok (.aload_n 0, 1) := by decide +kernel
theorem dX7_count_158 : decode cX7_count 158 = .ok (.getfield 12, 3) := by decide +kernel
theorem dX7_count_161 : decode cX7_count 161 = .ok (.iconst 5, 1) := by decide +kernel
theorem dX7_count_162 : decode cX7_count 162 = .ok (.invokevirtual 80, 3) := by decide +kernel
theorem dX7_count_165 : decode cX7_count 165 = .ok (.ireturn, 1) := by decide +kernel
theorem dX7_count_166 : decode cX7_count 166 = .ok (.aload_n 0, 1) := by decide +kernel
theorem dX7_count_167 : decode cX7_count 167 = .ok (.invokevirtual 111, 3) := by decide +kernel
theorem dX7_count_170 : decode cX7_count 170 = .ok (.ireturn, 1) := by decide +kernel
theorem dX7_count_171 : decode cX7_count 171 = .ok (.aload_n 0, 1) := by decide +kernel
theorem dX7_count_172 : decode cX7_count 172 = .ok (.getfield 26, 3) := by decide +kernel
theorem dX7_count_175 : decode cX7_count 175 = .ok (.getfield 115, 3) := by decide +kernel
theorem dX7_count_178 : decode cX7_count 178 = .ok (.ireturn, 1) := by decide +kernel
theorem dX7_count_179 : decode cX7_count 179 = .ok (.aload_n 0, 1) := by decide +kernel
theorem dX7_count_180 : decode cX7_count 180 = .ok (.invokevirtual 119, 3) := by decide +kernel
theorem dX7_count_183 : decode cX7_count 183 = .ok (.ireturn, 1) := by decide +kernel
theorem dX7_count_184 : decode cX7_count 184 = .ok (.aload_n 0, 1) := by decide +kernel
theorem dX7_count_185 : decode cX7_count 185 = .ok (.getfield 19, 3) := by decide +kernel
theorem dX7_count_188 : decode cX7_count 188 = .ok (.getfield 122, 3) := by decide +kernel
theorem dX7_count_191 : decode cX7_count 191 = .ok (.ireturn, 1) := by decide +kernel
theorem dX7_count_192 : decode cX7_count 192 = .ok (.aload_n 0, 1) := by decide +kernel
theorem dX7_count_193 : decode cX7_count 193 = .ok (.getfield 33, 3) := by decide +kernel
theorem dX7_count_196 : decode cX7_count 196 = .ok (.getfield 125, 3) := by decide +kernel
theorem dX7_count_199 : decode cX7_count 199 = .ok (.ireturn, 1) := by decide +kernel
theorem dX7_count_200 : decode cX7_count 200 = .ok (.aload_n 0, 1) := by decide +kernel
theorem dX7_count_201 : decode cX7_count 201 = .ok (.invokevirtual 128, 3) := by decide +kernel
theorem dX7_count_204 : decode cX7_count 204 = .ok (.ireturn, 1) := by decide +kernel
theorem dX7_count_205 : decode cX7_count 205 = .ok (.aload_n 0, 1) := by decide +kernel
theorem dX7_count_206 : decode cX7_count 206 = .ok (.getfield 26, 3) := by decide +kernel
theorem dX7_count_209 : decode cX7_count 209 = .ok (.getfield 115, 3) := by decide +kernel
theorem dX7_count_212 : decode cX7_count 212 = .ok (.ireturn, 1) := by decide +kernel
theorem dX7_count_213 : decode cX7_count 213 = .ok (.sipush (-10001), 3) := by decide +kernel
theorem dX7_count_216 : decode cX7_count 216 = .ok (.ireturn, 1) := by decide +kernel
theorem dX7_hint_0 : decode cX7_hint 0 = .ok (.aload_n 0, 1) := by decide +kernel
theorem dX7_hint_1 : decode cX7_hint 1 = .ok (.iload_n 1, 1) := by decide +kernel
theorem dX7_hint_2 : decode cX7_hint 2 = .ok (.invokevirtual 88, 3) := by decide +kernel
theorem dX7_hint_5 : decode cX7_hint 5 = .ok (.ifCond .eq 17, 3) := by decide +kernel
theorem dX7_hint_8 : decode cX7_hint 8 = .ok (.iload_n 2, 1) := by decide +kernel
theorem dX7_hint_9 : decode cX7_hint 9 = .ok (.invokestatic 77, 3) := by decide +kernel
theorem dX7_hint_12 : decode cX7_hint 12 = .ok (.ifCond .eq 10, 3) := by decide +kernel
theorem dX7_hint_15 : decode cX7_hint 15 = .ok (.iload_n 3, 1) := by decide +kernel
theorem dX7_hint_16 : decode cX7_hint 16 = .ok (.invokestatic 77, 3) := by decide +kernel
theorem dX7_hint_19 : decode cX7_hint 19 = .ok (.ifCond .ne 7, 3) := by decide +kernel
theorem dX7_hint_22 : decode cX7_hint 22 = .ok (.sipush (-10001), 3) := by decide +kernel
theorem dX7_hint_25 : decode cX7_hint 25 = .ok (.ireturn, 1) := by decide +kernel
theorem dX7_hint_26 : decode cX7_hint 26 = .ok (.iload 4, 2) := by decide +kernel
theorem dX7_hint_28 : decode cX7_hint 28 = .ok (.invokestatic 131, 3) := by decide +kernel
theorem dX7_hint_31 : decode cX7_hint 31 = .ok (.ifCond .eq 18, 3) := by decide +kernel
theorem dX7_hint_34 : decode cX7_hint 34 = .ok (.iload 5, 2) := by decide +kernel
theorem dX7_hint_36 : decode cX7_hint 36 = .ok (.ifCond .lt 13, 3) := by decide +kernel
theorem dX7_hint_39 : decode cX7_hint 39 = .ok (.iload 5, 2) := by decide +kernel
theorem dX7_hint_41 : decode cX7_hint 41 = .ok (.aload_n 0, 1) := by decide +kernel
theorem dX7_hint_42 : decode cX7_hint 42 = .ok (.iconst 4, 1) := by decide +kernel
theorem dX7_hint_43 : decode cX7_hint 43 = .ok (.invokevirtual 134, 3) := by decide +kernel
theorem dX7_hint_46 : decode cX7_hint 46 = .ok (.if_icmp .le 7, 3) := by decide +kernel
theorem dX7_hint_49 : decode cX7_hint 49 = .ok (.sipush (-10001), 3) := by decide +kernel
theorem dX7_hint_52 : decode cX7_hint 52 = .ok (.ireturn, 1) := by decide +kernel
theorem dX7_hint_53 : decode cX7_hint 53 = .ok (.aload_n 0, 1) := by decide +kernel
theorem dX7_hint_54 : decode cX7_hint 54 = .ok (.getfield 12, 3) := by decide +kernel
theorem dX7_hint_57 : decode cX7_hint 57 = .ok (.iconst 5, 1) := by decide +kernel
theorem dX7_hint_58 : decode cX7_hint 58 = .ok (.invokevirtual 80, 3) := by decide +kernel
theorem dX7_hint_61 : decode cX7_hint 61 = .ok (.istore 6, 2) := by decide +kernel
theorem dX7_hint_63 : decode cX7_hint 63 = .ok (.iload 6, 2) := by decide +kernel
theorem dX7_hint_65 : decode cX7_hint 65 = .ok (.bipush 12, 2) := by decide +kernel
theorem dX7_hint_67 : decode cX7_hint 67 = .ok (.if_icmp .lt 7, 3) := by decide +kernel
theorem dX7_hint_70 : decode cX7_hint 70 = .ok (.sipush (-10003), 3) := by decide +kernel
theorem dX7_hint_73 : decode cX7_hint 73 = .ok (.ireturn, 1) := by decide +kernel
theorem dX7_hint_74 : decode cX7_hint 74 = .ok (.aload_n 0, 1) := by decide +kernel
theorem dX7_hint_75 : decode cX7_hint 75 = .ok (.getfield 19, 3) := by decide +kernel
theorem dX7_hint_78 : decode cX7_hint 78 = .ok (.aload_n 0, 1) := by decide +kernel
theorem dX7_hint_79 : decode cX7_hint 79 = .ok (.getfield 12, 3) := by decide +kernel
theorem dX7_hint_82 : decode cX7_hint 82 = .ok (.invokevirtual 55, 3) := by decide +kernel
theorem dX7_hint_85 : decode cX7_hint 85 = .ok (.aload_n 0, 1) := by decide +kernel
theorem dX7_hint_86 : decode cX7_hint 86 = .ok (.getfield 12, 3) := by decide +kernel
theorem dX7_hint_89 : decode cX7_hint 89 = .ok (.iconst 5, 1) := by decide +kernel
theorem dX7_hint_90 : decode cX7_hint 90 = .ok (.iload 6, 2) := by decide +kernel
theorem dX7_hint_92 : decode cX7_hint 92 = .ok (.iconst 1, 1) := by decide +kernel
theorem dX7_hint_93 : decode cX7_hint 93 = .ok (.iadd, 1) := by decide +kernel
theorem dX7_hint_94 : decode cX7_hint 94 = .ok (.invokevirtual 59, 3) := by decide +kernel
theorem dX7_hint_97 : decode cX7_hint 97 = .ok (.aload_n 0, 1) := by decide +kernel
theorem dX7_hint_98 : decode cX7_hint 98 = .ok (.getfield 12, 3) := by decide +kernel
theorem dX7_hint_101 : decode cX7_hint 101 = .ok (.iload 6, 2) := by decide +kernel
theorem dX7_hint_103 : decode cX7_hint 103 = .ok (.iconst 0, 1) := by decide +kernel
theorem dX7_hint_104 : decode cX7_hint 104 = .ok (.iload_n 1, 1) := by decide +kernel
theorem dX7_hint_105 : decode cX7_hint 105 = .ok (.invokevirtual 137, 3) := by decide +kernel
theorem dX7_hint_108 : decode cX7_hint 108 = .ok (.aload_n 0, 1) := by decide +kernel
theorem dX7_hint_109 : decode cX7_hint 109 = .ok (.getfield 12, 3) := by decide +kernel
theorem dX7_hint_112 : decode cX7_hint 112 = .ok (.iload 6, 2) := by decide +kernel
theorem dX7_hint_114 : decode cX7_hint 114 = .ok (.iconst 1, 1) := by decide +kernel
theorem dX7_hint_115 : decode cX7_hint 115 = .ok (.iload_n 2, 1) := by decide +kernel
theorem dX7_hint_116 : decode cX7_hint 116 = .ok (.invokevirtual 137, 3) := by decide +kernel
theorem dX7_hint_119 : decode cX7_hint 119 = .ok (.aload_n 0, 1) := by decide +kernel
theorem dX7_hint_120 : decode cX7_hint 120 = .ok (.getfield 12, 3) := by decide +kernel
theorem dX7_hint_123 : decode cX7_hint 123 = .ok (.iload 6, 2) := by decide +kernel
theorem dX7_hint_125 : decode cX7_hint 125 = .ok (.iconst 2, 1) := by decide +kernel
theorem dX7_hint_126 : decode cX7_hint 126 = .ok (.iload_n 3, 1) := by decide +kernel
theorem dX7_hint_127 : decode cX7_hint 127 = .ok (.invokevirtual 137, 3) := by decide +kernel
theorem dX7_hint_130 : decode cX7_hint 130 = .ok (.aload_n 0, 1) := by decide +kernel
theorem dX7_hint_131 : decode cX7_hint 131 = .ok (.getfield 12, 3) := by decide +kernel
theorem dX7_hint_134 : decode cX7_hint 134 = .ok (.iload 6, 2) := by decide +kernel
theorem dX7_hint_136 : decode cX7_hint 136 = .ok (.iconst 3, 1) := by decide +kernel
theorem dX7_hint_137 : decode cX7_hint 137 = .ok (.iload 4, 2) := by decide +kernel
theorem dX7_hint_139 : decode cX7_hint 139 = .ok (.invokevirtual 137, 3) := by decide +kernel
theorem dX7_hint_142 : decode cX7_hint 142 = .ok (.aload_n 0, 1) := by decide +kernel
theorem dX7_hint_143 : decode cX7_hint 143 = .ok (.getfield 12, 3) := by decide +kernel
theorem dX7_hint_146 : decode cX7_hint 146 = .ok (.iload 6, 2) := by decide +kernel
theorem dX7_hint_148 : decode cX7_hint 148 = .ok (.iconst 4, 1) := by decide +kernel
theorem dX7_hint_149 : decode cX7_hint 149 = .ok (.iload 5, 2) := by decide +kernel
theorem dX7_hint_151 : decode cX7_hint 151 = .ok (.invokevirtual 137, 3) := by decide +kernel
theorem dX7_hint_154 : decode cX7_hint 154 = .ok (.aload_n 0, 1) := by decide +kernel
theorem dX7_hint_155 : decode cX7_hint 155 = .ok (.getfield 12, 3) := by decide +kernel
theorem dX7_hint_158 : decode cX7_hint 158 = .ok (.iload 6, 2) := by decide +kernel
theorem dX7_hint_160 : decode cX7_hint 160 = .ok (.iconst 5, 1) := by decide +kernel
theorem dX7_hint_161 : decode cX7_hint 161 = .ok (.iconst 0, 1) := by decide +kernel
theorem dX7_hint_162 : decode cX7_hint 162 = .ok (.invokevirtual 137, 3) := by decide +kernel
theorem dX7_hint_165 : decode cX7_hint 165 = .ok (.aload_n 0, 1) := by decide +kernel
theorem dX7_hint_166 : decode cX7_hint 166 = .ok (.getfield 12, 3) := by decide +kernel
theorem dX7_hint_169 : decode cX7_hint 169 = .ok (.iload 6, 2) := by decide +kernel
theorem dX7_hint_171 : decode cX7_hint 171 = .ok (.bipush 6, 2) := by decide +kernel
theorem dX7_hint_173 : decode cX7_hint 173 = .ok (.iconst 0, 1) := by decide +kernel
theorem dX7_hint_174 : decode cX7_hint 174 = .ok (.invokevirtual 137, 3) := by decide +kernel
theorem dX7_hint_177 : decode cX7_hint 177 = .ok (.aload_n 0, 1) := by decide +kernel
theorem dX7_hint_178 : decode cX7_hint 178 = .ok (.getfield 12, 3) := by decide +kernel
theorem dX7_hint_181 : decode cX7_hint 181 = .ok (.iload 6, 2) := by decide +kernel
theorem dX7_hint_183 : decode cX7_hint 183 = .ok (.bipush 7, 2) := by decide +kernel
theorem dX7_hint_185 : decode cX7_hint 185 = .ok (.iconst 0, 1) := by decide +kernel
theorem dX7_hint_186 : decode cX7_hint 186 = .ok (.invokevirtual 137, 3) := by decide +kernel
theorem dX7_hint_189 : decode cX7_hint 189 = .ok (.aload_n 0, 1) := by decide +kernel
theorem dX7_hint_190 : decode cX7_hint 190 = .ok (.getfield 12, 3) := by decide +kernel
theorem dX7_hint_193 : decode cX7_hint 193 = .ok (.iload 6, 2) := by decide +kernel
theorem dX7_hint_195 : decode cX7_hint 195 = .ok (.bipush 8, 2) := by decide +kernel
theorem dX7_hint_197 : decode cX7_hint 197 = .ok (.iconst 0, 1) := by decide +kernel
theorem dX7_hint_198 : decode cX7_hint 198 = .ok (.invokevirtual 137, 3) := by decide +kernel
theorem dX7_hint_201 : decode cX7_hint 201 = .ok (.aload_n 0, 1) := by decide +kernel
theorem dX7_hint_202 : decode cX7_hint 202 = .ok (.getfield 12, 3) := by decide +kernel
theorem dX7_hint_205 : decode cX7_hint 205 = .ok (.iload 6, 2) := by decide +kernel
theorem dX7_hint_207 : decode cX7_hint 207 = .ok (.bipush 9, 2) := by decide +kernel
theorem dX7_hint_209 : decode cX7_hint 209 = .ok (.iconst (-1), 1) := by decide +kernel
theorem dX7_hint_210 : decode cX7_hint 210 = .ok (.invokevirtual 137, 3) := by decide +kernel
theorem dX7_hint_213 : decode cX7_hint 213 = .ok (.aload_n 0, 1) := by decide +kernel
theorem dX7_hint_214 : decode cX7_hint 214 = .ok (.getfield 26, 3) := by decide +kernel
theorem dX7_hint_217 : decode cX7_hint 217 = .ok (.aload_n 0, 1) := by decide +kernel
theorem dX7_hint_218 : decode cX7_hint 218 = .ok (.getfield 12, 3) := by decide +kernel
theorem dX7_hint_221 : decode cX7_hint 221 = .ok (.invokevirtual 63, 3) := by decide +kernel
theorem dX7_hint_224 : decode cX7_hint 224 = .ok (.pop, 1) := by decide +kernel
theorem dX7_hint_225 : decode cX7_hint 225 = .ok (.iload 6, 2) := by decide +kernel
theorem dX7_hint_227 : decode cX7_hint 227 = .ok (.ireturn, 1) := by decide +kernel
theorem dX7_alter_0 : decode cX7_alter 0 = .ok (.aload_n 0, 1) := by decide +kernel
theorem dX7_alter_1 : decode cX7_alter 1 = .ok (.iload_n 1, 1) := by decide +kernel
theorem dX7_alter_2 : decode cX7_alter 2 = .ok (.invokevirtual 140, 3) := by decide +kernel
theorem dX7_alter_5 : decode cX7_alter 5 = .ok (.ifCond .eq 13, 3) := by decide +kernel
theorem dX7_alter_8 : decode cX7_alter 8 = .ok (.iload_n 2, 1) := by decide +kernel
theorem dX7_alter_9 : decode cX7_alter 9 = .ok (.ifCond .lt 9, 3) := by decide +kernel
theorem dX7_alter_12 : decode cX7_alter 12 = .ok (.iload_n 2, 1) := by decide +kernel
theorem dX7_alter_13 : decode cX7_alter 13 = .ok (.bipush 8, 2) := by decide +kernel
theorem dX7_alter_15 : decode cX7_alter 15 = .ok (.if_icmp .lt 7, 3) := by decide +kernel
theorem dX7_alter_18 : decode cX7_alter 18 = .ok (.sipush (-10001), 3) := by decide +kernel
theorem dX7_alter_21 : decode cX7_alter 21 = .ok (.ireturn, 1) := by decide +kernel
theorem dX7_alter_22 : decode cX7_alter 22 = .ok (.iload_n 3, 1) := by decide +kernel
theorem dX7_alter_23 : decode cX7_alter 23 = .ok (.iload_n 2, 1) := by decide +kernel
theorem dX7_alter_24 : decode cX7_alter 24 = .ok (.invokestatic 143, 3) := by decide +kernel
theorem dX7_alter_27 : decode cX7_alter 27 = .ok (.if_icmp .lt 12, 3) := by decide +kernel
theorem dX7_alter_30 : decode cX7_alter 30 = .ok (.iload_n 3, 1) := by decide +kernel
theorem dX7_alter_31 : decode cX7_alter 31 = .ok (.aload_n 0, 1) := by decide +kernel
theorem dX7_alter_32 : decode cX7_alter 32 = .ok (.iload_n 2, 1) := by decide +kernel
theorem dX7_alter_33 : decode cX7_alter 33 = .ok (.invokevirtual 134, 3) := by decide +kernel
theorem dX7_alter_36 : decode cX7_alter 36 = .ok (.if_icmp .le 7, 3) := by decide +kernel
theorem dX7_alter_39 : decode cX7_alter 39 = .ok (.sipush (-10001), 3) := by decide +kernel
theorem dX7_alter_42 : decode cX7_alter 42 = .ok (.ireturn, 1) := by decide +kernel
theorem dX7_alter_43 : decode cX7_alter 43 = .ok (.aload_n 0, 1) := by decide +kernel
theorem dX7_alter_44 : decode cX7_alter 44 = .ok (.getfield 12, 3) := by decide +kernel
theorem dX7_alter_47 : decode cX7_alter 47 = .ok (.iload_n 1, 1) := by decide +kernel
theorem dX7_alter_48 : decode cX7_alter 48 = .ok (.iload_n 2, 1) := by decide +kernel
theorem dX7_alter_49 : decode cX7_alter 49 = .ok (.invokevirtual 146, 3) := by decide +kernel
theorem dX7_alter_52 : decode cX7_alter 52 = .ok (.istore 4, 2) := by decide +kernel
theorem dX7_alter_54 : decode cX7_alter 54 = .ok (.aload_n 0, 1) := by decide +kernel
theorem dX7_alter_55 : decode cX7_alter 55 = .ok (.getfield 19, 3) := by decide +kernel
theorem dX7_alter_58 : decode cX7_alter 58 = .ok (.aload_n 0, 1) := by decide +kernel
theorem dX7_alter_59 : decode cX7_alter 59 = .ok (.getfield 12, 3) := by decide +kernel
theorem dX7_alter_62 : decode cX7_alter 62 = .ok (.invokevirtual 55, 3) := by decide +kernel
theorem dX7_alter_65 : decode cX7_alter 65 = .ok (.aload_n 0, 1) := by decide +kernel
theorem dX7_alter_66 : decode cX7_alter 66 = .ok (.getfield 12, 3) := by decide +kernel
theorem dX7_alter_69 : decode cX7_alter 69 = .ok (.iload_n 1, 1) := by decide +kernel
theorem dX7_alter_70 : decode cX7_alter 70 = .ok (.iload_n 2, 1) := by decide +kernel
theorem dX7_alter_71 : decode cX7_alter 71 = .ok (.iload_n 3, 1) := by decide +kernel
theorem dX7_alter_72 : decode cX7_alter 72 = .ok (.invokevirtual 137, 3) := by decide +kernel
theorem dX7_alter_75 : decode cX7_alter 75 = .ok (.iload_n 2, 1) := by decide +kernel
theorem dX7_alter_76 : decode cX7_alter 76 = .ok (.ifCond .eq 8, 3) := by decide +kernel
theorem dX7_alter_79 : decode cX7_alter 79 = .ok (.iload_n 2, 1) := by decide +kernel
theorem dX7_alter_80 : decode cX7_alter 80 = .ok (.iconst 3, 1) := by decide +kernel
theorem dX7_alter_81 : decode cX7_alter 81 = .ok (.if_icmp .ne 14, 3) := by decide +kernel
theorem dX7_alter_84 : decode cX7_alter 84 = .ok (.aload_n 0, 1) := by decide +kernel
theorem dX7_alter_85 : decode cX7_alter 85 = .ok (.getfield 12, 3) := by decide +kernel
theorem dX7_alter_88 : decode cX7_alter 88 = .ok (.iload_n 1, 1) := by decide +kernel
theorem dX7_alter_89 : decode cX7_alter 89 = .ok (.bipush 9, 2) := by decide +kernel
theorem dX7_alter_91 : decode cX7_alter 91 = .ok (.iconst (-1), 1) := by decide +kernel
theorem dX7_alter_92 : decode cX7_alter 92 = .ok (.invokevirtual 137, 3) := by decide +kernel
theorem dX7_alter_95 : decode cX7_alter 95 = .ok (.aload_n 0, 1) := by decide +kernel
theorem dX7_alter_96 : decode cX7_alter 96 = .ok (.getfield 26, 3) := by decide +kernel
theorem dX7_alter_99 : decode cX7_alter 99 = .ok (.aload_n 0, 1) := by decide +kernel
theorem dX7_alter_100 : decode cX7_alter 100 = .ok (.getfield 12, 3) := by decide +kernel
theorem dX7_alter_103 : decode cX7_alter 103 = .ok (.invokevirtual 63, 3) := by decide +kernel
theorem dX7_alter_106 : decode cX7_alter 106 = .ok (.pop, 1) := by decide +kernel
theorem dX7_alter_107 : decode cX7_alter 107 = .ok (.iload 4, 2) := by decide +kernel
theorem dX7_alter_109 : decode cX7_alter 109 = .ok (.ireturn, 1) := by decide +kernel
theorem dX7_open_0 : decode cX7_open 0 = .ok (.aload_n 0, 1) := by decide +kernel
theorem dX7_open_1 : decode cX7_open 1 = .ok (.iload_n 1, 1) := by decide +kernel
theorem dX7_open_2 : decode cX7_open 2 = .ok (.invokevirtual 140, 3) := by decide +kernel
theorem dX7_open_5 : decode cX7_open 5 = .ok (.ifCond .ne 7, 3) := by decide +kernel
theorem dX7_open_8 : decode cX7_open 8 = .ok (.sipush (-10001), 3) := by decide +kernel
theorem dX7_open_11 : decode cX7_open 11 = .ok (.ireturn, 1) := by decide +kernel
theorem dX7_open_12 : decode cX7_open 12 = .ok (.aload_n 0, 1) := by decide +kernel
theorem dX7_open_13 : decode cX7_open 13 = .ok (.getfield 12, 3) := by decide +kernel
theorem dX7_open_16 : decode cX7_open 16 = .ok (.iload_n 1, 1) := by decide +kernel
theorem dX7_open_17 : decode cX7_open 17 = .ok (.invokevirtual 149, 3) := by decide +kernel
theorem dX7_open_20 : decode cX7_open 20 = .ok (.ifCond .eq 7, 3) := by decide +kernel
theorem dX7_open_23 : decode cX7_open 23 = .ok (.sipush (-10002), 3) := by decide +kernel
theorem dX7_open_26 : decode cX7_open 26 = .ok (.ireturn, 1) := by decide +kernel
theorem dX7_open_27 : decode cX7_open 27 = .ok (.aload_n 0, 1) := by decide +kernel
theorem dX7_open_28 : decode cX7_open 28 = .ok (.getfield 19, 3) := by decide +kernel
theorem dX7_open_31 : decode cX7_open 31 = .ok (.aload_n 0, 1) := by decide +kernel
theorem dX7_open_32 : decode cX7_open 32 = .ok (.getfield 12, 3) := by decide +kernel
theorem dX7_open_35 : decode cX7_open 35 = .ok (.invokevirtual 55, 3) := by decide +kernel
theorem dX7_open_38 : decode cX7_open 38 = .ok (.aload_n 0, 1) := by decide +kernel
theorem dX7_open_39 : decode cX7_open 39 = .ok (.iload_n 1, 1) := by decide +kernel
theorem dX7_open_40 : decode cX7_open 40 = .ok (.invokevirtual 152, 3) := by decide +kernel
theorem dX7_open_43 : decode cX7_open 43 = .ok (.aload_n 0, 1) := by decide +kernel
theorem dX7_open_44 : decode cX7_open 44 = .ok (.getfield 26, 3) := by decide +kernel
theorem dX7_open_47 : decode cX7_open 47 = .ok (.aload_n 0, 1) := by decide +kernel
theorem dX7_open_48 : decode cX7_open 48 = .ok (.getfield 12, 3) := by decide +kernel
theorem dX7_open_51 : decode cX7_open 51 = .ok (.invokevirtual 63, 3) := by decide +kernel
theorem dX7_open_54 : decode cX7_open 54 = .ok (.pop, 1) := by decide +kernel
theorem dX7_open_55 : decode cX7_open 55 = .ok (.aload_n 0, 1) := by decide +kernel
theorem dX7_open_56 : decode cX7_open 56 = .ok (.getfield 26, 3) := by decide +kernel
theorem dX7_open_59 : decode cX7_open 59 = .ok (.getfield 156, 3) := by decide +kernel
theorem dX7_open_62 : decode cX7_open 62 = .ok (.iload_n 1, 1) := by decide +kernel
theorem dX7_open_63 : decode cX7_open 63 = .ok (.invokevirtual 160, 3) := by decide +kernel
theorem dX7_open_66 : decode cX7_open 66 = .ok (.ireturn, 1) := by decide +kernel
theorem dX7_close_0 : decode cX7_close 0 = .ok (.aload_n 0, 1) := by decide +kernel
theorem dX7_close_1 : decode cX7_close 1 = .ok (.iload_n 1, 1) := by decide +kernel
theorem dX7_close_2 : decode cX7_close 2 = .ok (.invokevirtual 140, 3) := by decide +kernel
theorem dX7_close_5 : decode cX7_close 5 = .ok (.ifCond .ne 7, 3) := by decide +kernel
theorem dX7_close_8 : decode cX7_close 8 = .ok (.sipush (-10001), 3) := by decide +kernel
theorem dX7_close_11 : decode cX7_close 11 = .ok (.ireturn, 1) := by decide +kernel
theorem dX7_close_12 : decode cX7_close 12 = .ok (.aload_n 0, 1) := by decide +kernel
theorem dX7_close_13 : decode cX7_close 13 = .ok (.getfield 12, 3) := by decide +kernel
theorem dX7_close_16 : decode cX7_close 16 = .ok (.iload_n 1, 1) := by decide +kernel
theorem dX7_close_17 : decode cX7_close 17 = .ok (.invokevirtual 149, 3) := by decide +kernel
theorem dX7_close_20 : decode cX7_close 20 = .ok (.ifCond .ne 7, 3) := by decide +kernel
theorem dX7_close_23 : decode cX7_close 23 = .ok (.sipush (-10002), 3) := by decide +kernel
theorem dX7_close_26 : decode cX7_close 26 = .ok (.ireturn, 1) := by decide +kernel
theorem dX7_close_27 : decode cX7_close 27 = .ok (.aload_n 0, 1) := by decide +kernel
theorem dX7_close_28 : decode cX7_close 28 = .ok (.getfield 19, 3) := by decide +kernel
theorem dX7_close_31 : decode cX7_close 31 = .ok (.aload_n 0, 1) := by decide +kernel
theorem dX7_close_32 : decode cX7_close 32 = .ok (.getfield 12, 3) := by decide +kernel
theorem dX7_close_35 : decode cX7_close 35 = .ok (.invokevirtual 55, 3) := by decide +kernel
theorem dX7_close_38 : decode cX7_close 38 = .ok (.aload_n 0, 1) := by decide +kernel
theorem dX7_close_39 : decode cX7_close 39 = .ok (.iload_n 1, 1) := by decide +kernel
theorem dX7_close_40 : decode cX7_close 40 = .ok (.invokevirtual 163, 3) := by decide +kernel
theorem dX7_close_43 : decode cX7_close 43 = .ok (.aload_n 0, 1) := by decide +kernel
theorem dX7_close_44 : decode cX7_close 44 = .ok (.getfield 26, 3) := by decide +kernel
theorem dX7_close_47 : decode cX7_close 47 = .ok (.aload_n 0, 1) := by decide +kernel
theorem dX7_close_48 : decode cX7_close 48 = .ok (.getfield 12, 3) := by decide +kernel
theorem dX7_close_51 : decode cX7_close 51 = .ok (.invokevirtual 63, 3) := by decide +kernel
theorem dX7_close_54 : decode cX7_close 54 = .ok (.ireturn, 1) := by decide +kernel
theorem dX7_settle_0 : decode cX7_settle 0 = .ok (.aload_n 0, 1) := by decide +kernel
theorem dX7_settle_1 : decode cX7_settle 1 = .ok (.getfield 19, 3) := by decide +kernel
theorem dX7_settle_4 : decode cX7_settle 4 = .ok (.aload_n 0, 1) := by decide +kernel
theorem dX7_settle_5 : decode cX7_settle 5 = .ok (.getfield 12, 3) := by decide +kernel
theorem dX7_settle_8 : decode cX7_settle 8 = .ok (.invokevirtual 55, 3) := by decide +kernel
theorem dX7_settle_11 : decode cX7_settle 11 = .ok (.aload_n 0, 1) := by decide +kernel
theorem dX7_settle_12 : decode cX7_settle 12 = .ok (.invokevirtual 166, 3) := by decide +kernel
theorem dX7_settle_15 : decode cX7_settle 15 = .ok (.istore_n 1, 1) := by decide +kernel
theorem dX7_settle_16 : decode cX7_settle 16 = .ok (.aload_n 0, 1) := by decide +kernel
theorem dX7_settle_17 : decode cX7_settle 17 = .ok (.getfield 26, 3) := by decide +kernel
theorem dX7_settle_20 : decode cX7_settle 20 = .ok (.aload_n 0, 1) := by decide +kernel
theorem dX7_settle_21 : decode cX7_settle 21 = .ok (.getfield 12, 3) := by decide +kernel
theorem dX7_settle_24 : decode cX7_settle 24 = .ok (.invokevirtual 63, 3) := by decide +kernel
theorem dX7_settle_27 : decode cX7_settle 27 = .ok (.pop, 1) := by decide +kernel
theorem dX7_settle_28 : decode cX7_settle 28 = .ok (.iload_n 1, 1) := by decide +kernel
theorem dX7_settle_29 : decode cX7_settle 29 = .ok (.ireturn, 1) := by decide +kernel
theorem dX7_hintOf_0 : decode cX7_hintOf 0 = .ok (.aload_n 0, 1) := by decide +kernel
theorem dX7_hintOf_1 : decode cX7_hintOf 1 = .ok (.iload_n 1, 1) := by decide +kernel
theorem dX7_hintOf_2 : decode cX7_hintOf 2 = .ok (.invokevirtual 140, 3) := by decide +kernel
theorem dX7_hintOf_5 : decode cX7_hintOf 5 = .ok (.ifCond .eq 13, 3) := by decide +kernel
theorem dX7_hintOf_8 : decode cX7_hintOf 8 = .ok (.iload_n 2, 1) := by decide +kernel
theorem dX7_hintOf_9 : decode cX7_hintOf 9 = .ok (.ifCond .lt 9, 3) := by decide +kernel
theorem dX7_hintOf_12 : decode cX7_hintOf 12 = .ok (.iload_n 2, 1) := by decide +kernel
theorem dX7_hintOf_13 : decode cX7_hintOf 13 = .ok (.bipush 16, 2) := by decide +kernel
theorem dX7_hintOf_15 : decode cX7_hintOf 15 = .ok (.if_icmp .le 7, 3) := by decide +kernel
theorem dX7_hintOf_18 : decode cX7_hintOf 18 = .ok (.sipush (-10001), 3) := by decide +kernel
theorem dX7_hintOf_21 : decode cX7_hintOf 21 = .ok (.ireturn, 1) := by decide +kernel
theorem dX7_hintOf_22 : decode cX7_hintOf 22 = .ok (.iload_n 2, 1) := by decide +kernel
theorem dX7_hintOf_23 : decode cX7_hintOf 23 = .ok (.bipush 8, 2) := by decide +kernel
theorem dX7_hintOf_25 : decode cX7_hintOf 25 = .ok (.if_icmp .ge 13, 3) := by decide +kernel
theorem dX7_hintOf_28 : decode cX7_hintOf 28 = .ok (.aload_n 0, 1) := by decide +kernel
theorem dX7_hintOf_29 : decode cX7_hintOf 29 = .ok (.getfield 12, 3) := by decide +kernel
theorem dX7_hintOf_32 : decode cX7_hintOf 32 = .ok (.iload_n 1, 1) := by decide +kernel
theorem dX7_hintOf_33 : decode cX7_hintOf 33 = .ok (.iload_n 2, 1) := by decide +kernel
theorem dX7_hintOf_34 : decode cX7_hintOf 34 = .ok (.invokevirtual 146, 3) := by decide +kernel
theorem dX7_hintOf_37 : decode cX7_hintOf 37 = .ok (.ireturn, 1) := by decide +kernel
theorem dX7_hintOf_38 : decode cX7_hintOf 38 = .ok (.iload_n 2, 1) := by decide +kernel
theorem dX7_hintOf_39 : decode cX7_hintOf 39 = .ok (.bipush 8, 2) := by decide +kernel
theorem dX7_hintOf_41 : decode cX7_hintOf 41 = .ok (.if_icmp .ne 15, 3) := by decide +kernel
theorem dX7_hintOf_44 : decode cX7_hintOf 44 = .ok (.aload_n 0, 1) := by decide +kernel
theorem dX7_hintOf_45 : decode cX7_hintOf 45 = .ok (.getfield 26, 3) := by decide +kernel
theorem dX7_hintOf_48 : decode cX7_hintOf 48 = .ok (.getfield 156, 3) := by decide +kernel
theorem dX7_hintOf_51 : decode cX7_hintOf 51 = .ok (.iload_n 1, 1) := by decide +kernel
theorem dX7_hintOf_52 : decode cX7_hintOf 52 = .ok (.invokevirtual 160, 3) := by decide +kernel
theorem dX7_hintOf_55 : decode cX7_hintOf 55 = .ok (.ireturn, 1) := by decide +kernel
theorem dX7_hintOf_56 : decode cX7_hintOf 56 = .ok (.iload_n 2, 1) := by decide +kernel
theorem dX7_hintOf_57 : decode cX7_hintOf 57 = .ok (.bipush 15, 2) := by decide +kernel
theorem dX7_hintOf_59 : decode cX7_hintOf 59 = .ok (.if_icmp .ne 27, 3) := by decide +kernel
theorem dX7_hintOf_62 : decode cX7_hintOf 62 = .ok (.aload_n 0, 1) := by decide +kernel
theorem dX7_hintOf_63 : decode cX7_hintOf 63 = .ok (.getfield 12, 3) := by decide +kernel
theorem dX7_hintOf_66 : decode cX7_hintOf 66 = .ok (.iload_n 1, 1) := by decide +kernel
theorem dX7_hintOf_67 : decode cX7_hintOf 67 = .ok (.bipush 9, 2) := by decide +kernel
theorem dX7_hintOf_69 : decode cX7_hintOf 69 = .ok (.invokevirtual 146, 3) := by decide +kernel
theorem dX7_hintOf_72 : decode cX7_hintOf 72 = .ok (.istore_n 3, 1) := by decide +kernel
theorem dX7_hintOf_73 : decode cX7_hintOf 73 = .ok (.iload_n 3, 1) := by decide +kernel
theorem dX7_hintOf_74 : decode cX7_hintOf 74 = .ok (.iconst (-1), 1) := by decide +kernel
theorem dX7_hintOf_75 : decode cX7_hintOf 75 = .ok (.if_icmp .ne 9, 3) := by decide +kernel
theorem dX7_hintOf_78 : decode cX7_hintOf 78 = .ok (.sipush (-10004), 3) := by decide +kernel
theorem dX7_hintOf_81 : decode cX7_hintOf 81 = .ok (.goto 4, 3) := by decide +kernel
theorem dX7_hintOf_84 : decode cX7_hintOf 84 = .ok (.iload_n 3, 1) := by decide +kernel
theorem dX7_hintOf_85 : decode cX7_hintOf 85 = .ok (.ireturn, 1) := by decide +kernel
theorem dX7_hintOf_86 : decode cX7_hintOf 86 = .ok (.iload_n 2, 1) := by decide +kernel
theorem dX7_hintOf_87 : decode cX7_hintOf 87 = .ok (.bipush 16, 2) := by decide +kernel
theorem dX7_hintOf_89 : decode cX7_hintOf 89 = .ok (.if_icmp .ne 29, 3) := by decide +kernel
theorem dX7_hintOf_92 : decode cX7_hintOf 92 = .ok (.aload_n 0, 1) := by decide +kernel
theorem dX7_hintOf_93 : decode cX7_hintOf 93 = .ok (.getfield 12, 3) := by decide +kernel
theorem dX7_hintOf_96 : decode cX7_hintOf 96 = .ok (.iload_n 1, 1) := by decide +kernel
theorem dX7_hintOf_97 : decode cX7_hintOf 97 = .ok (.invokevirtual 149, 3) := by decide +kernel
theorem dX7_hintOf_100 : decode cX7_hintOf 100 = .ok (.ifCond .eq 14, 3) := by decide +kernel
theorem dX7_hintOf_103 : decode cX7_hintOf 103 = .ok (.aload_n 0, 1) := by decide +kernel
theorem dX7_hintOf_104 : decode cX7_hintOf 104 = .ok (.getfield 12, 3) := by decide +kernel
theorem dX7_hintOf_107 : decode cX7_hintOf 107 = .ok (.iload_n 1, 1) := by decide +kernel
theorem dX7_hintOf_108 : decode cX7_hintOf 108 = .ok (.invokevirtual 169, 3) := by decide +kernel
theorem dX7_hintOf_111 : decode cX7_hintOf 111 = .ok (.goto 6, 3) := by decide +kernel
theorem dX7_hintOf_114 : decode cX7_hintOf 114 = .ok (.sipush (-10004), 3) := by decide +kernel
theorem dX7_hintOf_117 : decode cX7_hintOf 117 = .ok (.ireturn, 1) := by decide +kernel
theorem dX7_hintOf_118 : decode cX7_hintOf 118 = .ok (.aload_n 0, 1) := by decide +kernel
theorem dX7_hintOf_119 : decode cX7_hintOf 119 = .ok (.getfield 26, 3) := by decide +kernel
theorem dX7_hintOf_122 : decode cX7_hintOf 122 = .ok (.getfield 156, 3) := by decide +kernel
theorem dX7_hintOf_125 : decode cX7_hintOf 125 = .ok (.iload_n 1, 1) := by decide +kernel
theorem dX7_hintOf_126 : decode cX7_hintOf 126 = .ok (.invokevirtual 160, 3) := by decide +kernel
theorem dX7_hintOf_129 : decode cX7_hintOf 129 = .ok (.ifCond .ne 12, 3) := by decide +kernel
theorem dX7_hintOf_132 : decode cX7_hintOf 132 = .ok (.aload_n 0, 1) := by decide +kernel
theorem dX7_hintOf_133 : decode cX7_hintOf 133 = .ok (.iload_n 1, 1) := by decide +kernel
theorem dX7_hintOf_134 : decode cX7_hintOf 134 = .ok (.iload_n 2, 1) := by decide +kernel
theorem dX7_hintOf_135 : decode cX7_hintOf 135 = .ok (.invokevirtual 172, 3) := by decide +kernel
theorem dX7_hintOf_138 : decode cX7_hintOf 138 = .ok (.goto 6, 3) := by decide +kernel
theorem dX7_hintOf_141 : decode cX7_hintOf 141 = .ok (.sipush (-10004), 3) := by decide +kernel
theorem dX7_hintOf_144 : decode cX7_hintOf 144 = .ok (.ireturn, 1) := by decide +kernel
theorem dX7_ifOn_0 : decode cX7_ifOn 0 = .ok (.aload_n 0, 1) := by decide +kernel
theorem dX7_ifOn_1 : decode cX7_ifOn 1 = .ok (.iload_n 1, 1) := by decide +kernel
theorem dX7_ifOn_2 : decode cX7_ifOn 2 = .ok (.invokevirtual 140, 3) := by decide +kernel
theorem dX7_ifOn_5 : decode cX7_ifOn 5 = .ok (.ifCond .eq 10, 3) := by decide +kernel
theorem dX7_ifOn_8 : decode cX7_ifOn 8 = .ok (.iload_n 2, 1) := by decide +kernel
theorem dX7_ifOn_9 : decode cX7_ifOn 9 = .ok (.invokestatic 131, 3) := by decide +kernel
theorem dX7_ifOn_12 : decode cX7_ifOn 12 = .ok (.ifCond .ne 7, 3) := by decide +kernel
theorem dX7_ifOn_15 : decode cX7_ifOn 15 = .ok (.sipush (-10001), 3) := by decide +kernel
theorem dX7_ifOn_18 : decode cX7_ifOn 18 = .ok (.ireturn, 1) := by decide +kernel
theorem dX7_ifOn_19 : decode cX7_ifOn 19 = .ok (.aload_n 0, 1) := by decide +kernel
theorem dX7_ifOn_20 : decode cX7_ifOn 20 = .ok (.getfield 47, 3) := by decide +kernel
theorem dX7_ifOn_23 : decode cX7_ifOn 23 = .ok (.aload_n 0, 1) := by decide +kernel
theorem dX7_ifOn_24 : decode cX7_ifOn 24 = .ok (.getfield 12, 3) := by decide +kernel
theorem dX7_ifOn_27 : decode cX7_ifOn 27 = .ok (.iload_n 1, 1) := by decide +kernel
theorem dX7_ifOn_28 : decode cX7_ifOn 28 = .ok (.iload_n 2, 1) := by decide +kernel
theorem dX7_ifOn_29 : decode cX7_ifOn 29 = .ok (.aload_n 0, 1) := by decide +kernel
theorem dX7_ifOn_30 : decode cX7_ifOn 30 = .ok (.getfield 12, 3) := by decide +kernel
theorem dX7_ifOn_33 : decode cX7_ifOn 33 = .ok (.iconst 2, 1) := by decide +kernel
theorem dX7_ifOn_34 : decode cX7_ifOn 34 = .ok (.invokevirtual 80, 3) := by decide +kernel
theorem dX7_ifOn_37 : decode cX7_ifOn 37 = .ok (.aload_n 0, 1) := by decide +kernel
theorem dX7_ifOn_38 : decode cX7_ifOn 38 = .ok (.getfield 12, 3) := by decide +kernel
theorem dX7_ifOn_41 : decode cX7_ifOn 41 = .ok (.iconst 3, 1) := by decide +kernel
theorem dX7_ifOn_42 : decode cX7_ifOn 42 = .ok (.invokevirtual 80, 3) := by decide +kernel
theorem dX7_ifOn_45 : decode cX7_ifOn 45 = .ok (.invokevirtual 185, 3) := by decide +kernel
theorem dX7_ifOn_48 : decode cX7_ifOn 48 = .ok (.iload_n 3, 1) := by decide +kernel
theorem dX7_ifOn_49 : decode cX7_ifOn 49 = .ok (.tableswitch 83 0 4 #[35, 51, 59, 67, 75], 35) := by decide +kernel
theorem dX7_ifOn_84 : decode cX7_ifOn 84 = .ok (.aload_n 0, 1) := by decide +kernel
theorem dX7_ifOn_85 : decode cX7_ifOn 85 = .ok (.getfield 47, 3) := by decide +kernel
theorem dX7_ifOn_88 : decode cX7_ifOn 88 = .ok (.getfield 189, 3) := by decide +kernel
theorem dX7_ifOn_91 : decode cX7_ifOn 91 = .ok (.ifCond .eq 7, 3) := by decide +kernel
theorem dX7_ifOn_94 : decode cX7_ifOn 94 = .ok (.iconst 1, 1) := by decide +kernel
theorem dX7_ifOn_95 : decode cX7_ifOn 95 = .ok (.goto 4, 3) := by decide +kernel
theorem dX7_ifOn_98 : decode cX7_ifOn 98 = .ok (.iconst 0, 1) := by decide +kernel
theorem dX7_ifOn_99 : decode cX7_ifOn 99 = .ok (.ireturn, 1) := by decide +kernel
theorem dX7_ifOn_100 : decode cX7_ifOn 100 = .ok (.aload_n 0, 1) := by decide +kernel
theorem dX7_ifOn_101 : decode cX7_ifOn 101 = .ok (.getfield 47, 3) := by decide +kernel
theorem dX7_ifOn_104 : decode cX7_ifOn 104 = .ok (.getfield 193, 3) := by decide +kernel
theorem dX7_ifOn_107 : decode cX7_ifOn 107 = .ok (.ireturn, 1) := by decide +kernel
theorem dX7_ifOn_108 : decode cX7_ifOn 108 = .ok (.aload_n 0, 1) := by decide +kernel
theorem dX7_ifOn_109 : decode cX7_ifOn 109 = .ok (.getfield 47, 3) := by decide +kernel
theorem dX7_ifOn_112 : decode cX7_ifOn 112 = .ok (.getfield 196, 3) := by decide +kernel
theorem dX7_ifOn_115 : decode cX7_ifOn 115 = .ok (.ireturn, 1) := by decide +kernel
theorem dX7_ifOn_116 : decode cX7_ifOn 116 = .ok (.aload_n 0, 1) := by decide +kernel
theorem dX7_ifOn_117 : decode cX7_ifOn 117 = .ok (.getfield 47, 3) := by decide +kernel
theorem dX7_ifOn_120 : decode cX7_ifOn 120 = .ok (.getfield 199, 3) := by decide +kernel
theorem dX7_ifOn_123 : decode cX7_ifOn 123 = .ok (.ireturn, 1) := by decide +kernel
theorem dX7_ifOn_124 : decode cX7_ifOn 124 = .ok (.aload_n 0, 1) := by decide +kernel
theorem dX7_ifOn_125 : decode cX7_ifOn 125 = .ok (.getfield 47, 3) := by decide +kernel
theorem dX7_ifOn_128 : decode cX7_ifOn 128 = .ok (.getfield 202, 3) := by decide +kernel
theorem dX7_ifOn_131 : decode cX7_ifOn 131 = .ok (.ireturn, 1) := by decide +kernel
theorem dX7_ifOn_132 : decode cX7_ifOn 132 = .ok (.sipush (-10001), 3) := by decide +kernel
theorem dX7_ifOn_135 : decode cX7_ifOn 135 = .ok (.ireturn, 1) := by decide +kernel
theorem dX7_at_0 : decode cX7_at 0 = .ok (.iload_n 1, 1) := by decide +kernel
theorem dX7_at_1 : decode cX7_at 1 = .ok (.sipush 3000, 3) := by decide +kernel
theorem dX7_at_4 : decode cX7_at 4 = .ok (.invokestatic 67, 3) := by decide +kernel
theorem dX7_at_7 : decode cX7_at 7 = .ok (.ifCond .eq 13, 3) := by decide +kernel
theorem dX7_at_10 : decode cX7_at 10 = .ok (.iload_n 2, 1) := by decide +kernel
theorem dX7_at_11 : decode cX7_at 11 = .ok (.sipush 3000, 3) := by decide +kernel
theorem dX7_at_14 : decode cX7_at 14 = .ok (.invokestatic 67, 3) := by decide +kernel
theorem dX7_at_17 : decode cX7_at 17 = .ok (.ifCond .ne 7, 3) := by decide +kernel
theorem dX7_at_20 : decode cX7_at 20 = .ok (.sipush (-10001), 3) := by decide +kernel
theorem dX7_at_23 : decode cX7_at 23 = .ok (.ireturn, 1) := by decide +kernel
theorem dX7_at_24 : decode cX7_at 24 = .ok (.aload_n 0, 1) := by decide +kernel
theorem dX7_at_25 : decode cX7_at 25 = .ok (.getfield 26, 3) := by decide +kernel
theorem dX7_at_28 : decode cX7_at 28 = .ok (.aload_n 0, 1) := by decide +kernel
theorem dX7_at_29 : decode cX7_at 29 = .ok (.getfield 12, 3) := by decide +kernel
theorem dX7_at_32 : decode cX7_at 32 = .ok (.iload_n 1, 1) := by decide +kernel
theorem dX7_at_33 : decode cX7_at 33 = .ok (.iload_n 2, 1) := by decide +kernel
theorem dX7_at_34 : decode cX7_at 34 = .ok (.iconst 1, 1) := by decide +kernel
theorem dX7_at_35 : decode cX7_at 35 = .ok (.iconst 1, 1) := by decide +kernel
theorem dX7_at_36 : decode cX7_at 36 = .ok (.invokevirtual 205, 3) := by decide +kernel
theorem dX7_at_39 : decode cX7_at 39 = .ok (.istore_n 3, 1) := by decide +kernel
theorem dX7_at_40 : decode cX7_at 40 = .ok (.iload_n 3, 1) := by decide +kernel
theorem dX7_at_41 : decode cX7_at 41 = .ok (.ifCond .ge 9, 3) := by decide +kernel
theorem dX7_at_44 : decode cX7_at 44 = .ok (.sipush (-10004), 3) := by decide +kernel
theorem dX7_at_47 : decode cX7_at 47 = .ok (.goto 4, 3) := by decide +kernel
theorem dX7_at_50 : decode cX7_at 50 = .ok (.iload_n 3, 1) := by decide +kernel
theorem dX7_at_51 : decode cX7_at 51 = .ok (.ireturn, 1) := by decide +kernel
theorem dX7_sizeFor_0 : decode cX7_sizeFor 0 = .ok (.aload_n 0, 1) := by decide +kernel
theorem dX7_sizeFor_1 : decode cX7_sizeFor 1 = .ok (.iload_n 1, 1) := by decide +kernel
theorem dX7_sizeFor_2 : decode cX7_sizeFor 2 = .ok (.invokevirtual 140, 3) := by decide +kernel
theorem dX7_sizeFor_5 : decode cX7_sizeFor 5 = .ok (.ifCond .eq 12, 3) := by decide +kernel
theorem dX7_sizeFor_8 : decode cX7_sizeFor 8 = .ok (.iload_n 2, 1) := by decide +kernel
theorem dX7_sizeFor_9 : decode cX7_sizeFor 9 = .ok (.ifCond .lt 8, 3) := by decide +kernel
theorem dX7_sizeFor_12 : decode cX7_sizeFor 12 = .ok (.iload_n 2, 1) := by decide +kernel
theorem dX7_sizeFor_13 : decode cX7_sizeFor 13 = .ok (.iconst 1, 1) := by decide +kernel
theorem dX7_sizeFor_14 : decode cX7_sizeFor 14 = .ok (.if_icmp .le 7, 3) := by decide +kernel
theorem dX7_sizeFor_17 : decode cX7_sizeFor 17 = .ok (.sipush (-10001), 3) := by decide +kernel
theorem dX7_sizeFor_20 : decode cX7_sizeFor 20 = .ok (.ireturn, 1) := by decide +kernel
theorem dX7_sizeFor_21 : decode cX7_sizeFor 21 = .ok (.aload_n 0, 1) := by decide +kernel
theorem dX7_sizeFor_22 : decode cX7_sizeFor 22 = .ok (.getfield 40, 3) := by decide +kernel
theorem dX7_sizeFor_25 : decode cX7_sizeFor 25 = .ok (.aload_n 0, 1) := by decide +kernel
theorem dX7_sizeFor_26 : decode cX7_sizeFor 26 = .ok (.getfield 12, 3) := by decide +kernel
theorem dX7_sizeFor_29 : decode cX7_sizeFor 29 = .ok (.iload_n 1, 1) := by decide +kernel
theorem dX7_sizeFor_30 : decode cX7_sizeFor 30 = .ok (.invokevirtual 209, 3) := by decide +kernel
theorem dX7_sizeFor_33 : decode cX7_sizeFor 33 = .ok (.bipush 20, 2) := by decide +kernel
theorem dX7_sizeFor_35 : decode cX7_sizeFor 35 = .ok (.istore_n 3, 1) := by decide +kernel
theorem dX7_sizeFor_36 : decode cX7_sizeFor 36 = .ok (.iload_n 3, 1) := by decide +kernel
theorem dX7_sizeFor_37 : decode cX7_sizeFor 37 = .ok (.sipush 400, 3) := by decide +kernel
theorem dX7_sizeFor_40 : decode cX7_sizeFor 40 = .ok (.if_icmp .gt 60, 3) := by decide +kernel
theorem dX7_sizeFor_43 : decode cX7_sizeFor 43 = .ok (.iload_n 2, 1) := by decide +kernel
theorem dX7_sizeFor_44 : decode cX7_sizeFor 44 = .ok (.ifCond .ne 7, 3) := by decide +kernel
theorem dX7_sizeFor_47 : decode cX7_sizeFor 47 = .ok (.iload_n 3, 1) := by decide +kernel
theorem dX7_sizeFor_48 : decode cX7_sizeFor 48 = .ok (.goto 11, 3) := by decide +kernel
theorem dX7_sizeFor_51 : decode cX7_sizeFor 51 = .ok (.aload_n 0, 1) := by decide +kernel
theorem dX7_sizeFor_52 : decode cX7_sizeFor 52 = .ok (.getfield 12, 3) := by decide +kernel
theorem dX7_sizeFor_55 : decode cX7_sizeFor 55 = .ok (.iconst 2, 1) := by decide +kernel
theorem dX7_sizeFor_56 : decode cX7_sizeFor 56 = .ok (.invokevirtual 80, 3) := by decide +kernel
theorem dX7_sizeFor_59 : decode cX7_sizeFor 59 = .ok (.istore 4, 2) := by decide +kernel
theorem dX7_sizeFor_61 : decode cX7_sizeFor 61 = .ok (.iload_n 2, 1) := by decide +kernel
theorem dX7_sizeFor_62 : decode cX7_sizeFor 62 = .ok (.iconst 1, 1) := by decide +kernel
theorem dX7_sizeFor_63 : decode cX7_sizeFor 63 = .ok (.if_icmp .ne 7, 3) := by decide +kernel
theorem dX7_sizeFor_66 : decode cX7_sizeFor 66 = .ok (.iload_n 3, 1) := by decide +kernel
theorem dX7_sizeFor_67 : decode cX7_sizeFor 67 = .ok (.goto 11, 3) := by decide +kernel
theorem dX7_sizeFor_70 : decode cX7_sizeFor 70 = .ok (.aload_n 0, 1) := by decide +kernel
theorem dX7_sizeFor_71 : decode cX7_sizeFor 71 = .ok (.getfield 12, 3) := by decide +kernel
theorem dX7_sizeFor_74 : decode cX7_sizeFor 74 = .ok (.iconst 3, 1) := by decide +kernel
theorem dX7_sizeFor_75 : decode cX7_sizeFor 75 = .ok (.invokevirtual 80, 3) := by decide +kernel
theorem dX7_sizeFor_78 : decode cX7_sizeFor 78 = .ok (.istore 5, 2) := by decide +kernel
theorem dX7_sizeFor_80 : decode cX7_sizeFor 80 = .ok (.aload_n 0, 1) := by decide +kernel
theorem dX7_sizeFor_81 : decode cX7_sizeFor 81 = .ok (.iload_n 1, 1) := by decide +kernel
theorem dX7_sizeFor_82 : decode cX7_sizeFor 82 = .ok (.iload 4, 2) := by decide +kernel
theorem dX7_sizeFor_84 : decode cX7_sizeFor 84 = .ok (.iload 5, 2) := by decide +kernel
theorem dX7_sizeFor_86 : decode cX7_sizeFor 86 = .ok (.invokevirtual 213, 3) := by decide +kernel
theorem dX7_sizeFor_89 : decode cX7_sizeFor 89 = .ok (.ifCond .eq 5, 3) := by decide +kernel
theorem dX7_sizeFor_92 : decode cX7_sizeFor 92 = .ok (.iload_n 3, 1) := by decide +kernel
theorem dX7_sizeFor_93 : decode cX7_sizeFor 93 = .ok (.ireturn, 1) := by decide +kernel
theorem dX7_sizeFor_94 : decode cX7_sizeFor 94 = .ok (.iinc 3 1, 3) := by decide +kernel
theorem dX7_sizeFor_97 : decode cX7_sizeFor 97 = .ok (.goto (-61), 3) := by decide +kernel
theorem dX7_sizeFor_100 : decode cX7_sizeFor 100 = .ok (.sipush (-10004), 3) := by decide +kernel
theorem dX7_sizeFor_103 : decode cX7_sizeFor 103 = .ok (.ireturn, 1) := by decide +kernel
theorem dX7_undo_0 : decode cX7_undo 0 = .ok (.aload_n 0, 1) := by decide +kernel
theorem dX7_undo_1 : decode cX7_undo 1 = .ok (.getfield 19, 3) := by decide +kernel
theorem dX7_undo_4 : decode cX7_undo 4 = .ok (.getfield 122, 3) := by decide +kernel
theorem dX7_undo_7 : decode cX7_undo 7 = .ok (.ifCond .ne 7, 3) := by decide +kernel
theorem dX7_undo_10 : decode cX7_undo 10 = .ok (.sipush (-10002), 3) := by decide +kernel
theorem dX7_undo_13 : decode cX7_undo 13 = .ok (.ireturn, 1) := by decide +kernel
theorem dX7_undo_14 : decode cX7_undo 14 = .ok (.aload_n 0, 1) := by decide +kernel
theorem dX7_undo_15 : decode cX7_undo 15 = .ok (.getfield 19, 3) := by decide +kernel
theorem dX7_undo_18 : decode cX7_undo 18 = .ok (.aload_n 0, 1) := by decide +kernel
theorem dX7_undo_19 : decode cX7_undo 19 = .ok (.getfield 12, 3) := by decide +kernel
theorem dX7_undo_22 : decode cX7_undo 22 = .ok (.invokevirtual 217, 3) := by decide +kernel
theorem dX7_undo_25 : decode cX7_undo 25 = .ok (.aload_n 0, 1) := by decide +kernel
theorem dX7_undo_26 : decode cX7_undo 26 = .ok (.getfield 26, 3) := by decide +kernel
theorem dX7_undo_29 : decode cX7_undo 29 = .ok (.aload_n 0, 1) := by decide +kernel
theorem dX7_undo_30 : decode cX7_undo 30 = .ok (.getfield 12, 3) := by decide +kernel
theorem dX7_undo_33 : decode cX7_undo 33 = .ok (.invokevirtual 63, 3) := by decide +kernel
theorem dX7_undo_36 : decode cX7_undo 36 = .ok (.pop, 1) := by decide +kernel
theorem dX7_undo_37 : decode cX7_undo 37 = .ok (.aload_n 0, 1) := by decide +kernel
theorem dX7_undo_38 : decode cX7_undo 38 = .ok (.getfield 19, 3) := by decide +kernel
theorem dX7_undo_41 : decode cX7_undo 41 = .ok (.getfield 122, 3) := by decide +kernel
theorem dX7_undo_44 : decode cX7_undo 44 = .ok (.ireturn, 1) := by decide +kernel
theorem dX7_isWithin_0 : decode cX7_isWithin 0 = .ok (.iload_n 0, 1) := by decide +kernel
theorem dX7_isWithin_1 : decode cX7_isWithin 1 = .ok (.iload_n 1, 1) := by decide +kernel
theorem dX7_isWithin_2 : decode cX7_isWithin 2 = .ok (.ineg, 1) := by decide +kernel
theorem dX7_isWithin_3 : decode cX7_isWithin 3 = .ok (.if_icmp .lt 12, 3) := by decide +kernel
theorem dX7_isWithin_6 : decode cX7_isWithin 6 = .ok (.iload_n 0, 1) := by decide +kernel
theorem dX7_isWithin_7 : decode cX7_isWithin 7 = .ok (.iload_n 1, 1) := by decide +kernel
theorem dX7_isWithin_8 : decode cX7_isWithin 8 = .ok (.if_icmp .gt 7, 3) := by decide +kernel
theorem dX7_isWithin_11 : decode cX7_isWithin 11 = .ok (.iconst 1, 1) := by decide +kernel
theorem dX7_isWithin_12 : decode cX7_isWithin 12 = .ok (.goto 4, 3) := by decide +kernel
theorem dX7_isWithin_15 : decode cX7_isWithin 15 = .ok (.iconst 0, 1) := by decide +kernel
theorem dX7_isWithin_16 : decode cX7_isWithin 16 = .ok (.ireturn, 1) := by decide +kernel
theorem dX7_isSize_0 : decode cX7_isSize 0 = .ok (.iload_n 0, 1) := by decide +kernel
theorem dX7_isSize_1 : decode cX7_isSize 1 = .ok (.iconst 1, 1) := by decide +kernel
theorem dX7_isSize_2 : decode cX7_isSize 2 = .ok (.if_icmp .lt 14, 3) := by decide +kernel
theorem dX7_isSize_5 : decode cX7_isSize 5 = .ok (.iload_n 0, 1) := by decide +kernel
theorem dX7_isSize_6 : decode cX7_isSize 6 = .ok (.sipush 200, 3) := by decide +kernel
theorem dX7_isSize_9 : decode cX7_isSize 9 = .ok (.if_icmp .gt 7, 3) := by decide +kernel
theorem dX7_isSize_12 : decode cX7_isSize 12 = .ok (.iconst 1, 1) := by decide +kernel
theorem dX7_isSize_13 : decode cX7_isSize 13 = .ok (.goto 4, 3) := by decide +kernel
theorem dX7_isSize_16 : decode cX7_isSize 16 = .ok (.iconst 0, 1) := by decide +kernel
theorem dX7_isSize_17 : decode cX7_isSize 17 = .ok (.ireturn, 1) := by decide +kernel
theorem dX7_isViewSize_0 : decode cX7_isViewSize 0 = .ok (.iload_n 0, 1) := by decide +kernel
theorem dX7_isViewSize_1 : decode cX7_isViewSize 1 = .ok (.bipush 20, 2) := by decide +kernel
theorem dX7_isViewSize_3 : decode cX7_isViewSize 3 = .ok (.if_icmp .lt 14, 3) := by decide +kernel
theorem dX7_isViewSize_6 : decode cX7_isViewSize 6 = .ok (.iload_n 0, 1) := by decide +kernel
theorem dX7_isViewSize_7 : decode cX7_isViewSize 7 = .ok (.sipush 400, 3) := by decide +kernel
theorem dX7_isViewSize_10 : decode cX7_isViewSize 10 = .ok (.if_icmp .gt 7, 3) := by decide +kernel
theorem dX7_isViewSize_13 : decode cX7_isViewSize 13 = .ok (.iconst 1, 1) := by decide +kernel
theorem dX7_isViewSize_14 : decode cX7_isViewSize 14 = .ok (.goto 4, 3) := by decide +kernel
theorem dX7_isViewSize_17 : decode cX7_isViewSize 17 = .ok (.iconst 0, 1) := by decide +kernel
theorem dX7_isViewSize_18 : decode cX7_isViewSize 18 = .ok (.ireturn, 1) := by decide +kernel
theorem dX7_isSide_0 : decode cX7_isSide 0 = .ok (.iload_n 0, 1) := by decide +kernel
theorem dX7_isSide_1 : decode cX7_isSide 1 = .ok (.ifCond .lt 12, 3) := by decide +kernel
theorem dX7_isSide_4 : decode cX7_isSide 4 = .ok (.iload_n 0, 1) := by decide +kernel
theorem dX7_isSide_5 : decode cX7_isSide 5 = .ok (.iconst 4, 1) := by decide +kernel
theorem dX7_isSide_6 : decode cX7_isSide 6 = .ok (.if_icmp .ge 7, 3) := by decide +kernel
theorem dX7_isSide_9 : decode cX7_isSide 9 = .ok (.iconst 1, 1) := by decide +kernel
theorem dX7_isSide_10 : decode cX7_isSide 10 = .ok (.goto 4, 3) := by decide +kernel
theorem dX7_isSide_13 : decode cX7_isSide 13 = .ok (.iconst 0, 1) := by decide +kernel
theorem dX7_isSide_14 : decode cX7_isSide 14 = .ok (.ireturn, 1) := by decide +kernel
theorem dX7_isAnchor_0 : decode cX7_isAnchor 0 = .ok (.iload_n 1, 1) := by decide +kernel
theorem dX7_isAnchor_1 : decode cX7_isAnchor 1 = .ok (.ifCond .lt 19, 3) := by decide +kernel
theorem dX7_isAnchor_4 : decode cX7_isAnchor 4 = .ok (.iload_n 1, 1) := by decide +kernel
theorem dX7_isAnchor_5 : decode cX7_isAnchor 5 = .ok (.aload_n 0, 1) := by decide +kernel
theorem dX7_isAnchor_6 : decode cX7_isAnchor 6 = .ok (.getfield 12, 3) := by decide +kernel
theorem dX7_isAnchor_9 : decode cX7_isAnchor 9 = .ok (.iconst 4, 1) := by decide +kernel
theorem dX7_isAnchor_10 : decode cX7_isAnchor 10 = .ok (.invokevirtual 80, 3) := by decide +kernel
theorem dX7_isAnchor_13 : decode cX7_isAnchor 13 = .ok (.if_icmp .ge 7, 3) := by decide +kernel
theorem dX7_isAnchor_16 : decode cX7_isAnchor 16 = .ok (.iconst 1, 1) := by decide +kernel
theorem dX7_isAnchor_17 : decode cX7_isAnchor 17 = .ok (.goto 4, 3) := by decide +kernel
theorem dX7_isAnchor_20 : decode cX7_isAnchor 20 = .ok (.iconst 0, 1) := by decide +kernel
theorem dX7_isAnchor_21 : decode cX7_isAnchor 21 = .ok (.ireturn, 1) := by decide +kernel
theorem dX7_isHint_0 : decode cX7_isHint 0 = .ok (.iload_n 1, 1) := by decide +kernel
theorem dX7_isHint_1 : decode cX7_isHint 1 = .ok (.ifCond .lt 19, 3) := by decide +kernel
theorem dX7_isHint_4 : decode cX7_isHint 4 = .ok (.iload_n 1, 1) := by decide +kernel
theorem dX7_isHint_5 : decode cX7_isHint 5 = .ok (.aload_n 0, 1) := by decide +kernel
theorem dX7_isHint_6 : decode cX7_isHint 6 = .ok (.getfield 12, 3) := by decide +kernel
theorem dX7_isHint_9 : decode cX7_isHint 9 = .ok (.iconst 5, 1) := by decide +kernel
theorem dX7_isHint_10 : decode cX7_isHint 10 = .ok (.invokevirtual 80, 3) := by decide +kernel
theorem dX7_isHint_13 : decode cX7_isHint 13 = .ok (.if_icmp .ge 7, 3) := by decide +kernel
theorem dX7_isHint_16 : decode cX7_isHint 16 = .ok (.iconst 1, 1) := by decide +kernel
theorem dX7_isHint_17 : decode cX7_isHint 17 = .ok (.goto 4, 3) := by decide +kernel
theorem dX7_isHint_20 : decode cX7_isHint 20 = .ok (.iconst 0, 1) := by decide +kernel
theorem dX7_isHint_21 : decode cX7_isHint 21 = .ok (.ireturn, 1) := by decide +kernel
theorem dX7_lowestValue_0 : decode cX7_lowestValue 0 = .ok (.iload_n 0, 1) := by decide +kernel
theorem dX7_lowestValue_1 : decode cX7_lowestValue 1 = .ok (.iconst 1, 1) := by decide +kernel
theorem dX7_lowestValue_2 : decode cX7_lowestValue 2 = .ok (.if_icmp .eq 8, 3) := by decide +kernel
theorem dX7_lowestValue_5 : decode cX7_lowestValue 5 = .ok (.iload_n 0, 1) := by decide +kernel
theorem dX7_lowestValue_6 : decode cX7_lowestValue 6 = .ok (.iconst 2, 1) := by decide +kernel
theorem dX7_lowestValue_7 : decode cX7_lowestValue 7 = .ok (.if_icmp .ne 7, 3) := by decide +kernel
theorem dX7_lowestValue_10 : decode cX7_lowestValue 10 = .ok (.iconst 1, 1) := by decide +kernel
theorem dX7_lowestValue_11 : decode cX7_lowestValue 11 = .ok (.goto 4, 3) := by decide +kernel
theorem dX7_lowestValue_14 : decode cX7_lowestValue 14 = .ok (.iconst 0, 1) := by decide +kernel
theorem dX7_lowestValue_15 : decode cX7_lowestValue 15 = .ok (.ireturn, 1) := by decide +kernel
theorem dX7_highestValue_0 : decode cX7_highestValue 0 = .ok (.iload_n 1, 1) := by decide +kernel
theorem dX7_highestValue_1 : decode cX7_highestValue 1 = .ok (.tableswitch 64 0 6 #[43, 54, 54, 58, 60, 60, 62], 43) := by decide +kernel
theorem dX7_highestValue_44 : decode cX7_highestValue 44 = .ok (.aload_n 0, 1) := by decide +kernel
theorem dX7_highestValue_45 : decode cX7_highestValue 45 = .ok (.getfield 12, 3) := by decide +kernel
theorem dX7_highestValue_48 : decode cX7_highestValue 48 = .ok (.iconst 4, 1) := by decide +kernel
theorem dX7_highestValue_49 : decode cX7_highestValue 49 = .ok (.invokevirtual 80, 3) := by decide +kernel
theorem dX7_highestValue_52 : decode cX7_highestValue 52 = .ok (.iconst 1, 1) := by decide +kernel
theorem dX7_highestValue_53 : decode cX7_highestValue 53 = .ok (.isub, 1) := by decide +kernel
theorem dX7_highestValue_54 : decode cX7_highestValue 54 = .ok (.ireturn, 1) := by decide +kernel
theorem dX7_highestValue_55 : decode cX7_highestValue 55 = .ok (.sipush 200, 3) := by decide +kernel
theorem dX7_highestValue_58 : decode cX7_highestValue 58 = .ok (.ireturn, 1) := by decide +kernel
theorem dX7_highestValue_59 : decode cX7_highestValue 59 = .ok (.iconst 3, 1) := by decide +kernel
theorem dX7_highestValue_60 : decode cX7_highestValue 60 = .ok (.ireturn, 1) := by decide +kernel
theorem dX7_highestValue_61 : decode cX7_highestValue 61 = .ok (.iconst 2, 1) := by decide +kernel
theorem dX7_highestValue_62 : decode cX7_highestValue 62 = .ok (.ireturn, 1) := by decide +kernel
theorem dX7_highestValue_63 : decode cX7_highestValue 63 = .ok (.iconst 1, 1) := by decide +kernel
theorem dX7_highestValue_64 : decode cX7_highestValue 64 = .ok (.ireturn, 1) := by decide +kernel
theorem dX7_highestValue_65 : decode cX7_highestValue 65 = .ok (.bipush 9, 2) := by decide +kernel
theorem dX7_highestValue_67 : decode cX7_highestValue 67 = .ok (.ireturn, 1) := by decide +kernel
theorem dX7_canMoveView_0 : decode cX7_canMoveView 0 = .ok (.aload_n 0, 1) := by decide +kernel
theorem dX7_canMoveView_1 : decode cX7_canMoveView 1 = .ok (.getfield 12, 3) := by decide +kernel
theorem dX7_canMoveView_4 : decode cX7_canMoveView 4 = .ok (.iconst 0, 1) := by decide +kernel
theorem dX7_canMoveView_5 : decode cX7_canMoveView 5 = .ok (.invokevirtual 80, 3) := by decide +kernel
theorem dX7_canMoveView_8 : decode cX7_canMoveView 8 = .ok (.iload_n 1, 1) := by decide +kernel
theorem dX7_canMoveView_9 : decode cX7_canMoveView 9 = .ok (.iadd, 1) := by decide +kernel
theorem dX7_canMoveView_10 : decode cX7_canMoveView 10 = .ok (.sipush 2000, 3) := by decide +kernel
theorem dX7_canMoveView_13 : decode cX7_canMoveView 13 = .ok (.invokestatic 67, 3) := by decide +kernel
theorem dX7_canMoveView_16 : decode cX7_canMoveView 16 = .ok (.ifCond .eq 26, 3) := by decide +kernel
theorem dX7_canMoveView_19 : decode cX7_canMoveView 19 = .ok (.aload_n 0, 1) := by decide +kernel
theorem dX7_canMoveView_20 : decode cX7_canMoveView 20 = .ok (.getfield 12, 3) := by decide +kernel
theorem dX7_canMoveView_23 : decode cX7_canMoveView 23 = .ok (.iconst 1, 1) := by decide +kernel
theorem dX7_canMoveView_24 : decode cX7_canMoveView 24 = .ok (.invokevirtual 80, 3) := by decide +kernel
theorem dX7_canMoveView_27 : decode cX7_canMoveView 27 = .ok (.iload_n 2, 1) := by decide +kernel
theorem dX7_canMoveView_28 : decode cX7_canMoveView 28 = .ok (.iadd, 1) := by decide +kernel
theorem dX7_canMoveView_29 : decode cX7_canMoveView 29 = .ok (.sipush 2000, 3) := by decide +kernel
theorem dX7_canMoveView_32 : decode cX7_canMoveView 32 = .ok (.invokestatic 67, 3) := by decide +kernel
theorem dX7_canMoveView_35 : decode cX7_canMoveView 35 = .ok (.ifCond .eq 7, 3) := by decide +kernel
theorem dX7_canMoveView_38 : decode cX7_canMoveView 38 = .ok (.iconst 1, 1) := by decide +kernel
theorem dX7_canMoveView_39 : decode cX7_canMoveView 39 = .ok (.goto 4, 3) := by decide +kernel
theorem dX7_canMoveView_42 : decode cX7_canMoveView 42 = .ok (.iconst 0, 1) := by decide +kernel
theorem dX7_canMoveView_43 : decode cX7_canMoveView 43 = .ok (.ireturn, 1) := by decide +kernel
theorem dX7_moveView_0 : decode cX7_moveView 0 = .ok (.aload_n 0, 1) := by decide +kernel
theorem dX7_moveView_1 : decode cX7_moveView 1 = .ok (.getfield 12, 3) := by decide +kernel
theorem dX7_moveView_4 : decode cX7_moveView 4 = .ok (.iconst 0, 1) := by decide +kernel
theorem dX7_moveView_5 : decode cX7_moveView 5 = .ok (.aload_n 0, 1) := by decide +kernel
theorem dX7_moveView_6 : decode cX7_moveView 6 = .ok (.getfield 12, 3) := by decide +kernel
theorem dX7_moveView_9 : decode cX7_moveView 9 = .ok (.iconst 0, 1) := by decide +kernel
theorem dX7_moveView_10 : decode cX7_moveView 10 = .ok (.invokevirtual 80, 3) := by decide +kernel
theorem dX7_moveView_13 : decode cX7_moveView 13 = .ok (.iload_n 1, 1) := by decide +kernel
theorem dX7_moveView_14 : decode cX7_moveView 14 = .ok (.iadd, 1) := by decide +kernel
theorem dX7_moveView_15 : decode cX7_moveView 15 = .ok (.invokevirtual 59, 3) := by decide +kernel
theorem dX7_moveView_18 : decode cX7_moveView 18 = .ok (.aload_n 0, 1) := by decide +kernel
theorem dX7_moveView_19 : decode cX7_moveView 19 = .ok (.getfield 12, 3) := by decide +kernel
theorem dX7_moveView_22 : decode cX7_moveView 22 = .ok (.iconst 1, 1) := by decide +kernel
theorem dX7_moveView_23 : decode cX7_moveView 23 = .ok (.aload_n 0, 1) := by decide +kernel
theorem dX7_moveView_24 : decode cX7_moveView 24 = .ok (.getfield 12, 3) := by decide +kernel
theorem dX7_moveView_27 : decode cX7_moveView 27 = .ok (.iconst 1, 1) := by decide +kernel
theorem dX7_moveView_28 : decode cX7_moveView 28 = .ok (.invokevirtual 80, 3) := by decide +kernel
theorem dX7_moveView_31 : decode cX7_moveView 31 = .ok (.iload_n 2, 1) := by decide +kernel
theorem dX7_moveView_32 : decode cX7_moveView 32 = .ok (.iadd, 1) := by decide +kernel
theorem dX7_moveView_33 : decode cX7_moveView 33 = .ok (.invokevirtual 59, 3) := by decide +kernel
theorem dX7_moveView_36 : decode cX7_moveView 36 = .ok (.return_, 1) := by decide +kernel
theorem dX7_openHint_0 : decode cX7_openHint 0 = .ok (.aload_n 0, 1) := by decide +kernel
theorem dX7_openHint_1 : decode cX7_openHint 1 = .ok (.getfield 12, 3) := by decide +kernel
theorem dX7_openHint_4 : decode cX7_openHint 4 = .ok (.bipush 6, 2) := by decide +kernel
theorem dX7_openHint_6 : decode cX7_openHint 6 = .ok (.invokevirtual 80, 3) := by decide +kernel
theorem dX7_openHint_9 : decode cX7_openHint 9 = .ok (.iconst 1, 1) := by decide +kernel
theorem dX7_openHint_10 : decode cX7_openHint 10 = .ok (.iadd, 1) := by decide +kernel
theorem dX7_openHint_11 : decode cX7_openHint 11 = .ok (.istore_n 2, 1) := by decide +kernel
theorem dX7_openHint_12 : decode cX7_openHint 12 = .ok (.aload_n 0, 1) := by decide +kernel
theorem dX7_openHint_13 : decode cX7_openHint 13 = .ok (.getfield 12, 3) := by decide +kernel
theorem dX7_openHint_16 : decode cX7_openHint 16 = .ok (.bipush 6, 2) := by decide +kernel
theorem dX7_openHint_18 : decode cX7_openHint 18 = .ok (.iload_n 2, 1) := by decide +kernel
theorem dX7_openHint_19 : decode cX7_openHint 19 = .ok (.invokevirtual 59, 3) := by decide +kernel
theorem dX7_openHint_22 : decode cX7_openHint 22 = .ok (.aload_n 0, 1) := by decide +kernel
theorem dX7_openHint_23 : decode cX7_openHint 23 = .ok (.getfield 12, 3) := by decide +kernel
theorem dX7_openHint_26 : decode cX7_openHint 26 = .ok (.iload_n 1, 1) := by decide +kernel
theorem dX7_openHint_27 : decode cX7_openHint 27 = .ok (.bipush 8, 2) := by decide +kernel
theorem dX7_openHint_29 : decode cX7_openHint 29 = .ok (.iload_n 2, 1) := by decide +kernel
theorem dX7_openHint_30 : decode cX7_openHint 30 = .ok (.invokevirtual 137, 3) := by decide +kernel
theorem dX7_openHint_33 : decode cX7_openHint 33 = .ok (.return_, 1) := by decide +kernel
theorem dX7_closeHint_0 : decode cX7_closeHint 0 = .ok (.aload_n 0, 1) := by decide +kernel
theorem dX7_closeHint_1 : decode cX7_closeHint 1 = .ok (.getfield 12, 3) := by decide +kernel
theorem dX7_closeHint_4 : decode cX7_closeHint 4 = .ok (.iload_n 1, 1) := by decide +kernel
theorem dX7_closeHint_5 : decode cX7_closeHint 5 = .ok (.bipush 8, 2) := by decide +kernel
theorem dX7_closeHint_7 : decode cX7_closeHint 7 = .ok (.iconst 0, 1) := by decide +kernel
theorem dX7_closeHint_8 : decode cX7_closeHint 8 = .ok (.invokevirtual 137, 3) := by decide +kernel
theorem dX7_closeHint_11 : decode cX7_closeHint 11 = .ok (.aload_n 0, 1) := by decide +kernel
theorem dX7_closeHint_12 : decode cX7_closeHint 12 = .ok (.getfield 12, 3) := by decide +kernel
theorem dX7_closeHint_15 : decode cX7_closeHint 15 = .ok (.iload_n 1, 1) := by decide +kernel
theorem dX7_closeHint_16 : decode cX7_closeHint 16 = .ok (.bipush 9, 2) := by decide +kernel
theorem dX7_closeHint_18 : decode cX7_closeHint 18 = .ok (.iconst (-1), 1) := by decide +kernel
theorem dX7_closeHint_19 : decode cX7_closeHint 19 = .ok (.invokevirtual 137, 3) := by decide +kernel
theorem dX7_closeHint_22 : decode cX7_closeHint 22 = .ok (.return_, 1) := by decide +kernel
theorem dX7_rememberSides_0 : decode cX7_rememberSides 0 = .ok (.iconst 0, 1) := by decide +kernel
theorem dX7_rememberSides_1 : decode cX7_rememberSides 1 = .ok (.istore_n 1, 1) := by decide +kernel
theorem dX7_rememberSides_2 : decode cX7_rememberSides 2 = .ok (.iconst 0, 1) := by decide +kernel
theorem dX7_rememberSides_3 : decode cX7_rememberSides 3 = .ok (.istore_n 2, 1) := by decide +kernel
theorem dX7_rememberSides_4 : decode cX7_rememberSides 4 = .ok (.iload_n 2, 1) := by decide +kernel
theorem dX7_rememberSides_5 : decode cX7_rememberSides 5 = .ok (.aload_n 0, 1) := by decide +kernel
theorem dX7_rememberSides_6 : decode cX7_rememberSides 6 = .ok (.getfield 12, 3) := by decide +kernel
theorem dX7_rememberSides_9 : decode cX7_rememberSides 9 = .ok (.iconst 5, 1) := by decide +kernel
theorem dX7_rememberSides_10 : decode cX7_rememberSides 10 = .ok (.invokevirtual 80, 3) := by decide +kernel
theorem dX7_rememberSides_13 : decode cX7_rememberSides 13 = .ok (.if_icmp .ge 71, 3) := by decide +kernel
theorem dX7_rememberSides_16 : decode cX7_rememberSides 16 = .ok (.aload_n 0, 1) := by decide +kernel
theorem dX7_rememberSides_17 : decode cX7_rememberSides 17 = .ok (.getfield 26, 3) := by decide +kernel
theorem dX7_rememberSides_20 : decode cX7_rememberSides 20 = .ok (.getfield 156, 3) := by decide +kernel
theorem dX7_rememberSides_23 : decode cX7_rememberSides 23 = .ok (.iload_n 2, 1) := by decide +kernel
theorem dX7_rememberSides_24 : decode cX7_rememberSides 24 = .ok (.invokevirtual 160, 3) := by decide +kernel
theorem dX7_rememberSides_27 : decode cX7_rememberSides 27 = .ok (.ifCond .ne 51, 3) := by decide +kernel
theorem dX7_rememberSides_30 : decode cX7_rememberSides 30 = .ok (.aload_n 0, 1) := by decide +kernel
theorem dX7_rememberSides_31 : decode cX7_rememberSides 31 = .ok (.getfield 12, 3) := by decide +kernel
theorem dX7_rememberSides_34 : decode cX7_rememberSides 34 = .ok (.iload_n 2, 1) := by decide +kernel
theorem dX7_rememberSides_35 : decode cX7_rememberSides 35 = .ok (.bipush 9, 2) := by decide +kernel
theorem dX7_rememberSides_37 : decode cX7_rememberSides 37 = .ok (.invokevirtual 146, 3) := by decide +kernel
theorem dX7_rememberSides_40 : decode cX7_rememberSides 40 = .ok (.aload_n 0, 1) := by decide +kernel
theorem dX7_rememberSides_41 : decode cX7_rememberSides 41 = .ok (.getfield 26, 3) := by decide +kernel
theorem dX7_rememberSides_44 : decode cX7_rememberSides 44 = .ok (.getfield 239, 3) := by decide +kernel
theorem dX7_rememberSides_47 : decode cX7_rememberSides 47 = .ok (.iload_n 2, 1) := by decide +kernel
theorem dX7_rememberSides_48 : decode cX7_rememberSides 48 = .ok (.invokevirtual 160, 3) := by decide +kernel
theorem dX7_rememberSides_51 : decode cX7_rememberSides 51 = .ok (.if_icmp .eq 6, 3) := by decide +kernel
theorem dX7_rememberSides_54 : decode cX7_rememberSides 54 = .ok (.iinc 1 1, 3) := by decide +kernel
theorem dX7_rememberSides_57 : decode cX7_rememberSides 57 = .ok (.aload_n 0, 1) := by decide +kernel
theorem dX7_rememberSides_58 : decode cX7_rememberSides 58 = .ok (.getfield 12, 3) := by decide +kernel
theorem dX7_rememberSides_61 : decode cX7_rememberSides 61 = .ok (.iload_n 2, 1) := by decide +kernel
theorem dX7_rememberSides_62 : decode cX7_rememberSides 62 = .ok (.bipush 9, 2) := by decide +kernel
theorem dX7_rememberSides_64 : decode cX7_rememberSides 64 = .ok (.aload_n 0, 1) := by decide +kernel
theorem dX7_rememberSides_65 : decode cX7_rememberSides 65 = .ok (.getfield 26, 3) := by decide +kernel
theorem dX7_rememberSides_68 : decode cX7_rememberSides 68 = .ok (.getfield 239, 3) := by decide +kernel
theorem dX7_rememberSides_71 : decode cX7_rememberSides 71 = .ok (.iload_n 2, 1) := by decide +kernel
theorem dX7_rememberSides_72 : decode cX7_rememberSides 72 = .ok (.invokevirtual 160, 3) := by decide +kernel
theorem dX7_rememberSides_75 : decode cX7_rememberSides 75 = .ok (.invokevirtual 137, 3) := by decide +kernel
theorem dX7_rememberSides_78 : decode cX7_rememberSides 78 = .ok (.iinc 2 1, 3) := by decide +kernel
theorem dX7_rememberSides_81 : decode cX7_rememberSides 81 = .ok (.goto (-77), 3) := by decide +kernel
theorem dX7_rememberSides_84 : decode cX7_rememberSides 84 = .ok (.iload_n 1, 1) := by decide +kernel
theorem dX7_rememberSides_85 : decode cX7_rememberSides 85 = .ok (.ireturn, 1) := by decide +kernel
theorem dX7_countHintsOf_0 : decode cX7_countHintsOf 0 = .ok (.iconst 0, 1) := by decide +kernel
theorem dX7_countHintsOf_1 : decode cX7_countHintsOf 1 = .ok (.istore_n 3, 1) := by decide +kernel
theorem dX7_countHintsOf_2 : decode cX7_countHintsOf 2 = .ok (.iconst 0, 1) := by decide +kernel
theorem dX7_countHintsOf_3 : decode cX7_countHintsOf 3 = .ok (.istore 4, 2) := by decide +kernel
theorem dX7_countHintsOf_5 : decode cX7_countHintsOf 5 = .ok (.iload 4, 2) := by decide +kernel
theorem dX7_countHintsOf_7 : decode cX7_countHintsOf 7 = .ok (.aload_n 0, 1) := by decide +kernel
theorem dX7_countHintsOf_8 : decode cX7_countHintsOf 8 = .ok (.getfield 12, 3) := by decide +kernel
theorem dX7_countHintsOf_11 : decode cX7_countHintsOf 11 = .ok (.iconst 5, 1) := by decide +kernel
theorem dX7_countHintsOf_12 : decode cX7_countHintsOf 12 = .ok (.invokevirtual 80, 3) := by decide +kernel
theorem dX7_countHintsOf_15 : decode cX7_countHintsOf 15 = .ok (.if_icmp .ge 57, 3) := by decide +kernel
theorem dX7_countHintsOf_18 : decode cX7_countHintsOf 18 = .ok (.iload_n 2, 1) := by decide +kernel
theorem dX7_countHintsOf_19 : decode cX7_countHintsOf 19 = .ok (.ifCond .eq 18, 3) := by decide +kernel
theorem dX7_countHintsOf_22 : decode cX7_countHintsOf 22 = .ok (.aload_n 0, 1) := by decide +kernel
theorem dX7_countHintsOf_23 : decode cX7_countHintsOf 23 = .ok (.getfield 26, 3) := by decide +kernel
theorem dX7_countHintsOf_26 : decode cX7_countHintsOf 26 = .ok (.getfield 156, 3) := by decide +kernel
theorem dX7_countHintsOf_29 : decode cX7_countHintsOf 29 = .ok (.iload 4, 2) := by decide +kernel
theorem dX7_countHintsOf_31 : decode cX7_countHintsOf 31 = .ok (.invokevirtual 160, 3) := by decide +kernel
theorem dX7_countHintsOf_34 : decode cX7_countHintsOf 34 = .ok (.ifCond .ne 7, 3) := by decide +kernel
theorem dX7_countHintsOf_37 : decode cX7_countHintsOf 37 = .ok (.iconst 1, 1) := by decide +kernel
theorem dX7_countHintsOf_38 : decode cX7_countHintsOf 38 = .ok (.goto 4, 3) := by decide +kernel
theorem dX7_countHintsOf_41 : decode cX7_countHintsOf 41 = .ok (.iconst 0, 1) := by decide +kernel
theorem dX7_countHintsOf_42 : decode cX7_countHintsOf 42 = .ok (.istore 5, 2) := by decide +kernel
theorem dX7_countHintsOf_44 : decode cX7_countHintsOf 44 = .ok (.iload 5, 2) := by decide +kernel
theorem dX7_countHintsOf_46 : decode cX7_countHintsOf 46 = .ok (.ifCond .eq 20, 3) := by decide +kernel
theorem dX7_countHintsOf_49 : decode cX7_countHintsOf 49 = .ok (.aload_n 0, 1) := by decide +kernel
theorem dX7_countHintsOf_50 : decode cX7_countHintsOf 50 = .ok (.getfield 12, 3) := by decide +kernel
theorem dX7_countHintsOf_53 : decode cX7_countHintsOf 53 = .ok (.iload 4, 2) := by decide +kernel
theorem dX7_countHintsOf_55 : decode cX7_countHintsOf 55 = .ok (.iconst 0, 1) := by decide +kernel
theorem dX7_countHintsOf_56 : decode cX7_countHintsOf 56 = .ok (.invokevirtual 146, 3) := by decide +kernel
theorem dX7_countHintsOf_59 : decode cX7_countHintsOf 59 = .ok (.iload_n 1, 1) := by decide +kernel
theorem dX7_countHintsOf_60 : decode cX7_countHintsOf 60 = .ok (.if_icmp .ne 6, 3) := by decide +kernel
theorem dX7_countHintsOf_63 : decode cX7_countHintsOf 63 = .ok (.iinc 3 1, 3) := by decide +kernel
theorem dX7_countHintsOf_66 : decode cX7_countHintsOf 66 = .ok (.iinc 4 1, 3) := by decide +kernel
theorem dX7_countHintsOf_69 : decode cX7_countHintsOf 69 = .ok (.goto (-64), 3) := by decide +kernel
theorem dX7_countHintsOf_72 : decode cX7_countHintsOf 72 = .ok (.iload_n 3, 1) := by decide +kernel
theorem dX7_countHintsOf_73 : decode cX7_countHintsOf 73 = .ok (.ireturn, 1) := by decide +kernel
theorem dX7_countOpen_0 : decode cX7_countOpen 0 = .ok (.iconst 0, 1) := by decide +kernel
theorem dX7_countOpen_1 : decode cX7_countOpen 1 = .ok (.istore_n 1, 1) := by decide +kernel
theorem dX7_countOpen_2 : decode cX7_countOpen 2 = .ok (.iconst 0, 1) := by decide +kernel
theorem dX7_countOpen_3 : decode cX7_countOpen 3 = .ok (.istore_n 2, 1) := by decide +kernel
theorem dX7_countOpen_4 : decode cX7_countOpen 4 = .ok (.iload_n 2, 1) := by decide +kernel
theorem dX7_countOpen_5 : decode cX7_countOpen 5 = .ok (.aload_n 0, 1) := by decide +kernel
theorem dX7_countOpen_6 : decode cX7_countOpen 6 = .ok (.getfield 12, 3) := by decide +kernel
theorem dX7_countOpen_9 : decode cX7_countOpen 9 = .ok (.iconst 5, 1) := by decide +kernel
theorem dX7_countOpen_10 : decode cX7_countOpen 10 = .ok (.invokevirtual 80, 3) := by decide +kernel
theorem dX7_countOpen_13 : decode cX7_countOpen 13 = .ok (.if_icmp .ge 23, 3) := by decide +kernel
theorem dX7_countOpen_16 : decode cX7_countOpen 16 = .ok (.aload_n 0, 1) := by decide +kernel
theorem dX7_countOpen_17 : decode cX7_countOpen 17 = .ok (.getfield 12, 3) := by decide +kernel
theorem dX7_countOpen_20 : decode cX7_countOpen 20 = .ok (.iload_n 2, 1) := by decide +kernel
theorem dX7_countOpen_21 : decode cX7_countOpen 21 = .ok (.invokevirtual 149, 3) := by decide +kernel
theorem dX7_countOpen_24 : decode cX7_countOpen 24 = .ok (.ifCond .eq 6, 3) := by decide +kernel
theorem dX7_countOpen_27 : decode cX7_countOpen 27 = .ok (.iinc 1 1, 3) := by decide +kernel
theorem dX7_countOpen_30 : decode cX7_countOpen 30 = .ok (.iinc 2 1, 3) := by decide +kernel
theorem dX7_countOpen_33 : decode cX7_countOpen 33 = .ok (.goto (-29), 3) := by decide +kernel
theorem dX7_countOpen_36 : decode cX7_countOpen 36 = .ok (.iload_n 1, 1) := by decide +kernel
theorem dX7_countOpen_37 : decode cX7_countOpen 37 = .ok (.ireturn, 1) := by decide +kernel
theorem dX7_countRemembered_0 : decode cX7_countRemembered 0 = .ok (.iconst 0, 1) := by decide +kernel
theorem dX7_countRemembered_1 : decode cX7_countRemembered 1 = .ok (.istore_n 1, 1) := by decide +kernel
theorem dX7_countRemembered_2 : decode cX7_countRemembered 2 = .ok (.iconst 0, 1) := by decide +kernel
theorem dX7_countRemembered_3 : decode cX7_countRemembered 3 = .ok (.istore_n 2, 1) := by decide +kernel
theorem dX7_countRemembered_4 : decode cX7_countRemembered 4 = .ok (.iload_n 2, 1) := by decide +kernel
theorem dX7_countRemembered_5 : decode cX7_countRemembered 5 = .ok (.aload_n 0, 1) := by decide +kernel
theorem dX7_countRemembered_6 : decode cX7_countRemembered 6 = .ok (.getfield 12, 3) := by decide +kernel
theorem dX7_countRemembered_9 : decode cX7_countRemembered 9 = .ok (.iconst 5, 1) := by decide +kernel
theorem dX7_countRemembered_10 : decode cX7_countRemembered 10 = .ok (.invokevirtual 80, 3) := by decide +kernel
theorem dX7_countRemembered_13 : decode cX7_countRemembered 13 = .ok (.if_icmp .ge 26, 3) := by decide +kernel
theorem dX7_countRemembered_16 : decode cX7_countRemembered 16 = .ok (.aload_n 0, 1) := by decide +kernel
theorem dX7_countRemembered_17 : decode cX7_countRemembered 17 = .ok (.getfield 12, 3) := by decide +kernel
theorem dX7_countRemembered_20 : decode cX7_countRemembered 20 = .ok (.iload_n 2, 1) := by decide +kernel
theorem dX7_countRemembered_21 : decode cX7_countRemembered 21 = .ok (.bipush 9, 2) := by decide +kernel
theorem dX7_countRemembered_23 : decode cX7_countRemembered 23 = .ok (.invokevirtual 146, 3) := by decide +kernel
theorem dX7_countRemembered_26 : decode cX7_countRemembered 26 = .ok (.iconst (-1), 1) := by decide +kernel
theorem dX7_countRemembered_27 : decode cX7_countRemembered 27 = .ok (.if_icmp .eq 6, 3) := by decide +kernel
theorem dX7_countRemembered_30 : decode cX7_countRemembered 30 = .ok (.iinc 1 1, 3) := by decide +kernel
theorem dX7_countRemembered_33 : decode cX7_countRemembered 33 = .ok (.iinc 2 1, 3) := by decide +kernel
theorem dX7_countRemembered_36 : decode cX7_countRemembered 36 = .ok (.goto (-32), 3) := by decide +kernel
theorem dX7_countRemembered_39 : decode cX7_countRemembered 39 = .ok (.iload_n 1, 1) := by decide +kernel
theorem dX7_countRemembered_40 : decode cX7_countRemembered 40 = .ok (.ireturn, 1) := by decide +kernel
theorem dX7_countCovered_0 : decode cX7_countCovered 0 = .ok (.iconst 0, 1) := by decide +kernel
theorem dX7_countCovered_1 : decode cX7_countCovered 1 = .ok (.istore_n 1, 1) := by decide +kernel
theorem dX7_countCovered_2 : decode cX7_countCovered 2 = .ok (.iconst 0, 1) := by decide +kernel
theorem dX7_countCovered_3 : decode cX7_countCovered 3 = .ok (.istore_n 2, 1) := by decide +kernel
theorem dX7_countCovered_4 : decode cX7_countCovered 4 = .ok (.iload_n 2, 1) := by decide +kernel
theorem dX7_countCovered_5 : decode cX7_countCovered 5 = .ok (.aload_n 0, 1) := by decide +kernel
theorem dX7_countCovered_6 : decode cX7_countCovered 6 = .ok (.getfield 12, 3) := by decide +kernel
theorem dX7_countCovered_9 : decode cX7_countCovered 9 = .ok (.iconst 5, 1) := by decide +kernel
theorem dX7_countCovered_10 : decode cX7_countCovered 10 = .ok (.invokevirtual 80, 3) := by decide +kernel
theorem dX7_countCovered_13 : decode cX7_countCovered 13 = .ok (.if_icmp .ge 45, 3) := by decide +kernel
theorem dX7_countCovered_16 : decode cX7_countCovered 16 = .ok (.aload_n 0, 1) := by decide +kernel
theorem dX7_countCovered_17 : decode cX7_countCovered 17 = .ok (.getfield 26, 3) := by decide +kernel
theorem dX7_countCovered_20 : decode cX7_countCovered 20 = .ok (.getfield 156, 3) := by decide +kernel
theorem dX7_countCovered_23 : decode cX7_countCovered 23 = .ok (.iload_n 2, 1) := by decide +kernel
theorem dX7_countCovered_24 : decode cX7_countCovered 24 = .ok (.invokevirtual 160, 3) := by decide +kernel
theorem dX7_countCovered_27 : decode cX7_countCovered 27 = .ok (.ifCond .ne 25, 3) := by decide +kernel
theorem dX7_countCovered_30 : decode cX7_countCovered 30 = .ok (.iload_n 1, 1) := by decide +kernel
theorem dX7_countCovered_31 : decode cX7_countCovered 31 = .ok (.aload_n 0, 1) := by decide +kernel
theorem dX7_countCovered_32 : decode cX7_countCovered 32 = .ok (.getfield 12, 3) := by decide +kernel
theorem dX7_countCovered_35 : decode cX7_countCovered 35 = .ok (.iload_n 2, 1) := by decide +kernel
theorem dX7_countCovered_36 : decode cX7_countCovered 36 = .ok (.iconst 1, 1) := by decide +kernel
theorem dX7_countCovered_37 : decode cX7_countCovered 37 = .ok (.invokevirtual 146, 3) := by decide +kernel
theorem dX7_countCovered_40 : decode cX7_countCovered 40 = .ok (.aload_n 0, 1) := by decide +kernel
theorem dX7_countCovered_41 : decode cX7_countCovered 41 = .ok (.getfield 12, 3) := by decide +kernel
theorem dX7_countCovered_44 : decode cX7_countCovered 44 = .ok (.iload_n 2, 1) := by decide +kernel
theorem dX7_countCovered_45 : decode cX7_countCovered 45 = .ok (.iconst 2, 1) := by decide +kernel
theorem dX7_countCovered_46 : decode cX7_countCovered 46 = .ok (.invokevirtual 146, 3) := by decide +kernel
theorem dX7_countCovered_49 : decode cX7_countCovered 49 = .ok (.imul, 1) := by decide +kernel
theorem dX7_countCovered_50 : decode cX7_countCovered 50 = .ok (.iadd, 1) := by decide +kernel
theorem dX7_countCovered_51 : decode cX7_countCovered 51 = .ok (.istore_n 1, 1) := by decide +kernel
theorem dX7_countCovered_52 : decode cX7_countCovered 52 = .ok (.iinc 2 1, 3) := by decide +kernel
theorem dX7_countCovered_55 : decode cX7_countCovered 55 = .ok (.goto (-51), 3) := by decide +kernel
theorem dX7_countCovered_58 : decode cX7_countCovered 58 = .ok (.iload_n 1, 1) := by decide +kernel
theorem dX7_countCovered_59 : decode cX7_countCovered 59 = .ok (.ireturn, 1) := by decide +kernel
theorem dX7_shownValue_0 : decode cX7_shownValue 0 = .ok (.aload_n 0, 1) := by decide +kernel
theorem dX7_shownValue_1 : decode cX7_shownValue 1 = .ok (.getfield 26, 3) := by decide +kernel
theorem dX7_shownValue_4 : decode cX7_shownValue 4 = .ok (.getfield 239, 3) := by decide +kernel
theorem dX7_shownValue_7 : decode cX7_shownValue 7 = .ok (.iload_n 1, 1) := by decide +kernel
theorem dX7_shownValue_8 : decode cX7_shownValue 8 = .ok (.invokevirtual 160, 3) := by decide +kernel
theorem dX7_shownValue_11 : decode cX7_shownValue 11 = .ok (.istore_n 3, 1) := by decide +kernel
theorem dX7_shownValue_12 : decode cX7_shownValue 12 = .ok (.aload_n 0, 1) := by decide +kernel
theorem dX7_shownValue_13 : decode cX7_shownValue 13 = .ok (.getfield 47, 3) := by decide +kernel
theorem dX7_shownValue_16 : decode cX7_shownValue 16 = .ok (.aload_n 0, 1) := by decide +kernel
theorem dX7_shownValue_17 : decode cX7_shownValue 17 = .ok (.getfield 12, 3) := by decide +kernel
theorem dX7_shownValue_20 : decode cX7_shownValue 20 = .ok (.iload_n 1, 1) := by decide +kernel
theorem dX7_shownValue_21 : decode cX7_shownValue 21 = .ok (.iload_n 3, 1) := by decide +kernel
theorem dX7_shownValue_22 : decode cX7_shownValue 22 = .ok (.aload_n 0, 1) := by decide +kernel
theorem dX7_shownValue_23 : decode cX7_shownValue 23 = .ok (.getfield 12, 3) := by decide +kernel
theorem dX7_shownValue_26 : decode cX7_shownValue 26 = .ok (.iconst 2, 1) := by decide +kernel
theorem dX7_shownValue_27 : decode cX7_shownValue 27 = .ok (.invokevirtual 80, 3) := by decide +kernel
theorem dX7_shownValue_30 : decode cX7_shownValue 30 = .ok (.aload_n 0, 1) := by decide +kernel
theorem dX7_shownValue_31 : decode cX7_shownValue 31 = .ok (.getfield 12, 3) := by decide +kernel
theorem dX7_shownValue_34 : decode cX7_shownValue 34 = .ok (.iconst 3, 1) := by decide +kernel
theorem dX7_shownValue_35 : decode cX7_shownValue 35 = .ok (.invokevirtual 80, 3) := by decide +kernel
theorem dX7_shownValue_38 : decode cX7_shownValue 38 = .ok (.invokevirtual 185, 3) := by decide +kernel
theorem dX7_shownValue_41 : decode cX7_shownValue 41 = .ok (.iload_n 2, 1) := by decide +kernel
theorem dX7_shownValue_42 : decode cX7_shownValue 42 = .ok (.tableswitch 76 9 13 #[34, 36, 44, 52, 60], 34) := by decide +kernel
theorem dX7_shownValue_76 : decode cX7_shownValue 76 = .ok (.iload_n 3, 1) := by decide +kernel
theorem dX7_shownValue_77 : decode cX7_shownValue 77 = .ok (.ireturn, 1) := by decide +kernel
theorem dX7_shownValue_78 : decode cX7_shownValue 78 = .ok (.aload_n 0, 1) := by decide +kernel
theorem dX7_shownValue_79 : decode cX7_shownValue 79 = .ok (.getfield 47, 3) := by decide +kernel
theorem dX7_shownValue_82 : decode cX7_shownValue 82 = .ok (.getfield 193, 3) := by decide +kernel
theorem dX7_shownValue_85 : decode cX7_shownValue 85 = .ok (.ireturn, 1) := by decide +kernel
theorem dX7_shownValue_86 : decode cX7_shownValue 86 = .ok (.aload_n 0, 1) := by decide +kernel
theorem dX7_shownValue_87 : decode cX7_shownValue 87 = .ok (.getfield 47, 3) := by decide +kernel
theorem dX7_shownValue_90 : decode cX7_shownValue 90 = .ok (.getfield 196, 3) := by decide +kernel
theorem dX7_shownValue_93 : decode cX7_shownValue 93 = .ok (.ireturn, 1) := by decide +kernel
theorem dX7_shownValue_94 : decode cX7_shownValue 94 = .ok (.aload_n 0, 1) := by decide +kernel
theorem dX7_shownValue_95 : decode cX7_shownValue 95 = .ok (.getfield 47, 3) := by decide +kernel
theorem dX7_shownValue_98 : decode cX7_shownValue 98 = .ok (.getfield 202, 3) := by decide +kernel
theorem dX7_shownValue_101 : decode cX7_shownValue 101 = .ok (.ireturn, 1) := by decide +kernel
theorem dX7_shownValue_102 : decode cX7_shownValue 102 = .ok (.aload_n 0, 1) := by decide +kernel
theorem dX7_shownValue_103 : decode cX7_shownValue 103 = .ok (.getfield 47, 3) := by decide +kernel
theorem dX7_shownValue_106 : decode cX7_shownValue 106 = .ok (.getfield 251, 3) := by decide +kernel
theorem dX7_shownValue_109 : decode cX7_shownValue 109 = .ok (.ifCond .eq 7, 3) := by decide +kernel
theorem dX7_shownValue_112 : decode cX7_shownValue 112 = .ok (.iconst 1, 1) := by decide +kernel
theorem dX7_shownValue_113 : decode cX7_shownValue 113 = .ok (.goto 4, 3) := by decide +kernel
theorem dX7_shownValue_116 : decode cX7_shownValue 116 = .ok (.iconst 0, 1) := by decide +kernel
theorem dX7_shownValue_117 : decode cX7_shownValue 117 = .ok (.ireturn, 1) := by decide +kernel
theorem dX7_shownValue_118 : decode cX7_shownValue 118 = .ok (.aload_n 0, 1) := by decide +kernel
theorem dX7_shownValue_119 : decode cX7_shownValue 119 = .ok (.getfield 47, 3) := by decide +kernel
theorem dX7_shownValue_122 : decode cX7_shownValue 122 = .ok (.getfield 199, 3) := by decide +kernel
theorem dX7_shownValue_125 : decode cX7_shownValue 125 = .ok (.ireturn, 1) := by decide +kernel
theorem dX7_isInSightOnATry_0 : decode cX7_isInSightOnATry 0 = .ok (.iconst 0, 1) := by decide +kernel
theorem dX7_isInSightOnATry_1 : decode cX7_isInSightOnATry 1 = .ok (.istore 4, 2) := by decide +kernel
theorem dX7_isInSightOnATry_3 : decode cX7_isInSightOnATry 3 = .ok (.iload 4, 2) := by decide +kernel
theorem dX7_isInSightOnATry_5 : decode cX7_isInSightOnATry 5 = .ok (.aload_n 0, 1) := by decide +kernel
theorem dX7_isInSightOnATry_6 : decode cX7_isInSightOnATry 6 = .ok (.getfield 40, 3) := by decide +kernel
theorem dX7_isInSightOnATry_9 : decode cX7_isInSightOnATry 9 = .ok (.getfield 254, 3) := by decide +kernel
theorem dX7_isInSightOnATry_12 : decode cX7_isInSightOnATry 12 = .ok (.if_icmp .ge 47, 3) := by decide +kernel
theorem dX7_isInSightOnATry_15 : decode cX7_isInSightOnATry 15 = .ok (.aload_n 0, 1) := by decide +kernel
theorem dX7_isInSightOnATry_16 : decode cX7_isInSightOnATry 16 = .ok (.getfield 47, 3) := by decide +kernel
theorem dX7_isInSightOnATry_19 : decode cX7_isInSightOnATry 19 = .ok (.aload_n 0, 1) := by decide +kernel
theorem dX7_isInSightOnATry_20 : decode cX7_isInSightOnATry 20 = .ok (.getfield 12, 3) := by decide +kernel
theorem dX7_isInSightOnATry_23 : decode cX7_isInSightOnATry 23 = .ok (.iload_n 1, 1) := by decide +kernel
theorem dX7_isInSightOnATry_24 : decode cX7_isInSightOnATry 24 = .ok (.aload_n 0, 1) := by decide +kernel
theorem dX7_isInSightOnATry_25 : decode cX7_isInSightOnATry 25 = .ok (.getfield 40, 3) := by decide +kernel
theorem dX7_isInSightOnATry_28 : decode cX7_isInSightOnATry 28 = .ok (.getfield 257, 3) := by decide +kernel
theorem dX7_isInSightOnATry_31 : decode cX7_isInSightOnATry 31 = .ok (.iload 4, 2) := by decide +kernel
theorem dX7_isInSightOnATry_33 : decode cX7_isInSightOnATry 33 = .ok (.invokevirtual 160, 3) := by decide +kernel
theorem dX7_isInSightOnATry_36 : decode cX7_isInSightOnATry 36 = .ok (.iload_n 2, 1) := by decide +kernel
theorem dX7_isInSightOnATry_37 : decode cX7_isInSightOnATry 37 = .ok (.iload_n 3, 1) := by decide +kernel
theorem dX7_isInSightOnATry_38 : decode cX7_isInSightOnATry 38 = .ok (.invokevirtual 185, 3) := by decide +kernel
theorem dX7_isInSightOnATry_41 : decode cX7_isInSightOnATry 41 = .ok (.aload_n 0, 1) := by decide +kernel
theorem dX7_isInSightOnATry_42 : decode cX7_isInSightOnATry 42 = .ok (.getfield 47, 3) := by decide +kernel
theorem dX7_isInSightOnATry_45 : decode cX7_isInSightOnATry 45 = .ok (.getfield 189, 3) := by decide +kernel
theorem dX7_isInSightOnATry_48 : decode cX7_isInSightOnATry 48 = .ok (.ifCond .eq 5, 3) := by decide +kernel
theorem dX7_isInSightOnATry_51 : decode cX7_isInSightOnATry 51 = .ok (.iconst 1, 1) := by decide +kernel
theorem dX7_isInSightOnATry_52 : decode cX7_isInSightOnATry 52 = .ok (.ireturn, 1) := by decide +kernel
theorem dX7_isInSightOnATry_53 : decode cX7_isInSightOnATry 53 = .ok (.iinc 4 1, 3) := by decide +kernel
theorem dX7_isInSightOnATry_56 : decode cX7_isInSightOnATry 56 = .ok (.goto (-53), 3) := by decide +kernel
theorem dX7_isInSightOnATry_59 : decode cX7_isInSightOnATry 59 = .ok (.iconst 0, 1) := by decide +kernel
theorem dX7_isInSightOnATry_60 : decode cX7_isInSightOnATry 60 = .ok (.ireturn, 1) := by decide +kernel
theorem dX7_isLevel_0 : decode cX7_isLevel 0 = .ok (.iload_n 0, 1) := by decide +kernel
theorem dX7_isLevel_1 : decode cX7_isLevel 1 = .ok (.ifCond .eq 8, 3) := by decide +kernel
theorem dX7_isLevel_4 : decode cX7_isLevel 4 = .ok (.iload_n 0, 1) := by decide +kernel
theorem dX7_isLevel_5 : decode cX7_isLevel 5 = .ok (.iconst 2, 1) := by decide +kernel
theorem dX7_isLevel_6 : decode cX7_isLevel 6 = .ok (.if_icmp .ne 7, 3) := by decide +kernel
theorem dX7_isLevel_9 : decode cX7_isLevel 9 = .ok (.iconst 1, 1) := by decide +kernel
theorem dX7_isLevel_10 : decode cX7_isLevel 10 = .ok (.goto 4, 3) := by decide +kernel
theorem dX7_isLevel_13 : decode cX7_isLevel 13 = .ok (.iconst 0, 1) := by decide +kernel
theorem dX7_isLevel_14 : decode cX7_isLevel 14 = .ok (.ireturn, 1) := by decide +kernel
theorem dX7_isBefore_0 : decode cX7_isBefore 0 = .ok (.iload_n 0, 1) := by decide +kernel
theorem dX7_isBefore_1 : decode cX7_isBefore 1 = .ok (.ifCond .eq 8, 3) := by decide +kernel
theorem dX7_isBefore_4 : decode cX7_isBefore 4 = .ok (.iload_n 0, 1) := by decide +kernel
theorem dX7_isBefore_5 : decode cX7_isBefore 5 = .ok (.iconst 3, 1) := by decide +kernel
theorem dX7_isBefore_6 : decode cX7_isBefore 6 = .ok (.if_icmp .ne 7, 3) := by decide +kernel
theorem dX7_isBefore_9 : decode cX7_isBefore 9 = .ok (.iconst 1, 1) := by decide +kernel
theorem dX7_isBefore_10 : decode cX7_isBefore 10 = .ok (.goto 4, 3) := by decide +kernel
theorem dX7_isBefore_13 : decode cX7_isBefore 13 = .ok (.iconst 0, 1) := by decide +kernel
theorem dX7_isBefore_14 : decode cX7_isBefore 14 = .ok (.ireturn, 1) := by decide +kernel
theorem dX7_edgeBy_0 : decode cX7_edgeBy 0 = .ok (.iload_n 2, 1) := by decide +kernel
theorem dX7_edgeBy_1 : decode cX7_edgeBy 1 = .ok (.invokestatic 175, 3) := by decide +kernel
theorem dX7_edgeBy_4 : decode cX7_edgeBy 4 = .ok (.istore_n 3, 1) := by decide +kernel
theorem dX7_edgeBy_5 : decode cX7_edgeBy 5 = .ok (.aload_n 0, 1) := by decide +kernel
theorem dX7_edgeBy_6 : decode cX7_edgeBy 6 = .ok (.iload_n 1, 1) := by decide +kernel
theorem dX7_edgeBy_7 : decode cX7_edgeBy 7 = .ok (.iload_n 3, 1) := by decide +kernel
theorem dX7_edgeBy_8 : decode cX7_edgeBy 8 = .ok (.ifCond .eq 7, 3) := by decide +kernel
theorem dX7_edgeBy_11 : decode cX7_edgeBy 11 = .ok (.iconst 1, 1) := by decide +kernel
theorem dX7_edgeBy_12 : decode cX7_edgeBy 12 = .ok (.goto 4, 3) := by decide +kernel
theorem dX7_edgeBy_15 : decode cX7_edgeBy 15 = .ok (.iconst 0, 1) := by decide +kernel
theorem dX7_edgeBy_16 : decode cX7_edgeBy 16 = .ok (.invokevirtual 91, 3) := by decide +kernel
theorem dX7_edgeBy_19 : decode cX7_edgeBy 19 = .ok (.istore 4, 2) := by decide +kernel
theorem dX7_edgeBy_21 : decode cX7_edgeBy 21 = .ok (.aload_n 0, 1) := by decide +kernel
theorem dX7_edgeBy_22 : decode cX7_edgeBy 22 = .ok (.iconst 0, 1) := by decide +kernel
theorem dX7_edgeBy_23 : decode cX7_edgeBy 23 = .ok (.invokevirtual 108, 3) := by decide +kernel
theorem dX7_edgeBy_26 : decode cX7_edgeBy 26 = .ok (.istore 5, 2) := by decide +kernel
theorem dX7_edgeBy_28 : decode cX7_edgeBy 28 = .ok (.iload_n 2, 1) := by decide +kernel
theorem dX7_edgeBy_29 : decode cX7_edgeBy 29 = .ok (.invokestatic 182, 3) := by decide +kernel
theorem dX7_edgeBy_32 : decode cX7_edgeBy 32 = .ok (.ifCond .eq 9, 3) := by decide +kernel
theorem dX7_edgeBy_35 : decode cX7_edgeBy 35 = .ok (.iload 4, 2) := by decide +kernel
theorem dX7_edgeBy_37 : decode cX7_edgeBy 37 = .ok (.iload 5, 2) := by decide +kernel
theorem dX7_edgeBy_39 : decode cX7_edgeBy 39 = .ok (.isub, 1) := by decide +kernel
theorem dX7_edgeBy_40 : decode cX7_edgeBy 40 = .ok (.ireturn, 1) := by decide +kernel
theorem dX7_edgeBy_41 : decode cX7_edgeBy 41 = .ok (.iload 4, 2) := by decide +kernel
theorem dX7_edgeBy_43 : decode cX7_edgeBy 43 = .ok (.aload_n 0, 1) := by decide +kernel
theorem dX7_edgeBy_44 : decode cX7_edgeBy 44 = .ok (.iload_n 1, 1) := by decide +kernel
theorem dX7_edgeBy_45 : decode cX7_edgeBy 45 = .ok (.iload_n 3, 1) := by decide +kernel
theorem dX7_edgeBy_46 : decode cX7_edgeBy 46 = .ok (.ifCond .eq 7, 3) := by decide +kernel
theorem dX7_edgeBy_49 : decode cX7_edgeBy 49 = .ok (.iconst 3, 1) := by decide +kernel
theorem dX7_edgeBy_50 : decode cX7_edgeBy 50 = .ok (.goto 4, 3) := by decide +kernel
theorem dX7_edgeBy_53 : decode cX7_edgeBy 53 = .ok (.iconst 2, 1) := by decide +kernel
theorem dX7_edgeBy_54 : decode cX7_edgeBy 54 = .ok (.invokevirtual 91, 3) := by decide +kernel
theorem dX7_edgeBy_57 : decode cX7_edgeBy 57 = .ok (.iadd, 1) := by decide +kernel
theorem dX7_edgeBy_58 : decode cX7_edgeBy 58 = .ok (.iload 5, 2) := by decide +kernel
theorem dX7_edgeBy_60 : decode cX7_edgeBy 60 = .ok (.iadd, 1) := by decide +kernel
theorem dX7_edgeBy_61 : decode cX7_edgeBy 61 = .ok (.ireturn, 1) := by decide +kernel
theorem dX7_spansMeet_0 : decode cX7_spansMeet 0 = .ok (.iload_n 0, 1) := by decide +kernel
theorem dX7_spansMeet_1 : decode cX7_spansMeet 1 = .ok (.iload_n 2, 1) := by decide +kernel
theorem dX7_spansMeet_2 : decode cX7_spansMeet 2 = .ok (.iload_n 3, 1) := by decide +kernel
theorem dX7_spansMeet_3 : decode cX7_spansMeet 3 = .ok (.iadd, 1) := by decide +kernel
theorem dX7_spansMeet_4 : decode cX7_spansMeet 4 = .ok (.if_icmp .ge 14, 3) := by decide +kernel
theorem dX7_spansMeet_7 : decode cX7_spansMeet 7 = .ok (.iload_n 2, 1) := by decide +kernel
theorem dX7_spansMeet_8 : decode cX7_spansMeet 8 = .ok (.iload_n 0, 1) := by decide +kernel
theorem dX7_spansMeet_9 : decode cX7_spansMeet 9 = .ok (.iload_n 1, 1) := by decide +kernel
theorem dX7_spansMeet_10 : decode cX7_spansMeet 10 = .ok (.iadd, 1) := by decide +kernel
theorem dX7_spansMeet_11 : decode cX7_spansMeet 11 = .ok (.if_icmp .ge 7, 3) := by decide +kernel
theorem dX7_spansMeet_14 : decode cX7_spansMeet 14 = .ok (.iconst 1, 1) := by decide +kernel
theorem dX7_spansMeet_15 : decode cX7_spansMeet 15 = .ok (.goto 4, 3) := by decide +kernel
theorem dX7_spansMeet_18 : decode cX7_spansMeet 18 = .ok (.iconst 0, 1) := by decide +kernel
theorem dX7_spansMeet_19 : decode cX7_spansMeet 19 = .ok (.ireturn, 1) := by decide +kernel
theorem dX7_spanLiesIn_0 : decode cX7_spanLiesIn 0 = .ok (.iload_n 0, 1) := by decide +kernel
theorem dX7_spanLiesIn_1 : decode cX7_spanLiesIn 1 = .ok (.iload_n 2, 1) := by decide +kernel
theorem dX7_spanLiesIn_2 : decode cX7_spanLiesIn 2 = .ok (.if_icmp .lt 16, 3) := by decide +kernel
theorem dX7_spanLiesIn_5 : decode cX7_spanLiesIn 5 = .ok (.iload_n 0, 1) := by decide +kernel
theorem dX7_spanLiesIn_6 : decode cX7_spanLiesIn 6 = .ok (.iload_n 1, 1) := by decide +kernel
theorem dX7_spanLiesIn_7 : decode cX7_spanLiesIn 7 = .ok (.iadd, 1) := by decide +kernel
theorem dX7_spanLiesIn_8 : decode cX7_spanLiesIn 8 = .ok (.iload_n 2, 1) := by decide +kernel
theorem dX7_spanLiesIn_9 : decode cX7_spanLiesIn 9 = .ok (.iload_n 3, 1) := by decide +kernel
theorem dX7_spanLiesIn_10 : decode cX7_spanLiesIn 10 = .ok (.iadd, 1) := by decide +kernel
theorem dX7_spanLiesIn_11 : decode cX7_spanLiesIn 11 = .ok (.if_icmp .gt 7, 3) := by decide +kernel
theorem dX7_spanLiesIn_14 : decode cX7_spanLiesIn 14 = .ok (.iconst 1, 1) := by decide +kernel
theorem dX7_spanLiesIn_15 : decode cX7_spanLiesIn 15 = .ok (.goto 4, 3) := by decide +kernel
theorem dX7_spanLiesIn_18 : decode cX7_spanLiesIn 18 = .ok (.iconst 0, 1) := by decide +kernel
theorem dX7_spanLiesIn_19 : decode cX7_spanLiesIn 19 = .ok (.ireturn, 1) := by decide +kernel
theorem dJ9_floorDiv_7cf53_0 : decode cJ9_floorDiv_7cf53 0 = .ok (.iload_n 0, 1) := by decide +kernel
theorem dJ9_floorDiv_7cf53_1 : decode cJ9_floorDiv_7cf53 1 = .ok (.iload_n 1, 1) := by decide +kernel
theorem dJ9_floorDiv_7cf53_2 : decode cJ9_floorDiv_7cf53 2 = .ok (.idiv, 1) := by decide +kernel
theorem dJ9_floorDiv_7cf53_3 : decode cJ9_floorDiv_7cf53 3 = .ok (.istore_n 2, 1) := by decide +kernel
theorem dJ9_floorDiv_7cf53_4 : decode cJ9_floorDiv_7cf53 4 = .ok (.iload_n 0, 1) := by decide +kernel
theorem dJ9_floorDiv_7cf53_5 : decode cJ9_floorDiv_7cf53 5 = .ok (.iload_n 1, 1) := by decide +kernel
theorem dJ9_floorDiv_7cf53_6 : decode cJ9_floorDiv_7cf53 6 = .ok (.ixor, 1) := by decide +kernel
theorem dJ9_floorDiv_7cf53_7 : decode cJ9_floorDiv_7cf53 7 = .ok (.ifCond .ge 14, 3) := by decide +kernel
theorem dJ9_floorDiv_7cf53_10 : decode cJ9_floorDiv_7cf53 10 = .ok (.iload_n 2, 1) := by decide +kernel
theorem dJ9_floorDiv_7cf53_11 : decode cJ9_floorDiv_7cf53 11 = .ok (.iload_n 1, 1) := by decide +kernel
theorem dJ9_floorDiv_7cf53_12 : decode cJ9_floorDiv_7cf53 12 = .ok (.imul, 1) := by decide +kernel
theorem dJ9_floorDiv_7cf53_13 : decode cJ9_floorDiv_7cf53 13 = .ok (.iload_n 0, 1) := by decide +kernel
theorem dJ9_floorDiv_7cf53_14 : decode cJ9_floorDiv_7cf53 14 = .ok (.if_icmp .eq 7, 3) := by decide +kernel
theorem dJ9_floorDiv_7cf53_17 : decode cJ9_floorDiv_7cf53 17 = .ok (.iload_n 2, 1) := by decide +kernel
theorem dJ9_floorDiv_7cf53_18 : decode cJ9_floorDiv_7cf53 18 = .ok (.iconst 1, 1) := by decide +kernel
theorem dJ9_floorDiv_7cf53_19 : decode cJ9_floorDiv_7cf53 19 = .ok (.isub, 1) := by decide +kernel
theorem dJ9_floorDiv_7cf53_20 : decode cJ9_floorDiv_7cf53 20 = .ok (.ireturn, 1) := by decide +kernel
theorem dJ9_floorDiv_7cf53_21 : decode cJ9_floorDiv_7cf53 21 = .ok (.iload_n 2, 1) := by decide +kernel
theorem dJ9_floorDiv_7cf53_22 : decode cJ9_floorDiv_7cf53 22 = .ok (.ireturn, 1) := by decide +kernel
theorem dJ9_max_7cf53_0 : decode cJ9_max_7cf53 0 = .ok (.iload_n 0, 1) := by decide +kernel
theorem dJ9_max_7cf53_1 : decode cJ9_max_7cf53 1 = .ok (.iload_n 1, 1) := by decide +kernel
theorem dJ9_max_7cf53_2 : decode cJ9_max_7cf53 2 = .ok (.if_icmp .lt 7, 3) := by decide +kernel
theorem dJ9_max_7cf53_5 : decode cJ9_max_7cf53 5 = .ok (.iload_n 0, 1) := by decide +kernel
theorem dJ9_max_7cf53_6 : decode cJ9_max_7cf53 6 = .ok (.goto 4, 3) := by decide +kernel
theorem dJ9_max_7cf53_9 : decode cJ9_max_7cf53 9 = .ok (.iload_n 1, 1) := by decide +kernel
theorem dJ9_max_7cf53_10 : decode cJ9_max_7cf53 10 = .ok (.ireturn, 1) := by decide +kernel
theorem dJ9_min_7cf53_0 : decode cJ9_min_7cf53 0 = .ok (.iload_n 0, 1) := by decide +kernel
theorem dJ9_min_7cf53_1 : decode cJ9_min_7cf53 1 = .ok (.iload_n 1, 1) := by decide +kernel
theorem dJ9_min_7cf53_2 : decode cJ9_min_7cf53 2 = .ok (.if_icmp .gt 7, 3) := by decide +kernel
theorem dJ9_min_7cf53_5 : decode cJ9_min_7cf53 5 = .ok (.iload_n 0, 1) := by decide +kernel
theorem dJ9_min_7cf53_6 : decode cJ9_min_7cf53 6 = .ok (.goto 4, 3) := by decide +kernel
theorem dJ9_min_7cf53_9 : decode cJ9_min_7cf53 9 = .ok (.iload_n 1, 1) := by decide +kernel
theorem dJ9_min_7cf53_10 : decode cJ9_min_7cf53 10 = .ok (.ireturn, 1) := by decide +kernel
