/-! decode rows, out of the printed names -/
theorem dL_draw_0 : decode cL_draw 0 = .ok (.iload_n 1, 1) := by decide +kernel
theorem dL_draw_1 : decode cL_draw 1 = .ok (.aload_n 0, 1) := by decide +kernel
theorem dL_draw_2 : decode cL_draw 2 = .ok (.arraylength, 1) := by decide +kernel
theorem dL_draw_3 : decode cL_draw 3 = .ok (.if_icmp .ge 9, 3) := by decide +kernel
theorem dL_draw_6 : decode cL_draw 6 = .ok (.aload_n 0, 1) := by decide +kernel
theorem dL_draw_7 : decode cL_draw 7 = .ok (.iload_n 1, 1) := by decide +kernel
theorem dL_draw_8 : decode cL_draw 8 = .ok (.iaload, 1) := by decide +kernel
theorem dL_draw_9 : decode cL_draw 9 = .ok (.goto 4, 3) := by decide +kernel
theorem dL_draw_12 : decode cL_draw 12 = .ok (.iconst 0, 1) := by decide +kernel
theorem dL_draw_13 : decode cL_draw 13 = .ok (.ldc 7, 2) := by decide +kernel
theorem dL_draw_15 : decode cL_draw 15 = .ok (.iand, 1) := by decide +kernel
theorem dL_draw_16 : decode cL_draw 16 = .ok (.iload_n 2, 1) := by decide +kernel
theorem dL_draw_17 : decode cL_draw 17 = .ok (.irem, 1) := by decide +kernel
theorem dL_draw_18 : decode cL_draw 18 = .ok (.ireturn, 1) := by decide +kernel
theorem dL_four_0 : decode cL_four 0 = .ok (.iconst 0, 1) := by decide +kernel
theorem dL_four_1 : decode cL_four 1 = .ok (.istore_n 2, 1) := by decide +kernel
theorem dL_four_2 : decode cL_four 2 = .ok (.iconst 0, 1) := by decide +kernel
theorem dL_four_3 : decode cL_four 3 = .ok (.istore_n 3, 1) := by decide +kernel
theorem dL_four_4 : decode cL_four 4 = .ok (.iload_n 3, 1) := by decide +kernel
theorem dL_four_5 : decode cL_four 5 = .ok (.iconst 4, 1) := by decide +kernel
theorem dL_four_6 : decode cL_four 6 = .ok (.if_icmp .ge 36, 3) := by decide +kernel
theorem dL_four_9 : decode cL_four 9 = .ok (.iload_n 2, 1) := by decide +kernel
theorem dL_four_10 : decode cL_four 10 = .ok (.bipush 8, 2) := by decide +kernel
theorem dL_four_12 : decode cL_four 12 = .ok (.ishl, 1) := by decide +kernel
theorem dL_four_13 : decode cL_four 13 = .ok (.iload_n 1, 1) := by decide +kernel
theorem dL_four_14 : decode cL_four 14 = .ok (.iload_n 3, 1) := by decide +kernel
theorem dL_four_15 : decode cL_four 15 = .ok (.iadd, 1) := by decide +kernel
theorem dL_four_16 : decode cL_four 16 = .ok (.aload_n 0, 1) := by decide +kernel
theorem dL_four_17 : decode cL_four 17 = .ok (.invokevirtual 8, 3) := by decide +kernel
theorem dL_four_20 : decode cL_four 20 = .ok (.if_icmp .ge 13, 3) := by decide +kernel
theorem dL_four_23 : decode cL_four 23 = .ok (.aload_n 0, 1) := by decide +kernel
theorem dL_four_24 : decode cL_four 24 = .ok (.iload_n 1, 1) := by decide +kernel
theorem dL_four_25 : decode cL_four 25 = .ok (.iload_n 3, 1) := by decide +kernel
theorem dL_four_26 : decode cL_four 26 = .ok (.iadd, 1) := by decide +kernel
theorem dL_four_27 : decode cL_four 27 = .ok (.invokevirtual 14, 3) := by decide +kernel
theorem dL_four_30 : decode cL_four 30 = .ok (.goto 4, 3) := by decide +kernel
theorem dL_four_33 : decode cL_four 33 = .ok (.iconst 0, 1) := by decide +kernel
theorem dL_four_34 : decode cL_four 34 = .ok (.ior, 1) := by decide +kernel
theorem dL_four_35 : decode cL_four 35 = .ok (.istore_n 2, 1) := by decide +kernel
theorem dL_four_36 : decode cL_four 36 = .ok (.iinc 3 1, 3) := by decide +kernel
theorem dL_four_39 : decode cL_four 39 = .ok (.goto (-35), 3) := by decide +kernel
theorem dL_four_42 : decode cL_four 42 = .ok (.iload_n 2, 1) := by decide +kernel
theorem dL_four_43 : decode cL_four 43 = .ok (.ireturn, 1) := by decide +kernel
theorem dL_feed_0 : decode cL_feed 0 = .ok (.iconst 0, 1) := by decide +kernel
theorem dL_feed_1 : decode cL_feed 1 = .ok (.istore_n 2, 1) := by decide +kernel
theorem dL_feed_2 : decode cL_feed 2 = .ok (.iconst 0, 1) := by decide +kernel
theorem dL_feed_3 : decode cL_feed 3 = .ok (.istore_n 3, 1) := by decide +kernel
theorem dL_feed_4 : decode cL_feed 4 = .ok (.iload_n 3, 1) := by decide +kernel
theorem dL_feed_5 : decode cL_feed 5 = .ok (.aload_n 1, 1) := by decide +kernel
theorem dL_feed_6 : decode cL_feed 6 = .ok (.invokevirtual 8, 3) := by decide +kernel
theorem dL_feed_9 : decode cL_feed 9 = .ok (.if_icmp .lt 7, 3) := by decide +kernel
theorem dL_feed_12 : decode cL_feed 12 = .ok (.iload_n 3, 1) := by decide +kernel
theorem dL_feed_13 : decode cL_feed 13 = .ok (.ifCond .ne 50, 3) := by decide +kernel
theorem dL_feed_16 : decode cL_feed 16 = .ok (.aload_n 0, 1) := by decide +kernel
theorem dL_feed_17 : decode cL_feed 17 = .ok (.aload_n 1, 1) := by decide +kernel
theorem dL_feed_18 : decode cL_feed 18 = .ok (.iload_n 3, 1) := by decide +kernel
theorem dL_feed_19 : decode cL_feed 19 = .ok (.invokestatic 18, 3) := by decide +kernel
theorem dL_feed_22 : decode cL_feed 22 = .ok (.aload_n 1, 1) := by decide +kernel
theorem dL_feed_23 : decode cL_feed 23 = .ok (.iload_n 3, 1) := by decide +kernel
theorem dL_feed_24 : decode cL_feed 24 = .ok (.iconst 4, 1) := by decide +kernel
theorem dL_feed_25 : decode cL_feed 25 = .ok (.iadd, 1) := by decide +kernel
theorem dL_feed_26 : decode cL_feed 26 = .ok (.invokestatic 18, 3) := by decide +kernel
theorem dL_feed_29 : decode cL_feed 29 = .ok (.aload_n 1, 1) := by decide +kernel
theorem dL_feed_30 : decode cL_feed 30 = .ok (.iload_n 3, 1) := by decide +kernel
theorem dL_feed_31 : decode cL_feed 31 = .ok (.bipush 8, 2) := by decide +kernel
theorem dL_feed_33 : decode cL_feed 33 = .ok (.iadd, 1) := by decide +kernel
theorem dL_feed_34 : decode cL_feed 34 = .ok (.invokestatic 18, 3) := by decide +kernel
theorem dL_feed_37 : decode cL_feed 37 = .ok (.aload_n 1, 1) := by decide +kernel
theorem dL_feed_38 : decode cL_feed 38 = .ok (.iload_n 3, 1) := by decide +kernel
theorem dL_feed_39 : decode cL_feed 39 = .ok (.bipush 12, 2) := by decide +kernel
theorem dL_feed_41 : decode cL_feed 41 = .ok (.iadd, 1) := by decide +kernel
theorem dL_feed_42 : decode cL_feed 42 = .ok (.invokestatic 18, 3) := by decide +kernel
theorem dL_feed_45 : decode cL_feed 45 = .ok (.aload_n 1, 1) := by decide +kernel
theorem dL_feed_46 : decode cL_feed 46 = .ok (.iload_n 3, 1) := by decide +kernel
theorem dL_feed_47 : decode cL_feed 47 = .ok (.bipush 16, 2) := by decide +kernel
theorem dL_feed_49 : decode cL_feed 49 = .ok (.iadd, 1) := by decide +kernel
theorem dL_feed_50 : decode cL_feed 50 = .ok (.invokestatic 18, 3) := by decide +kernel
theorem dL_feed_53 : decode cL_feed 53 = .ok (.invokevirtual 24, 3) := by decide +kernel
theorem dL_feed_56 : decode cL_feed 56 = .ok (.istore_n 2, 1) := by decide +kernel
theorem dL_feed_57 : decode cL_feed 57 = .ok (.iinc 3 20, 3) := by decide +kernel
theorem dL_feed_60 : decode cL_feed 60 = .ok (.goto (-56), 3) := by decide +kernel
theorem dL_feed_63 : decode cL_feed 63 = .ok (.aload_n 0, 1) := by decide +kernel
theorem dL_feed_64 : decode cL_feed 64 = .ok (.iload_n 2, 1) := by decide +kernel
theorem dL_feed_65 : decode cL_feed 65 = .ok (.aload_n 1, 1) := by decide +kernel
theorem dL_feed_66 : decode cL_feed 66 = .ok (.invokevirtual 8, 3) := by decide +kernel
theorem dL_feed_69 : decode cL_feed 69 = .ok (.invokestatic 30, 3) := by decide +kernel
theorem dL_feed_72 : decode cL_feed 72 = .ok (.invokevirtual 36, 3) := by decide +kernel
theorem dL_feed_75 : decode cL_feed 75 = .ok (.return_, 1) := by decide +kernel
theorem dL_name_0 : decode cL_name 0 = .ok (.bipush 97, 2) := by decide +kernel
theorem dL_name_2 : decode cL_name 2 = .ok (.iload_n 0, 1) := by decide +kernel
theorem dL_name_3 : decode cL_name 3 = .ok (.iadd, 1) := by decide +kernel
theorem dL_name_4 : decode cL_name 4 = .ok (.i2c, 1) := by decide +kernel
theorem dL_name_5 : decode cL_name 5 = .ok (.ireturn, 1) := by decide +kernel
theorem dL_load_0 : decode cL_load 0 = .ok (.iconst 1, 1) := by decide +kernel
theorem dL_load_1 : decode cL_load 1 = .ok (.aload_n 1, 1) := by decide +kernel
theorem dL_load_2 : decode cL_load 2 = .ok (.iconst 0, 1) := by decide +kernel
theorem dL_load_3 : decode cL_load 3 = .ok (.iconst 3, 1) := by decide +kernel
theorem dL_load_4 : decode cL_load 4 = .ok (.invokestatic 40, 3) := by decide +kernel
theorem dL_load_7 : decode cL_load 7 = .ok (.iadd, 1) := by decide +kernel
theorem dL_load_8 : decode cL_load 8 = .ok (.istore_n 2, 1) := by decide +kernel
theorem dL_load_9 : decode cL_load 9 = .ok (.new 44, 3) := by decide +kernel
theorem dL_load_12 : decode cL_load 12 = .ok (.dup, 1) := by decide +kernel
theorem dL_load_13 : decode cL_load 13 = .ok (.invokespecial 46, 3) := by decide +kernel
theorem dL_load_16 : decode cL_load 16 = .ok (.astore_n 3, 1) := by decide +kernel
theorem dL_load_17 : decode cL_load 17 = .ok (.aload_n 1, 1) := by decide +kernel
theorem dL_load_18 : decode cL_load 18 = .ok (.iconst 2, 1) := by decide +kernel
theorem dL_load_19 : decode cL_load 19 = .ok (.iconst 2, 1) := by decide +kernel
theorem dL_load_20 : decode cL_load 20 = .ok (.invokestatic 40, 3) := by decide +kernel
theorem dL_load_23 : decode cL_load 23 = .ok (.ifCond .ne 14, 3) := by decide +kernel
theorem dL_load_26 : decode cL_load 26 = .ok (.aload_n 1, 1) := by decide +kernel
theorem dL_load_27 : decode cL_load 27 = .ok (.iconst 3, 1) := by decide +kernel
theorem dL_load_28 : decode cL_load 28 = .ok (.sipush 200, 3) := by decide +kernel
theorem dL_load_31 : decode cL_load 31 = .ok (.invokestatic 40, 3) := by decide +kernel
theorem dL_load_34 : decode cL_load 34 = .ok (.goto 11, 3) := by decide +kernel
theorem dL_load_37 : decode cL_load 37 = .ok (.aload_n 1, 1) := by decide +kernel
theorem dL_load_38 : decode cL_load 38 = .ok (.iconst 3, 1) := by decide +kernel
theorem dL_load_39 : decode cL_load 39 = .ok (.bipush 100, 2) := by decide +kernel
theorem dL_load_41 : decode cL_load 41 = .ok (.invokestatic 40, 3) := by decide +kernel
theorem dL_load_44 : decode cL_load 44 = .ok (.ineg, 1) := by decide +kernel
theorem dL_load_45 : decode cL_load 45 = .ok (.istore 4, 2) := by decide +kernel
theorem dL_load_47 : decode cL_load 47 = .ok (.aload_n 1, 1) := by decide +kernel
theorem dL_load_48 : decode cL_load 48 = .ok (.iconst 1, 1) := by decide +kernel
theorem dL_load_49 : decode cL_load 49 = .ok (.iconst 3, 1) := by decide +kernel
theorem dL_load_50 : decode cL_load 50 = .ok (.invokestatic 40, 3) := by decide +kernel
theorem dL_load_53 : decode cL_load 53 = .ok (.ifCond .le 20, 3) := by decide +kernel
theorem dL_load_56 : decode cL_load 56 = .ok (.aload_n 3, 1) := by decide +kernel
theorem dL_load_57 : decode cL_load 57 = .ok (.ldc 47, 2) := by decide +kernel
theorem dL_load_59 : decode cL_load 59 = .ok (.invokevirtual 49, 3) := by decide +kernel
theorem dL_load_62 : decode cL_load 62 = .ok (.iload 4, 2) := by decide +kernel
theorem dL_load_64 : decode cL_load 64 = .ok (.invokevirtual 52, 3) := by decide +kernel
theorem dL_load_67 : decode cL_load 67 = .ok (.ldc 55, 2) := by decide +kernel
theorem dL_load_69 : decode cL_load 69 = .ok (.invokevirtual 49, 3) := by decide +kernel
theorem dL_load_72 : decode cL_load 72 = .ok (.pop, 1) := by decide +kernel
theorem dL_load_73 : decode cL_load 73 = .ok (.aload_n 1, 1) := by decide +kernel
theorem dL_load_74 : decode cL_load 74 = .ok (.iconst 4, 1) := by decide +kernel
theorem dL_load_75 : decode cL_load 75 = .ok (.iconst 2, 1) := by decide +kernel
theorem dL_load_76 : decode cL_load 76 = .ok (.invokestatic 40, 3) := by decide +kernel
theorem dL_load_79 : decode cL_load 79 = .ok (.ifCond .ne 44, 3) := by decide +kernel
theorem dL_load_82 : decode cL_load 82 = .ok (.aload_n 3, 1) := by decide +kernel
theorem dL_load_83 : decode cL_load 83 = .ok (.ldc 57, 2) := by decide +kernel
theorem dL_load_85 : decode cL_load 85 = .ok (.invokevirtual 49, 3) := by decide +kernel
theorem dL_load_88 : decode cL_load 88 = .ok (.iconst 1, 1) := by decide +kernel
theorem dL_load_89 : decode cL_load 89 = .ok (.aload_n 1, 1) := by decide +kernel
theorem dL_load_90 : decode cL_load 90 = .ok (.iconst 5, 1) := by decide +kernel
theorem dL_load_91 : decode cL_load 91 = .ok (.bipush 12, 2) := by decide +kernel
theorem dL_load_93 : decode cL_load 93 = .ok (.invokestatic 40, 3) := by decide +kernel
theorem dL_load_96 : decode cL_load 96 = .ok (.iadd, 1) := by decide +kernel
theorem dL_load_97 : decode cL_load 97 = .ok (.invokevirtual 52, 3) := by decide +kernel
theorem dL_load_100 : decode cL_load 100 = .ok (.ldc 59, 2) := by decide +kernel
theorem dL_load_102 : decode cL_load 102 = .ok (.invokevirtual 49, 3) := by decide +kernel
theorem dL_load_105 : decode cL_load 105 = .ok (.iconst 1, 1) := by decide +kernel
theorem dL_load_106 : decode cL_load 106 = .ok (.aload_n 1, 1) := by decide +kernel
theorem dL_load_107 : decode cL_load 107 = .ok (.bipush 6, 2) := by decide +kernel
theorem dL_load_109 : decode cL_load 109 = .ok (.iconst 5, 1) := by decide +kernel
theorem dL_load_110 : decode cL_load 110 = .ok (.invokestatic 40, 3) := by decide +kernel
theorem dL_load_113 : decode cL_load 113 = .ok (.iadd, 1) := by decide +kernel
theorem dL_load_114 : decode cL_load 114 = .ok (.invokevirtual 52, 3) := by decide +kernel
theorem dL_load_117 : decode cL_load 117 = .ok (.ldc 55, 2) := by decide +kernel
theorem dL_load_119 : decode cL_load 119 = .ok (.invokevirtual 49, 3) := by decide +kernel
theorem dL_load_122 : decode cL_load 122 = .ok (.pop, 1) := by decide +kernel
theorem dL_load_123 : decode cL_load 123 = .ok (.aload_n 1, 1) := by decide +kernel
theorem dL_load_124 : decode cL_load 124 = .ok (.bipush 7, 2) := by decide +kernel
theorem dL_load_126 : decode cL_load 126 = .ok (.iconst 2, 1) := by decide +kernel
theorem dL_load_127 : decode cL_load 127 = .ok (.invokestatic 40, 3) := by decide +kernel
theorem dL_load_130 : decode cL_load 130 = .ok (.ifCond .ne 26, 3) := by decide +kernel
theorem dL_load_133 : decode cL_load 133 = .ok (.aload_n 3, 1) := by decide +kernel
theorem dL_load_134 : decode cL_load 134 = .ok (.ldc 61, 2) := by decide +kernel
theorem dL_load_136 : decode cL_load 136 = .ok (.invokevirtual 49, 3) := by decide +kernel
theorem dL_load_139 : decode cL_load 139 = .ok (.aload_n 1, 1) := by decide +kernel
theorem dL_load_140 : decode cL_load 140 = .ok (.bipush 8, 2) := by decide +kernel
theorem dL_load_142 : decode cL_load 142 = .ok (.bipush 80, 2) := by decide +kernel
theorem dL_load_144 : decode cL_load 144 = .ok (.invokestatic 40, 3) := by decide +kernel
theorem dL_load_147 : decode cL_load 147 = .ok (.invokevirtual 52, 3) := by decide +kernel
theorem dL_load_150 : decode cL_load 150 = .ok (.ldc 55, 2) := by decide +kernel
theorem dL_load_152 : decode cL_load 152 = .ok (.invokevirtual 49, 3) := by decide +kernel
theorem dL_load_155 : decode cL_load 155 = .ok (.pop, 1) := by decide +kernel
theorem dL_load_156 : decode cL_load 156 = .ok (.aload_n 1, 1) := by decide +kernel
theorem dL_load_157 : decode cL_load 157 = .ok (.bipush 9, 2) := by decide +kernel
theorem dL_load_159 : decode cL_load 159 = .ok (.iconst 2, 1) := by decide +kernel
theorem dL_load_160 : decode cL_load 160 = .ok (.invokestatic 40, 3) := by decide +kernel
theorem dL_load_163 : decode cL_load 163 = .ok (.ifCond .ne 62, 3) := by decide +kernel
theorem dL_load_166 : decode cL_load 166 = .ok (.aload_n 3, 1) := by decide +kernel
theorem dL_load_167 : decode cL_load 167 = .ok (.ldc 63, 2) := by decide +kernel
theorem dL_load_169 : decode cL_load 169 = .ok (.invokevirtual 49, 3) := by decide +kernel
theorem dL_load_172 : decode cL_load 172 = .ok (.aload_n 1, 1) := by decide +kernel
theorem dL_load_173 : decode cL_load 173 = .ok (.bipush 10, 2) := by decide +kernel
theorem dL_load_175 : decode cL_load 175 = .ok (.bipush 8, 2) := by decide +kernel
theorem dL_load_177 : decode cL_load 177 = .ok (.invokestatic 40, 3) := by decide +kernel
theorem dL_load_180 : decode cL_load 180 = .ok (.invokevirtual 52, 3) := by decide +kernel
theorem dL_load_183 : decode cL_load 183 = .ok (.ldc 65, 2) := by decide +kernel
theorem dL_load_185 : decode cL_load 185 = .ok (.invokevirtual 49, 3) := by decide +kernel
theorem dL_load_188 : decode cL_load 188 = .ok (.iconst 1, 1) := by decide +kernel
theorem dL_load_189 : decode cL_load 189 = .ok (.aload_n 1, 1) := by decide +kernel
theorem dL_load_190 : decode cL_load 190 = .ok (.bipush 11, 2) := by decide +kernel
theorem dL_load_192 : decode cL_load 192 = .ok (.bipush 12, 2) := by decide +kernel
theorem dL_load_194 : decode cL_load 194 = .ok (.invokestatic 40, 3) := by decide +kernel
theorem dL_load_197 : decode cL_load 197 = .ok (.iadd, 1) := by decide +kernel
theorem dL_load_198 : decode cL_load 198 = .ok (.invokevirtual 52, 3) := by decide +kernel
theorem dL_load_201 : decode cL_load 201 = .ok (.ldc 65, 2) := by decide +kernel
theorem dL_load_203 : decode cL_load 203 = .ok (.invokevirtual 49, 3) := by decide +kernel
theorem dL_load_206 : decode cL_load 206 = .ok (.iconst 1, 1) := by decide +kernel
theorem dL_load_207 : decode cL_load 207 = .ok (.aload_n 1, 1) := by decide +kernel
theorem dL_load_208 : decode cL_load 208 = .ok (.bipush 12, 2) := by decide +kernel
theorem dL_load_210 : decode cL_load 210 = .ok (.bipush 60, 2) := by decide +kernel
theorem dL_load_212 : decode cL_load 212 = .ok (.invokestatic 40, 3) := by decide +kernel
theorem dL_load_215 : decode cL_load 215 = .ok (.iadd, 1) := by decide +kernel
theorem dL_load_216 : decode cL_load 216 = .ok (.invokevirtual 52, 3) := by decide +kernel
theorem dL_load_219 : decode cL_load 219 = .ok (.ldc 55, 2) := by decide +kernel
theorem dL_load_221 : decode cL_load 221 = .ok (.invokevirtual 49, 3) := by decide +kernel
theorem dL_load_224 : decode cL_load 224 = .ok (.pop, 1) := by decide +kernel
theorem dL_load_225 : decode cL_load 225 = .ok (.aload_n 1, 1) := by decide +kernel
theorem dL_load_226 : decode cL_load 226 = .ok (.bipush 14, 2) := by decide +kernel
theorem dL_load_228 : decode cL_load 228 = .ok (.bipush 60, 2) := by decide +kernel
theorem dL_load_230 : decode cL_load 230 = .ok (.invokestatic 40, 3) := by decide +kernel
theorem dL_load_233 : decode cL_load 233 = .ok (.istore 5, 2) := by decide +kernel
theorem dL_load_235 : decode cL_load 235 = .ok (.aload_n 1, 1) := by decide +kernel
theorem dL_load_236 : decode cL_load 236 = .ok (.bipush 13, 2) := by decide +kernel
theorem dL_load_238 : decode cL_load 238 = .ok (.iconst 2, 1) := by decide +kernel
theorem dL_load_239 : decode cL_load 239 = .ok (.invokestatic 40, 3) := by decide +kernel
theorem dL_load_242 : decode cL_load 242 = .ok (.ifCond .ne 20, 3) := by decide +kernel
theorem dL_load_245 : decode cL_load 245 = .ok (.aload_n 3, 1) := by decide +kernel
theorem dL_load_246 : decode cL_load 246 = .ok (.ldc 67, 2) := by decide +kernel
theorem dL_load_248 : decode cL_load 248 = .ok (.invokevirtual 49, 3) := by decide +kernel
theorem dL_load_251 : decode cL_load 251 = .ok (.iload 5, 2) := by decide +kernel
theorem dL_load_253 : decode cL_load 253 = .ok (.invokevirtual 52, 3) := by decide +kernel
theorem dL_load_256 : decode cL_load 256 = .ok (.ldc 55, 2) := by decide +kernel
theorem dL_load_258 : decode cL_load 258 = .ok (.invokevirtual 49, 3) := by decide +kernel
theorem dL_load_261 : decode cL_load 261 = .ok (.pop, 1) := by decide +kernel
theorem dL_load_262 : decode cL_load 262 = .ok (.iconst 0, 1) := by decide +kernel
theorem dL_load_263 : decode cL_load 263 = .ok (.istore 6, 2) := by decide +kernel
theorem dL_load_265 : decode cL_load 265 = .ok (.iload 6, 2) := by decide +kernel
theorem dL_load_267 : decode cL_load 267 = .ok (.iload_n 2, 1) := by decide +kernel
theorem dL_load_268 : decode cL_load 268 = .ok (.if_icmp .ge 193, 3) := by decide +kernel
theorem dL_load_271 : decode cL_load 271 = .ok (.aload_n 3, 1) := by decide +kernel
theorem dL_load_272 : decode cL_load 272 = .ok (.ldc 69, 2) := by decide +kernel
theorem dL_load_274 : decode cL_load 274 = .ok (.invokevirtual 49, 3) := by decide +kernel
theorem dL_load_277 : decode cL_load 277 = .ok (.iload 6, 2) := by decide +kernel
theorem dL_load_279 : decode cL_load 279 = .ok (.invokestatic 71, 3) := by decide +kernel
theorem dL_load_282 : decode cL_load 282 = .ok (.invokevirtual 74, 3) := by decide +kernel
theorem dL_load_285 : decode cL_load 285 = .ok (.ldc 77, 2) := by decide +kernel
theorem dL_load_287 : decode cL_load 287 = .ok (.invokevirtual 49, 3) := by decide +kernel
theorem dL_load_290 : decode cL_load 290 = .ok (.bipush 100, 2) := by decide +kernel
theorem dL_load_292 : decode cL_load 292 = .ok (.aload_n 1, 1) := by decide +kernel
theorem dL_load_293 : decode cL_load 293 = .ok (.bipush 15, 2) := by decide +kernel
theorem dL_load_295 : decode cL_load 295 = .ok (.iload 6, 2) := by decide +kernel
theorem dL_load_297 : decode cL_load 297 = .ok (.iadd, 1) := by decide +kernel
theorem dL_load_298 : decode cL_load 298 = .ok (.sipush 150, 3) := by decide +kernel
theorem dL_load_301 : decode cL_load 301 = .ok (.invokestatic 40, 3) := by decide +kernel
theorem dL_load_304 : decode cL_load 304 = .ok (.iadd, 1) := by decide +kernel
theorem dL_load_305 : decode cL_load 305 = .ok (.invokevirtual 52, 3) := by decide +kernel
theorem dL_load_308 : decode cL_load 308 = .ok (.pop, 1) := by decide +kernel
theorem dL_load_309 : decode cL_load 309 = .ok (.aload_n 1, 1) := by decide +kernel
theorem dL_load_310 : decode cL_load 310 = .ok (.bipush 18, 2) := by decide +kernel
theorem dL_load_312 : decode cL_load 312 = .ok (.iload 6, 2) := by decide +kernel
theorem dL_load_314 : decode cL_load 314 = .ok (.iadd, 1) := by decide +kernel
theorem dL_load_315 : decode cL_load 315 = .ok (.iconst 2, 1) := by decide +kernel
theorem dL_load_316 : decode cL_load 316 = .ok (.invokestatic 40, 3) := by decide +kernel
theorem dL_load_319 : decode cL_load 319 = .ok (.ifCond .ne 26, 3) := by decide +kernel
theorem dL_load_322 : decode cL_load 322 = .ok (.aload_n 3, 1) := by decide +kernel
theorem dL_load_323 : decode cL_load 323 = .ok (.ldc 79, 2) := by decide +kernel
theorem dL_load_325 : decode cL_load 325 = .ok (.invokevirtual 49, 3) := by decide +kernel
theorem dL_load_328 : decode cL_load 328 = .ok (.iconst 1, 1) := by decide +kernel
theorem dL_load_329 : decode cL_load 329 = .ok (.aload_n 1, 1) := by decide +kernel
theorem dL_load_330 : decode cL_load 330 = .ok (.bipush 21, 2) := by decide +kernel
theorem dL_load_332 : decode cL_load 332 = .ok (.iload 6, 2) := by decide +kernel
theorem dL_load_334 : decode cL_load 334 = .ok (.iadd, 1) := by decide +kernel
theorem dL_load_335 : decode cL_load 335 = .ok (.bipush 30, 2) := by decide +kernel
theorem dL_load_337 : decode cL_load 337 = .ok (.invokestatic 40, 3) := by decide +kernel
theorem dL_load_340 : decode cL_load 340 = .ok (.iadd, 1) := by decide +kernel
theorem dL_load_341 : decode cL_load 341 = .ok (.invokevirtual 52, 3) := by decide +kernel
theorem dL_load_344 : decode cL_load 344 = .ok (.pop, 1) := by decide +kernel
theorem dL_load_345 : decode cL_load 345 = .ok (.aload_n 1, 1) := by decide +kernel
theorem dL_load_346 : decode cL_load 346 = .ok (.bipush 24, 2) := by decide +kernel
theorem dL_load_348 : decode cL_load 348 = .ok (.iload 6, 2) := by decide +kernel
theorem dL_load_350 : decode cL_load 350 = .ok (.iadd, 1) := by decide +kernel
theorem dL_load_351 : decode cL_load 351 = .ok (.iconst 2, 1) := by decide +kernel
theorem dL_load_352 : decode cL_load 352 = .ok (.invokestatic 40, 3) := by decide +kernel
theorem dL_load_355 : decode cL_load 355 = .ok (.ifCond .ne 24, 3) := by decide +kernel
theorem dL_load_358 : decode cL_load 358 = .ok (.aload_n 3, 1) := by decide +kernel
theorem dL_load_359 : decode cL_load 359 = .ok (.ldc 81, 2) := by decide +kernel
theorem dL_load_361 : decode cL_load 361 = .ok (.invokevirtual 49, 3) := by decide +kernel
theorem dL_load_364 : decode cL_load 364 = .ok (.aload_n 1, 1) := by decide +kernel
theorem dL_load_365 : decode cL_load 365 = .ok (.bipush 27, 2) := by decide +kernel
theorem dL_load_367 : decode cL_load 367 = .ok (.iload 6, 2) := by decide +kernel
theorem dL_load_369 : decode cL_load 369 = .ok (.iadd, 1) := by decide +kernel
theorem dL_load_370 : decode cL_load 370 = .ok (.bipush 20, 2) := by decide +kernel
theorem dL_load_372 : decode cL_load 372 = .ok (.invokestatic 40, 3) := by decide +kernel
theorem dL_load_375 : decode cL_load 375 = .ok (.invokevirtual 52, 3) := by decide +kernel
theorem dL_load_378 : decode cL_load 378 = .ok (.pop, 1) := by decide +kernel
theorem dL_load_379 : decode cL_load 379 = .ok (.aload_n 1, 1) := by decide +kernel
theorem dL_load_380 : decode cL_load 380 = .ok (.bipush 30, 2) := by decide +kernel
theorem dL_load_382 : decode cL_load 382 = .ok (.iload 6, 2) := by decide +kernel
theorem dL_load_384 : decode cL_load 384 = .ok (.iadd, 1) := by decide +kernel
theorem dL_load_385 : decode cL_load 385 = .ok (.iconst 2, 1) := by decide +kernel
theorem dL_load_386 : decode cL_load 386 = .ok (.invokestatic 40, 3) := by decide +kernel
theorem dL_load_389 : decode cL_load 389 = .ok (.ifCond .ne 24, 3) := by decide +kernel
theorem dL_load_392 : decode cL_load 392 = .ok (.aload_n 3, 1) := by decide +kernel
theorem dL_load_393 : decode cL_load 393 = .ok (.ldc 83, 2) := by decide +kernel
theorem dL_load_395 : decode cL_load 395 = .ok (.invokevirtual 49, 3) := by decide +kernel
theorem dL_load_398 : decode cL_load 398 = .ok (.aload_n 1, 1) := by decide +kernel
theorem dL_load_399 : decode cL_load 399 = .ok (.bipush 33, 2) := by decide +kernel
theorem dL_load_401 : decode cL_load 401 = .ok (.iload 6, 2) := by decide +kernel
theorem dL_load_403 : decode cL_load 403 = .ok (.iadd, 1) := by decide +kernel
theorem dL_load_404 : decode cL_load 404 = .ok (.bipush 101, 2) := by decide +kernel
theorem dL_load_406 : decode cL_load 406 = .ok (.invokestatic 40, 3) := by decide +kernel
theorem dL_load_409 : decode cL_load 409 = .ok (.invokevirtual 52, 3) := by decide +kernel
theorem dL_load_412 : decode cL_load 412 = .ok (.pop, 1) := by decide +kernel
theorem dL_load_413 : decode cL_load 413 = .ok (.aload_n 1, 1) := by decide +kernel
theorem dL_load_414 : decode cL_load 414 = .ok (.bipush 36, 2) := by decide +kernel
theorem dL_load_416 : decode cL_load 416 = .ok (.iload 6, 2) := by decide +kernel
theorem dL_load_418 : decode cL_load 418 = .ok (.iadd, 1) := by decide +kernel
theorem dL_load_419 : decode cL_load 419 = .ok (.iconst 2, 1) := by decide +kernel
theorem dL_load_420 : decode cL_load 420 = .ok (.invokestatic 40, 3) := by decide +kernel
theorem dL_load_423 : decode cL_load 423 = .ok (.ifCond .ne 25, 3) := by decide +kernel
theorem dL_load_426 : decode cL_load 426 = .ok (.aload_n 3, 1) := by decide +kernel
theorem dL_load_427 : decode cL_load 427 = .ok (.ldc 85, 2) := by decide +kernel
theorem dL_load_429 : decode cL_load 429 = .ok (.invokevirtual 49, 3) := by decide +kernel
theorem dL_load_432 : decode cL_load 432 = .ok (.aload_n 1, 1) := by decide +kernel
theorem dL_load_433 : decode cL_load 433 = .ok (.bipush 39, 2) := by decide +kernel
theorem dL_load_435 : decode cL_load 435 = .ok (.iload 6, 2) := by decide +kernel
theorem dL_load_437 : decode cL_load 437 = .ok (.iadd, 1) := by decide +kernel
theorem dL_load_438 : decode cL_load 438 = .ok (.sipush 300, 3) := by decide +kernel
theorem dL_load_441 : decode cL_load 441 = .ok (.invokestatic 40, 3) := by decide +kernel
theorem dL_load_444 : decode cL_load 444 = .ok (.invokevirtual 52, 3) := by decide +kernel
theorem dL_load_447 : decode cL_load 447 = .ok (.pop, 1) := by decide +kernel
theorem dL_load_448 : decode cL_load 448 = .ok (.aload_n 3, 1) := by decide +kernel
theorem dL_load_449 : decode cL_load 449 = .ok (.ldc 55, 2) := by decide +kernel
theorem dL_load_451 : decode cL_load 451 = .ok (.invokevirtual 49, 3) := by decide +kernel
theorem dL_load_454 : decode cL_load 454 = .ok (.pop, 1) := by decide +kernel
theorem dL_load_455 : decode cL_load 455 = .ok (.iinc 6 1, 3) := by decide +kernel
theorem dL_load_458 : decode cL_load 458 = .ok (.goto (-193), 3) := by decide +kernel
theorem dL_load_461 : decode cL_load 461 = .ok (.aload_n 1, 1) := by decide +kernel
theorem dL_load_462 : decode cL_load 462 = .ok (.bipush 42, 2) := by decide +kernel
theorem dL_load_464 : decode cL_load 464 = .ok (.iconst 2, 1) := by decide +kernel
theorem dL_load_465 : decode cL_load 465 = .ok (.invokestatic 40, 3) := by decide +kernel
theorem dL_load_468 : decode cL_load 468 = .ok (.ifCond .ne 85, 3) := by decide +kernel
theorem dL_load_471 : decode cL_load 471 = .ok (.aload_n 3, 1) := by decide +kernel
theorem dL_load_472 : decode cL_load 472 = .ok (.ldc 87, 2) := by decide +kernel
theorem dL_load_474 : decode cL_load 474 = .ok (.invokevirtual 49, 3) := by decide +kernel
theorem dL_load_477 : decode cL_load 477 = .ok (.aload_n 1, 1) := by decide +kernel
theorem dL_load_478 : decode cL_load 478 = .ok (.bipush 43, 2) := by decide +kernel
theorem dL_load_480 : decode cL_load 480 = .ok (.bipush 20, 2) := by decide +kernel
theorem dL_load_482 : decode cL_load 482 = .ok (.invokestatic 40, 3) := by decide +kernel
theorem dL_load_485 : decode cL_load 485 = .ok (.invokevirtual 52, 3) := by decide +kernel
theorem dL_load_488 : decode cL_load 488 = .ok (.ldc 89, 2) := by decide +kernel
theorem dL_load_490 : decode cL_load 490 = .ok (.invokevirtual 49, 3) := by decide +kernel
theorem dL_load_493 : decode cL_load 493 = .ok (.bipush 50, 2) := by decide +kernel
theorem dL_load_495 : decode cL_load 495 = .ok (.aload_n 1, 1) := by decide +kernel
theorem dL_load_496 : decode cL_load 496 = .ok (.bipush 44, 2) := by decide +kernel
theorem dL_load_498 : decode cL_load 498 = .ok (.sipush 200, 3) := by decide +kernel
theorem dL_load_501 : decode cL_load 501 = .ok (.invokestatic 40, 3) := by decide +kernel
theorem dL_load_504 : decode cL_load 504 = .ok (.iadd, 1) := by decide +kernel
theorem dL_load_505 : decode cL_load 505 = .ok (.invokevirtual 52, 3) := by decide +kernel
theorem dL_load_508 : decode cL_load 508 = .ok (.ldc 91, 2) := by decide +kernel
theorem dL_load_510 : decode cL_load 510 = .ok (.invokevirtual 49, 3) := by decide +kernel
theorem dL_load_513 : decode cL_load 513 = .ok (.bipush 20, 2) := by decide +kernel
theorem dL_load_515 : decode cL_load 515 = .ok (.aload_n 1, 1) := by decide +kernel
theorem dL_load_516 : decode cL_load 516 = .ok (.bipush 45, 2) := by decide +kernel
theorem dL_load_518 : decode cL_load 518 = .ok (.bipush 28, 2) := by decide +kernel
theorem dL_load_520 : decode cL_load 520 = .ok (.invokestatic 40, 3) := by decide +kernel
theorem dL_load_523 : decode cL_load 523 = .ok (.iadd, 1) := by decide +kernel
theorem dL_load_524 : decode cL_load 524 = .ok (.invokevirtual 52, 3) := by decide +kernel
theorem dL_load_527 : decode cL_load 527 = .ok (.ldc 89, 2) := by decide +kernel
theorem dL_load_529 : decode cL_load 529 = .ok (.invokevirtual 49, 3) := by decide +kernel
theorem dL_load_532 : decode cL_load 532 = .ok (.bipush 100, 2) := by decide +kernel
theorem dL_load_534 : decode cL_load 534 = .ok (.aload_n 1, 1) := by decide +kernel
theorem dL_load_535 : decode cL_load 535 = .ok (.bipush 46, 2) := by decide +kernel
theorem dL_load_537 : decode cL_load 537 = .ok (.sipush 150, 3) := by decide +kernel
theorem dL_load_540 : decode cL_load 540 = .ok (.invokestatic 40, 3) := by decide +kernel
theorem dL_load_543 : decode cL_load 543 = .ok (.iadd, 1) := by decide +kernel
theorem dL_load_544 : decode cL_load 544 = .ok (.invokevirtual 52, 3) := by decide +kernel
theorem dL_load_547 : decode cL_load 547 = .ok (.ldc 55, 2) := by decide +kernel
theorem dL_load_549 : decode cL_load 549 = .ok (.invokevirtual 49, 3) := by decide +kernel
theorem dL_load_552 : decode cL_load 552 = .ok (.pop, 1) := by decide +kernel
theorem dL_load_553 : decode cL_load 553 = .ok (.aload_n 1, 1) := by decide +kernel
theorem dL_load_554 : decode cL_load 554 = .ok (.bipush 47, 2) := by decide +kernel
theorem dL_load_556 : decode cL_load 556 = .ok (.iconst 3, 1) := by decide +kernel
theorem dL_load_557 : decode cL_load 557 = .ok (.invokestatic 40, 3) := by decide +kernel
theorem dL_load_560 : decode cL_load 560 = .ok (.istore 6, 2) := by decide +kernel
theorem dL_load_562 : decode cL_load 562 = .ok (.iconst 0, 1) := by decide +kernel
theorem dL_load_563 : decode cL_load 563 = .ok (.istore 7, 2) := by decide +kernel
theorem dL_load_565 : decode cL_load 565 = .ok (.iload 7, 2) := by decide +kernel
theorem dL_load_567 : decode cL_load 567 = .ok (.iload 6, 2) := by decide +kernel
theorem dL_load_569 : decode cL_load 569 = .ok (.if_icmp .ge 76, 3) := by decide +kernel
theorem dL_load_572 : decode cL_load 572 = .ok (.aload_n 3, 1) := by decide +kernel
theorem dL_load_573 : decode cL_load 573 = .ok (.ldc 93, 2) := by decide +kernel
theorem dL_load_575 : decode cL_load 575 = .ok (.invokevirtual 49, 3) := by decide +kernel
theorem dL_load_578 : decode cL_load 578 = .ok (.iconst 1, 1) := by decide +kernel
theorem dL_load_579 : decode cL_load 579 = .ok (.aload_n 1, 1) := by decide +kernel
theorem dL_load_580 : decode cL_load 580 = .ok (.bipush 48, 2) := by decide +kernel
theorem dL_load_582 : decode cL_load 582 = .ok (.iload 7, 2) := by decide +kernel
theorem dL_load_584 : decode cL_load 584 = .ok (.iadd, 1) := by decide +kernel
theorem dL_load_585 : decode cL_load 585 = .ok (.bipush 30, 2) := by decide +kernel
theorem dL_load_587 : decode cL_load 587 = .ok (.invokestatic 40, 3) := by decide +kernel
theorem dL_load_590 : decode cL_load 590 = .ok (.iadd, 1) := by decide +kernel
theorem dL_load_591 : decode cL_load 591 = .ok (.invokevirtual 52, 3) := by decide +kernel
theorem dL_load_594 : decode cL_load 594 = .ok (.ldc 95, 2) := by decide +kernel
theorem dL_load_596 : decode cL_load 596 = .ok (.invokevirtual 49, 3) := by decide +kernel
theorem dL_load_599 : decode cL_load 599 = .ok (.aload_n 1, 1) := by decide +kernel
theorem dL_load_600 : decode cL_load 600 = .ok (.bipush 50, 2) := by decide +kernel
theorem dL_load_602 : decode cL_load 602 = .ok (.iload 7, 2) := by decide +kernel
theorem dL_load_604 : decode cL_load 604 = .ok (.iadd, 1) := by decide +kernel
theorem dL_load_605 : decode cL_load 605 = .ok (.iload_n 2, 1) := by decide +kernel
theorem dL_load_606 : decode cL_load 606 = .ok (.invokestatic 40, 3) := by decide +kernel
theorem dL_load_609 : decode cL_load 609 = .ok (.invokestatic 71, 3) := by decide +kernel
theorem dL_load_612 : decode cL_load 612 = .ok (.invokevirtual 74, 3) := by decide +kernel
theorem dL_load_615 : decode cL_load 615 = .ok (.aload_n 1, 1) := by decide +kernel
theorem dL_load_616 : decode cL_load 616 = .ok (.bipush 52, 2) := by decide +kernel
theorem dL_load_618 : decode cL_load 618 = .ok (.iload 7, 2) := by decide +kernel
theorem dL_load_620 : decode cL_load 620 = .ok (.iadd, 1) := by decide +kernel
theorem dL_load_621 : decode cL_load 621 = .ok (.iconst 2, 1) := by decide +kernel
theorem dL_load_622 : decode cL_load 622 = .ok (.invokestatic 40, 3) := by decide +kernel
theorem dL_load_625 : decode cL_load 625 = .ok (.ifCond .ne 8, 3) := by decide +kernel
theorem dL_load_628 : decode cL_load 628 = .ok (.ldc 97, 2) := by decide +kernel
theorem dL_load_630 : decode cL_load 630 = .ok (.goto 5, 3) := by decide +kernel
theorem dL_load_633 : decode cL_load 633 = .ok (.ldc 99, 2) := by decide +kernel
theorem dL_load_635 : decode cL_load 635 = .ok (.invokevirtual 49, 3) := by decide +kernel
theorem dL_load_638 : decode cL_load 638 = .ok (.pop, 1) := by decide +kernel
theorem dL_load_639 : decode cL_load 639 = .ok (.iinc 7 1, 3) := by decide +kernel
theorem dL_load_642 : decode cL_load 642 = .ok (.goto (-77), 3) := by decide +kernel
theorem dL_load_645 : decode cL_load 645 = .ok (.aload_n 0, 1) := by decide +kernel
theorem dL_load_646 : decode cL_load 646 = .ok (.aload_n 3, 1) := by decide +kernel
theorem dL_load_647 : decode cL_load 647 = .ok (.invokevirtual 101, 3) := by decide +kernel
theorem dL_load_650 : decode cL_load 650 = .ok (.invokestatic 105, 3) := by decide +kernel
theorem dL_load_653 : decode cL_load 653 = .ok (.aload_n 0, 1) := by decide +kernel
theorem dL_load_654 : decode cL_load 654 = .ok (.invokevirtual 109, 3) := by decide +kernel
theorem dL_load_657 : decode cL_load 657 = .ok (.iload_n 2, 1) := by decide +kernel
theorem dL_load_658 : decode cL_load 658 = .ok (.if_icmp .ne 91, 3) := by decide +kernel
theorem dL_load_661 : decode cL_load 661 = .ok (.aload_n 0, 1) := by decide +kernel
theorem dL_load_662 : decode cL_load 662 = .ok (.invokevirtual 112, 3) := by decide +kernel
theorem dL_load_665 : decode cL_load 665 = .ok (.ifCond .ne 84, 3) := by decide +kernel
theorem dL_load_668 : decode cL_load 668 = .ok (.aload_n 0, 1) := by decide +kernel
theorem dL_load_669 : decode cL_load 669 = .ok (.iconst 0, 1) := by decide +kernel
theorem dL_load_670 : decode cL_load 670 = .ok (.invokevirtual 115, 3) := by decide +kernel
theorem dL_load_673 : decode cL_load 673 = .ok (.iload_n 2, 1) := by decide +kernel
theorem dL_load_674 : decode cL_load 674 = .ok (.if_icmp .ne 75, 3) := by decide +kernel
theorem dL_load_677 : decode cL_load 677 = .ok (.aload_n 0, 1) := by decide +kernel
theorem dL_load_678 : decode cL_load 678 = .ok (.iconst 1, 1) := by decide +kernel
theorem dL_load_679 : decode cL_load 679 = .ok (.invokevirtual 115, 3) := by decide +kernel
theorem dL_load_682 : decode cL_load 682 = .ok (.ifCond .ne 67, 3) := by decide +kernel
theorem dL_load_685 : decode cL_load 685 = .ok (.aload_n 0, 1) := by decide +kernel
theorem dL_load_686 : decode cL_load 686 = .ok (.iconst 3, 1) := by decide +kernel
theorem dL_load_687 : decode cL_load 687 = .ok (.invokevirtual 115, 3) := by decide +kernel
theorem dL_load_690 : decode cL_load 690 = .ok (.aload_n 1, 1) := by decide +kernel
theorem dL_load_691 : decode cL_load 691 = .ok (.iconst 1, 1) := by decide +kernel
theorem dL_load_692 : decode cL_load 692 = .ok (.iconst 3, 1) := by decide +kernel
theorem dL_load_693 : decode cL_load 693 = .ok (.invokestatic 40, 3) := by decide +kernel
theorem dL_load_696 : decode cL_load 696 = .ok (.ifCond .le 8, 3) := by decide +kernel
theorem dL_load_699 : decode cL_load 699 = .ok (.iload 4, 2) := by decide +kernel
theorem dL_load_701 : decode cL_load 701 = .ok (.goto 5, 3) := by decide +kernel
theorem dL_load_704 : decode cL_load 704 = .ok (.bipush 50, 2) := by decide +kernel
theorem dL_load_706 : decode cL_load 706 = .ok (.if_icmp .ne 43, 3) := by decide +kernel
theorem dL_load_709 : decode cL_load 709 = .ok (.aload_n 0, 1) := by decide +kernel
theorem dL_load_710 : decode cL_load 710 = .ok (.iconst 4, 1) := by decide +kernel
theorem dL_load_711 : decode cL_load 711 = .ok (.invokevirtual 115, 3) := by decide +kernel
theorem dL_load_714 : decode cL_load 714 = .ok (.iload 6, 2) := by decide +kernel
theorem dL_load_716 : decode cL_load 716 = .ok (.if_icmp .ne 33, 3) := by decide +kernel
theorem dL_load_719 : decode cL_load 719 = .ok (.aload_n 0, 1) := by decide +kernel
theorem dL_load_720 : decode cL_load 720 = .ok (.bipush 11, 2) := by decide +kernel
theorem dL_load_722 : decode cL_load 722 = .ok (.invokevirtual 115, 3) := by decide +kernel
theorem dL_load_725 : decode cL_load 725 = .ok (.aload_n 1, 1) := by decide +kernel
theorem dL_load_726 : decode cL_load 726 = .ok (.bipush 13, 2) := by decide +kernel
theorem dL_load_728 : decode cL_load 728 = .ok (.iconst 2, 1) := by decide +kernel
theorem dL_load_729 : decode cL_load 729 = .ok (.invokestatic 40, 3) := by decide +kernel
theorem dL_load_732 : decode cL_load 732 = .ok (.ifCond .ne 8, 3) := by decide +kernel
theorem dL_load_735 : decode cL_load 735 = .ok (.iload 5, 2) := by decide +kernel
theorem dL_load_737 : decode cL_load 737 = .ok (.goto 5, 3) := by decide +kernel
theorem dL_load_740 : decode cL_load 740 = .ok (.bipush 100, 2) := by decide +kernel
theorem dL_load_742 : decode cL_load 742 = .ok (.if_icmp .ne 7, 3) := by decide +kernel
theorem dL_load_745 : decode cL_load 745 = .ok (.iconst 1, 1) := by decide +kernel
theorem dL_load_746 : decode cL_load 746 = .ok (.goto 4, 3) := by decide +kernel
theorem dL_load_749 : decode cL_load 749 = .ok (.iconst 0, 1) := by decide +kernel
theorem dL_load_750 : decode cL_load 750 = .ok (.ireturn, 1) := by decide +kernel
theorem dL_cleared_0 : decode cL_cleared 0 = .ok (.aload_n 0, 1) := by decide +kernel
theorem dL_cleared_1 : decode cL_cleared 1 = .ok (.iload_n 1, 1) := by decide +kernel
theorem dL_cleared_2 : decode cL_cleared 2 = .ok (.iload_n 2, 1) := by decide +kernel
theorem dL_cleared_3 : decode cL_cleared 3 = .ok (.invokevirtual 119, 3) := by decide +kernel
theorem dL_cleared_6 : decode cL_cleared 6 = .ok (.ireturn, 1) := by decide +kernel
theorem dL_cleared_7 : decode cL_cleared 7 = .ok (.astore_n 3, 1) := by decide +kernel
theorem dL_cleared_8 : decode cL_cleared 8 = .ok (.sipush (-999), 3) := by decide +kernel
theorem dL_cleared_11 : decode cL_cleared 11 = .ok (.ireturn, 1) := by decide +kernel
theorem dL_planned_0 : decode cL_planned 0 = .ok (.aload_n 0, 1) := by decide +kernel
theorem dL_planned_1 : decode cL_planned 1 = .ok (.iload_n 1, 1) := by decide +kernel
theorem dL_planned_2 : decode cL_planned 2 = .ok (.iload_n 2, 1) := by decide +kernel
theorem dL_planned_3 : decode cL_planned 3 = .ok (.iload_n 3, 1) := by decide +kernel
theorem dL_planned_4 : decode cL_planned 4 = .ok (.invokevirtual 124, 3) := by decide +kernel
theorem dL_planned_7 : decode cL_planned 7 = .ok (.ireturn, 1) := by decide +kernel
theorem dL_planned_8 : decode cL_planned 8 = .ok (.astore 4, 2) := by decide +kernel
theorem dL_planned_10 : decode cL_planned 10 = .ok (.sipush (-999), 3) := by decide +kernel
theorem dL_planned_13 : decode cL_planned 13 = .ok (.ireturn, 1) := by decide +kernel
theorem dL_act_0 : decode cL_act 0 = .ok (.aload_n 1, 1) := by decide +kernel
theorem dL_act_1 : decode cL_act 1 = .ok (.iload_n 2, 1) := by decide +kernel
theorem dL_act_2 : decode cL_act 2 = .ok (.iconst 1, 1) := by decide +kernel
theorem dL_act_3 : decode cL_act 3 = .ok (.iadd, 1) := by decide +kernel
theorem dL_act_4 : decode cL_act 4 = .ok (.ldc 130, 2) := by decide +kernel
theorem dL_act_6 : decode cL_act 6 = .ok (.invokestatic 40, 3) := by decide +kernel
theorem dL_act_9 : decode cL_act 9 = .ok (.istore_n 3, 1) := by decide +kernel
theorem dL_act_10 : decode cL_act 10 = .ok (.aload_n 1, 1) := by decide +kernel
theorem dL_act_11 : decode cL_act 11 = .ok (.iload_n 2, 1) := by decide +kernel
theorem dL_act_12 : decode cL_act 12 = .ok (.iconst 2, 1) := by decide +kernel
theorem dL_act_13 : decode cL_act 13 = .ok (.iadd, 1) := by decide +kernel
theorem dL_act_14 : decode cL_act 14 = .ok (.ldc 130, 2) := by decide +kernel
theorem dL_act_16 : decode cL_act 16 = .ok (.invokestatic 40, 3) := by decide +kernel
theorem dL_act_19 : decode cL_act 19 = .ok (.istore 4, 2) := by decide +kernel
theorem dL_act_21 : decode cL_act 21 = .ok (.iload_n 3, 1) := by decide +kernel
theorem dL_act_22 : decode cL_act 22 = .ok (.aload_n 0, 1) := by decide +kernel
theorem dL_act_23 : decode cL_act 23 = .ok (.iconst 0, 1) := by decide +kernel
theorem dL_act_24 : decode cL_act 24 = .ok (.invokevirtual 115, 3) := by decide +kernel
theorem dL_act_27 : decode cL_act 27 = .ok (.irem, 1) := by decide +kernel
theorem dL_act_28 : decode cL_act 28 = .ok (.istore 5, 2) := by decide +kernel
theorem dL_act_30 : decode cL_act 30 = .ok (.aload_n 1, 1) := by decide +kernel
theorem dL_act_31 : decode cL_act 31 = .ok (.iload_n 2, 1) := by decide +kernel
theorem dL_act_32 : decode cL_act 32 = .ok (.bipush 24, 2) := by decide +kernel
theorem dL_act_34 : decode cL_act 34 = .ok (.invokestatic 40, 3) := by decide +kernel
theorem dL_act_37 : decode cL_act 37 = .ok (.tableswitch 352 0 20 #[99, 99, 99, 99, 99, 109, 120, 120, 144, 156, 156, 181, 181, 208, 227, 227, 253, 280, 299, 325, 340], 99) := by decide +kernel
theorem dL_act_136 : decode cL_act 136 = .ok (.aload_n 0, 1) := by decide +kernel
theorem dL_act_137 : decode cL_act 137 = .ok (.iconst 1, 1) := by decide +kernel
theorem dL_act_138 : decode cL_act 138 = .ok (.iload_n 3, 1) := by decide +kernel
theorem dL_act_139 : decode cL_act 139 = .ok (.iconst 5, 1) := by decide +kernel
theorem dL_act_140 : decode cL_act 140 = .ok (.irem, 1) := by decide +kernel
theorem dL_act_141 : decode cL_act 141 = .ok (.iadd, 1) := by decide +kernel
theorem dL_act_142 : decode cL_act 142 = .ok (.invokevirtual 131, 3) := by decide +kernel
theorem dL_act_145 : decode cL_act 145 = .ok (.ireturn, 1) := by decide +kernel
theorem dL_act_146 : decode cL_act 146 = .ok (.aload_n 0, 1) := by decide +kernel
theorem dL_act_147 : decode cL_act 147 = .ok (.iconst 1, 1) := by decide +kernel
theorem dL_act_148 : decode cL_act 148 = .ok (.iload_n 3, 1) := by decide +kernel
theorem dL_act_149 : decode cL_act 149 = .ok (.bipush 60, 2) := by decide +kernel
theorem dL_act_151 : decode cL_act 151 = .ok (.irem, 1) := by decide +kernel
theorem dL_act_152 : decode cL_act 152 = .ok (.iadd, 1) := by decide +kernel
theorem dL_act_153 : decode cL_act 153 = .ok (.invokevirtual 131, 3) := by decide +kernel
theorem dL_act_156 : decode cL_act 156 = .ok (.ireturn, 1) := by decide +kernel
theorem dL_act_157 : decode cL_act 157 = .ok (.aload_n 0, 1) := by decide +kernel
theorem dL_act_158 : decode cL_act 158 = .ok (.iload 5, 2) := by decide +kernel
theorem dL_act_160 : decode cL_act 160 = .ok (.iload 4, 2) := by decide +kernel
theorem dL_act_162 : decode cL_act 162 = .ok (.bipush 48, 2) := by decide +kernel
theorem dL_act_164 : decode cL_act 164 = .ok (.irem, 1) := by decide +kernel
theorem dL_act_165 : decode cL_act 165 = .ok (.bipush 50, 2) := by decide +kernel
theorem dL_act_167 : decode cL_act 167 = .ok (.iload 4, 2) := by decide +kernel
theorem dL_act_169 : decode cL_act 169 = .ok (.bipush 48, 2) := by decide +kernel
theorem dL_act_171 : decode cL_act 171 = .ok (.idiv, 1) := by decide +kernel
theorem dL_act_172 : decode cL_act 172 = .ok (.sipush 251, 3) := by decide +kernel
theorem dL_act_175 : decode cL_act 175 = .ok (.irem, 1) := by decide +kernel
theorem dL_act_176 : decode cL_act 176 = .ok (.iadd, 1) := by decide +kernel
theorem dL_act_177 : decode cL_act 177 = .ok (.invokevirtual 134, 3) := by decide +kernel
theorem dL_act_180 : decode cL_act 180 = .ok (.ireturn, 1) := by decide +kernel
theorem dL_act_181 : decode cL_act 181 = .ok (.aload_n 0, 1) := by decide +kernel
theorem dL_act_182 : decode cL_act 182 = .ok (.iload 5, 2) := by decide +kernel
theorem dL_act_184 : decode cL_act 184 = .ok (.iload 4, 2) := by decide +kernel
theorem dL_act_186 : decode cL_act 186 = .ok (.bipush 48, 2) := by decide +kernel
theorem dL_act_188 : decode cL_act 188 = .ok (.irem, 1) := by decide +kernel
theorem dL_act_189 : decode cL_act 189 = .ok (.invokestatic 137, 3) := by decide +kernel
theorem dL_act_192 : decode cL_act 192 = .ok (.ireturn, 1) := by decide +kernel
theorem dL_act_193 : decode cL_act 193 = .ok (.aload_n 0, 1) := by decide +kernel
theorem dL_act_194 : decode cL_act 194 = .ok (.iload 5, 2) := by decide +kernel
theorem dL_act_196 : decode cL_act 196 = .ok (.bipush 50, 2) := by decide +kernel
theorem dL_act_198 : decode cL_act 198 = .ok (.iload 4, 2) := by decide +kernel
theorem dL_act_200 : decode cL_act 200 = .ok (.sipush 251, 3) := by decide +kernel
theorem dL_act_203 : decode cL_act 203 = .ok (.irem, 1) := by decide +kernel
theorem dL_act_204 : decode cL_act 204 = .ok (.iadd, 1) := by decide +kernel
theorem dL_act_205 : decode cL_act 205 = .ok (.iload 4, 2) := by decide +kernel
theorem dL_act_207 : decode cL_act 207 = .ok (.sipush 251, 3) := by decide +kernel
theorem dL_act_210 : decode cL_act 210 = .ok (.idiv, 1) := by decide +kernel
theorem dL_act_211 : decode cL_act 211 = .ok (.bipush 9, 2) := by decide +kernel
theorem dL_act_213 : decode cL_act 213 = .ok (.irem, 1) := by decide +kernel
theorem dL_act_214 : decode cL_act 214 = .ok (.invokevirtual 141, 3) := by decide +kernel
theorem dL_act_217 : decode cL_act 217 = .ok (.ireturn, 1) := by decide +kernel
theorem dL_act_218 : decode cL_act 218 = .ok (.aload_n 0, 1) := by decide +kernel
theorem dL_act_219 : decode cL_act 219 = .ok (.iload 5, 2) := by decide +kernel
theorem dL_act_221 : decode cL_act 221 = .ok (.iload 4, 2) := by decide +kernel
theorem dL_act_223 : decode cL_act 223 = .ok (.iconst 3, 1) := by decide +kernel
theorem dL_act_224 : decode cL_act 224 = .ok (.irem, 1) := by decide +kernel
theorem dL_act_225 : decode cL_act 225 = .ok (.ifCond .le 7, 3) := by decide +kernel
theorem dL_act_228 : decode cL_act 228 = .ok (.iconst 1, 1) := by decide +kernel
theorem dL_act_229 : decode cL_act 229 = .ok (.goto 4, 3) := by decide +kernel
theorem dL_act_232 : decode cL_act 232 = .ok (.iconst 0, 1) := by decide +kernel
theorem dL_act_233 : decode cL_act 233 = .ok (.invokevirtual 144, 3) := by decide +kernel
theorem dL_act_236 : decode cL_act 236 = .ok (.ifCond .eq 7, 3) := by decide +kernel
theorem dL_act_239 : decode cL_act 239 = .ok (.iconst 1, 1) := by decide +kernel
theorem dL_act_240 : decode cL_act 240 = .ok (.goto 4, 3) := by decide +kernel
theorem dL_act_243 : decode cL_act 243 = .ok (.iconst 0, 1) := by decide +kernel
theorem dL_act_244 : decode cL_act 244 = .ok (.ireturn, 1) := by decide +kernel
theorem dL_act_245 : decode cL_act 245 = .ok (.aload_n 0, 1) := by decide +kernel
theorem dL_act_246 : decode cL_act 246 = .ok (.iload 5, 2) := by decide +kernel
theorem dL_act_248 : decode cL_act 248 = .ok (.iload 4, 2) := by decide +kernel
theorem dL_act_250 : decode cL_act 250 = .ok (.iconst 2, 1) := by decide +kernel
theorem dL_act_251 : decode cL_act 251 = .ok (.irem, 1) := by decide +kernel
theorem dL_act_252 : decode cL_act 252 = .ok (.ifCond .ne 7, 3) := by decide +kernel
theorem dL_act_255 : decode cL_act 255 = .ok (.iconst 1, 1) := by decide +kernel
theorem dL_act_256 : decode cL_act 256 = .ok (.goto 4, 3) := by decide +kernel
theorem dL_act_259 : decode cL_act 259 = .ok (.iconst 0, 1) := by decide +kernel
theorem dL_act_260 : decode cL_act 260 = .ok (.invokevirtual 148, 3) := by decide +kernel
theorem dL_act_263 : decode cL_act 263 = .ok (.ireturn, 1) := by decide +kernel
theorem dL_act_264 : decode cL_act 264 = .ok (.aload_n 0, 1) := by decide +kernel
theorem dL_act_265 : decode cL_act 265 = .ok (.aload_n 0, 1) := by decide +kernel
theorem dL_act_266 : decode cL_act 266 = .ok (.iconst 1, 1) := by decide +kernel
theorem dL_act_267 : decode cL_act 267 = .ok (.invokevirtual 115, 3) := by decide +kernel
theorem dL_act_270 : decode cL_act 270 = .ok (.iconst 1, 1) := by decide +kernel
theorem dL_act_271 : decode cL_act 271 = .ok (.iadd, 1) := by decide +kernel
theorem dL_act_272 : decode cL_act 272 = .ok (.iload 4, 2) := by decide +kernel
theorem dL_act_274 : decode cL_act 274 = .ok (.bipush 20, 2) := by decide +kernel
theorem dL_act_276 : decode cL_act 276 = .ok (.irem, 1) := by decide +kernel
theorem dL_act_277 : decode cL_act 277 = .ok (.iadd, 1) := by decide +kernel
theorem dL_act_278 : decode cL_act 278 = .ok (.iload 5, 2) := by decide +kernel
theorem dL_act_280 : decode cL_act 280 = .ok (.iload_n 3, 1) := by decide +kernel
theorem dL_act_281 : decode cL_act 281 = .ok (.bipush 7, 2) := by decide +kernel
theorem dL_act_283 : decode cL_act 283 = .ok (.idiv, 1) := by decide +kernel
theorem dL_act_284 : decode cL_act 284 = .ok (.iconst 4, 1) := by decide +kernel
theorem dL_act_285 : decode cL_act 285 = .ok (.irem, 1) := by decide +kernel
theorem dL_act_286 : decode cL_act 286 = .ok (.invokestatic 152, 3) := by decide +kernel
theorem dL_act_289 : decode cL_act 289 = .ok (.ireturn, 1) := by decide +kernel
theorem dL_act_290 : decode cL_act 290 = .ok (.aload_n 0, 1) := by decide +kernel
theorem dL_act_291 : decode cL_act 291 = .ok (.iconst 4, 1) := by decide +kernel
theorem dL_act_292 : decode cL_act 292 = .ok (.invokevirtual 115, 3) := by decide +kernel
theorem dL_act_295 : decode cL_act 295 = .ok (.ifCond .ne 9, 3) := by decide +kernel
theorem dL_act_298 : decode cL_act 298 = .ok (.sipush (-999), 3) := by decide +kernel
theorem dL_act_301 : decode cL_act 301 = .ok (.goto 15, 3) := by decide +kernel
theorem dL_act_304 : decode cL_act 304 = .ok (.aload_n 0, 1) := by decide +kernel
theorem dL_act_305 : decode cL_act 305 = .ok (.iload 4, 2) := by decide +kernel
theorem dL_act_307 : decode cL_act 307 = .ok (.aload_n 0, 1) := by decide +kernel
theorem dL_act_308 : decode cL_act 308 = .ok (.iconst 4, 1) := by decide +kernel
theorem dL_act_309 : decode cL_act 309 = .ok (.invokevirtual 115, 3) := by decide +kernel
theorem dL_act_312 : decode cL_act 312 = .ok (.irem, 1) := by decide +kernel
theorem dL_act_313 : decode cL_act 313 = .ok (.invokevirtual 156, 3) := by decide +kernel
theorem dL_act_316 : decode cL_act 316 = .ok (.ireturn, 1) := by decide +kernel
theorem dL_act_317 : decode cL_act 317 = .ok (.aload_n 0, 1) := by decide +kernel
theorem dL_act_318 : decode cL_act 318 = .ok (.iload 4, 2) := by decide +kernel
theorem dL_act_320 : decode cL_act 320 = .ok (.sipush 500, 3) := by decide +kernel
theorem dL_act_323 : decode cL_act 323 = .ok (.irem, 1) := by decide +kernel
theorem dL_act_324 : decode cL_act 324 = .ok (.sipush 200, 3) := by decide +kernel
theorem dL_act_327 : decode cL_act 327 = .ok (.isub, 1) := by decide +kernel
theorem dL_act_328 : decode cL_act 328 = .ok (.invokevirtual 159, 3) := by decide +kernel
theorem dL_act_331 : decode cL_act 331 = .ok (.sipush 300, 3) := by decide +kernel
theorem dL_act_334 : decode cL_act 334 = .ok (.iadd, 1) := by decide +kernel
theorem dL_act_335 : decode cL_act 335 = .ok (.ireturn, 1) := by decide +kernel
theorem dL_act_336 : decode cL_act 336 = .ok (.aload_n 0, 1) := by decide +kernel
theorem dL_act_337 : decode cL_act 337 = .ok (.iload 4, 2) := by decide +kernel
theorem dL_act_339 : decode cL_act 339 = .ok (.bipush 10, 2) := by decide +kernel
theorem dL_act_341 : decode cL_act 341 = .ok (.irem, 1) := by decide +kernel
theorem dL_act_342 : decode cL_act 342 = .ok (.iconst 1, 1) := by decide +kernel
theorem dL_act_343 : decode cL_act 343 = .ok (.iload_n 3, 1) := by decide +kernel
theorem dL_act_344 : decode cL_act 344 = .ok (.bipush 20, 2) := by decide +kernel
theorem dL_act_346 : decode cL_act 346 = .ok (.irem, 1) := by decide +kernel
theorem dL_act_347 : decode cL_act 347 = .ok (.iadd, 1) := by decide +kernel
theorem dL_act_348 : decode cL_act 348 = .ok (.iconst 1, 1) := by decide +kernel
theorem dL_act_349 : decode cL_act 349 = .ok (.iload 4, 2) := by decide +kernel
theorem dL_act_351 : decode cL_act 351 = .ok (.bipush 10, 2) := by decide +kernel
theorem dL_act_353 : decode cL_act 353 = .ok (.idiv, 1) := by decide +kernel
theorem dL_act_354 : decode cL_act 354 = .ok (.bipush 60, 2) := by decide +kernel
theorem dL_act_356 : decode cL_act 356 = .ok (.irem, 1) := by decide +kernel
theorem dL_act_357 : decode cL_act 357 = .ok (.iadd, 1) := by decide +kernel
theorem dL_act_358 : decode cL_act 358 = .ok (.invokevirtual 162, 3) := by decide +kernel
theorem dL_act_361 : decode cL_act 361 = .ok (.ireturn, 1) := by decide +kernel
theorem dL_act_362 : decode cL_act 362 = .ok (.aload_n 0, 1) := by decide +kernel
theorem dL_act_363 : decode cL_act 363 = .ok (.iload 5, 2) := by decide +kernel
theorem dL_act_365 : decode cL_act 365 = .ok (.iconst 1, 1) := by decide +kernel
theorem dL_act_366 : decode cL_act 366 = .ok (.iload 4, 2) := by decide +kernel
theorem dL_act_368 : decode cL_act 368 = .ok (.sipush 400, 3) := by decide +kernel
theorem dL_act_371 : decode cL_act 371 = .ok (.irem, 1) := by decide +kernel
theorem dL_act_372 : decode cL_act 372 = .ok (.iadd, 1) := by decide +kernel
theorem dL_act_373 : decode cL_act 373 = .ok (.invokevirtual 165, 3) := by decide +kernel
theorem dL_act_376 : decode cL_act 376 = .ok (.ireturn, 1) := by decide +kernel
theorem dL_act_377 : decode cL_act 377 = .ok (.aload_n 0, 1) := by decide +kernel
theorem dL_act_378 : decode cL_act 378 = .ok (.iload 5, 2) := by decide +kernel
theorem dL_act_380 : decode cL_act 380 = .ok (.iload 4, 2) := by decide +kernel
theorem dL_act_382 : decode cL_act 382 = .ok (.bipush 101, 2) := by decide +kernel
theorem dL_act_384 : decode cL_act 384 = .ok (.irem, 1) := by decide +kernel
theorem dL_act_385 : decode cL_act 385 = .ok (.invokevirtual 168, 3) := by decide +kernel
theorem dL_act_388 : decode cL_act 388 = .ok (.ireturn, 1) := by decide +kernel
theorem dL_act_389 : decode cL_act 389 = .ok (.aload_n 0, 1) := by decide +kernel
theorem dL_act_390 : decode cL_act 390 = .ok (.iconst 1, 1) := by decide +kernel
theorem dL_act_391 : decode cL_act 391 = .ok (.iload_n 3, 1) := by decide +kernel
theorem dL_act_392 : decode cL_act 392 = .ok (.iconst 3, 1) := by decide +kernel
theorem dL_act_393 : decode cL_act 393 = .ok (.irem, 1) := by decide +kernel
theorem dL_act_394 : decode cL_act 394 = .ok (.iadd, 1) := by decide +kernel
theorem dL_act_395 : decode cL_act 395 = .ok (.invokevirtual 131, 3) := by decide +kernel
theorem dL_act_398 : decode cL_act 398 = .ok (.ireturn, 1) := by decide +kernel
theorem dL_wanted_0 : decode cL_wanted 0 = .ok (.aload_n 0, 1) := by decide +kernel
theorem dL_wanted_1 : decode cL_wanted 1 = .ok (.bipush 9, 2) := by decide +kernel
theorem dL_wanted_3 : decode cL_wanted 3 = .ok (.invokevirtual 115, 3) := by decide +kernel
theorem dL_wanted_6 : decode cL_wanted 6 = .ok (.iload_n 2, 1) := by decide +kernel
theorem dL_wanted_7 : decode cL_wanted 7 = .ok (.iload_n 3, 1) := by decide +kernel
theorem dL_wanted_8 : decode cL_wanted 8 = .ok (.isub, 1) := by decide +kernel
theorem dL_wanted_9 : decode cL_wanted 9 = .ok (.imul, 1) := by decide +kernel
theorem dL_wanted_10 : decode cL_wanted 10 = .ok (.istore 5, 2) := by decide +kernel
theorem dL_wanted_12 : decode cL_wanted 12 = .ok (.iload_n 1, 1) := by decide +kernel
theorem dL_wanted_13 : decode cL_wanted 13 = .ok (.ifCond .le 7, 3) := by decide +kernel
theorem dL_wanted_16 : decode cL_wanted 16 = .ok (.iconst 0, 1) := by decide +kernel
theorem dL_wanted_17 : decode cL_wanted 17 = .ok (.goto 34, 3) := by decide +kernel
theorem dL_wanted_20 : decode cL_wanted 20 = .ok (.iload_n 2, 1) := by decide +kernel
theorem dL_wanted_21 : decode cL_wanted 21 = .ok (.iload_n 3, 1) := by decide +kernel
theorem dL_wanted_22 : decode cL_wanted 22 = .ok (.isub, 1) := by decide +kernel
theorem dL_wanted_23 : decode cL_wanted 23 = .ok (.invokestatic 190, 3) := by decide +kernel
theorem dL_wanted_26 : decode cL_wanted 26 = .ok (.aload_n 0, 1) := by decide +kernel
theorem dL_wanted_27 : decode cL_wanted 27 = .ok (.bipush 8, 2) := by decide +kernel
theorem dL_wanted_29 : decode cL_wanted 29 = .ok (.invokevirtual 115, 3) := by decide +kernel
theorem dL_wanted_32 : decode cL_wanted 32 = .ok (.if_icmp .gt 8, 3) := by decide +kernel
theorem dL_wanted_35 : decode cL_wanted 35 = .ok (.iload 4, 2) := by decide +kernel
theorem dL_wanted_37 : decode cL_wanted 37 = .ok (.goto 14, 3) := by decide +kernel
theorem dL_wanted_40 : decode cL_wanted 40 = .ok (.iconst 0, 1) := by decide +kernel
theorem dL_wanted_41 : decode cL_wanted 41 = .ok (.bipush 100, 2) := by decide +kernel
theorem dL_wanted_43 : decode cL_wanted 43 = .ok (.iload 5, 2) := by decide +kernel
theorem dL_wanted_45 : decode cL_wanted 45 = .ok (.invokestatic 30, 3) := by decide +kernel
theorem dL_wanted_48 : decode cL_wanted 48 = .ok (.invokestatic 193, 3) := by decide +kernel
theorem dL_wanted_51 : decode cL_wanted 51 = .ok (.ireturn, 1) := by decide +kernel
theorem dL_stands_0 : decode cL_stands 0 = .ok (.iconst 0, 1) := by decide +kernel
theorem dL_stands_1 : decode cL_stands 1 = .ok (.istore_n 1, 1) := by decide +kernel
theorem dL_stands_2 : decode cL_stands 2 = .ok (.iload_n 1, 1) := by decide +kernel
theorem dL_stands_3 : decode cL_stands 3 = .ok (.aload_n 0, 1) := by decide +kernel
theorem dL_stands_4 : decode cL_stands 4 = .ok (.iconst 0, 1) := by decide +kernel
theorem dL_stands_5 : decode cL_stands 5 = .ok (.invokevirtual 115, 3) := by decide +kernel
theorem dL_stands_8 : decode cL_stands 8 = .ok (.if_icmp .ge 502, 3) := by decide +kernel
theorem dL_stands_11 : decode cL_stands 11 = .ok (.aload_n 0, 1) := by decide +kernel
theorem dL_stands_12 : decode cL_stands 12 = .ok (.iload_n 1, 1) := by decide +kernel
theorem dL_stands_13 : decode cL_stands 13 = .ok (.iconst 1, 1) := by decide +kernel
theorem dL_stands_14 : decode cL_stands 14 = .ok (.invokevirtual 177, 3) := by decide +kernel
theorem dL_stands_17 : decode cL_stands 17 = .ok (.ifCond .lt 93, 3) := by decide +kernel
theorem dL_stands_20 : decode cL_stands 20 = .ok (.aload_n 0, 1) := by decide +kernel
theorem dL_stands_21 : decode cL_stands 21 = .ok (.iload_n 1, 1) := by decide +kernel
theorem dL_stands_22 : decode cL_stands 22 = .ok (.iconst 1, 1) := by decide +kernel
theorem dL_stands_23 : decode cL_stands 23 = .ok (.invokevirtual 177, 3) := by decide +kernel
theorem dL_stands_26 : decode cL_stands 26 = .ok (.bipush 100, 2) := by decide +kernel
theorem dL_stands_28 : decode cL_stands 28 = .ok (.if_icmp .gt 82, 3) := by decide +kernel
theorem dL_stands_31 : decode cL_stands 31 = .ok (.aload_n 0, 1) := by decide +kernel
theorem dL_stands_32 : decode cL_stands 32 = .ok (.iload_n 1, 1) := by decide +kernel
theorem dL_stands_33 : decode cL_stands 33 = .ok (.iconst 2, 1) := by decide +kernel
theorem dL_stands_34 : decode cL_stands 34 = .ok (.invokevirtual 177, 3) := by decide +kernel
theorem dL_stands_37 : decode cL_stands 37 = .ok (.ifCond .lt 73, 3) := by decide +kernel
theorem dL_stands_40 : decode cL_stands 40 = .ok (.aload_n 0, 1) := by decide +kernel
theorem dL_stands_41 : decode cL_stands 41 = .ok (.iload_n 1, 1) := by decide +kernel
theorem dL_stands_42 : decode cL_stands 42 = .ok (.bipush 7, 2) := by decide +kernel
theorem dL_stands_44 : decode cL_stands 44 = .ok (.invokevirtual 177, 3) := by decide +kernel
theorem dL_stands_47 : decode cL_stands 47 = .ok (.ifCond .lt 63, 3) := by decide +kernel
theorem dL_stands_50 : decode cL_stands 50 = .ok (.aload_n 0, 1) := by decide +kernel
theorem dL_stands_51 : decode cL_stands 51 = .ok (.iload_n 1, 1) := by decide +kernel
theorem dL_stands_52 : decode cL_stands 52 = .ok (.bipush 7, 2) := by decide +kernel
theorem dL_stands_54 : decode cL_stands 54 = .ok (.invokevirtual 177, 3) := by decide +kernel
theorem dL_stands_57 : decode cL_stands 57 = .ok (.aload_n 0, 1) := by decide +kernel
theorem dL_stands_58 : decode cL_stands 58 = .ok (.bipush 6, 2) := by decide +kernel
theorem dL_stands_60 : decode cL_stands 60 = .ok (.invokevirtual 115, 3) := by decide +kernel
theorem dL_stands_63 : decode cL_stands 63 = .ok (.if_icmp .gt 47, 3) := by decide +kernel
theorem dL_stands_66 : decode cL_stands 66 = .ok (.aload_n 0, 1) := by decide +kernel
theorem dL_stands_67 : decode cL_stands 67 = .ok (.iload_n 1, 1) := by decide +kernel
theorem dL_stands_68 : decode cL_stands 68 = .ok (.bipush 9, 2) := by decide +kernel
theorem dL_stands_70 : decode cL_stands 70 = .ok (.invokevirtual 177, 3) := by decide +kernel
theorem dL_stands_73 : decode cL_stands 73 = .ok (.ifCond .lt 37, 3) := by decide +kernel
theorem dL_stands_76 : decode cL_stands 76 = .ok (.aload_n 0, 1) := by decide +kernel
theorem dL_stands_77 : decode cL_stands 77 = .ok (.iload_n 1, 1) := by decide +kernel
theorem dL_stands_78 : decode cL_stands 78 = .ok (.bipush 8, 2) := by decide +kernel
theorem dL_stands_80 : decode cL_stands 80 = .ok (.invokevirtual 177, 3) := by decide +kernel
theorem dL_stands_83 : decode cL_stands 83 = .ok (.iconst (-1), 1) := by decide +kernel
theorem dL_stands_84 : decode cL_stands 84 = .ok (.if_icmp .ne 7, 3) := by decide +kernel
theorem dL_stands_87 : decode cL_stands 87 = .ok (.iconst 1, 1) := by decide +kernel
theorem dL_stands_88 : decode cL_stands 88 = .ok (.goto 4, 3) := by decide +kernel
theorem dL_stands_91 : decode cL_stands 91 = .ok (.iconst 0, 1) := by decide +kernel
theorem dL_stands_92 : decode cL_stands 92 = .ok (.aload_n 0, 1) := by decide +kernel
theorem dL_stands_93 : decode cL_stands 93 = .ok (.iload_n 1, 1) := by decide +kernel
theorem dL_stands_94 : decode cL_stands 94 = .ok (.bipush 9, 2) := by decide +kernel
theorem dL_stands_96 : decode cL_stands 96 = .ok (.invokevirtual 177, 3) := by decide +kernel
theorem dL_stands_99 : decode cL_stands 99 = .ok (.ifCond .ne 7, 3) := by decide +kernel
theorem dL_stands_102 : decode cL_stands 102 = .ok (.iconst 1, 1) := by decide +kernel
theorem dL_stands_103 : decode cL_stands 103 = .ok (.goto 4, 3) := by decide +kernel
theorem dL_stands_106 : decode cL_stands 106 = .ok (.iconst 0, 1) := by decide +kernel
theorem dL_stands_107 : decode cL_stands 107 = .ok (.if_icmp .eq 5, 3) := by decide +kernel
theorem dL_stands_110 : decode cL_stands 110 = .ok (.iconst 0, 1) := by decide +kernel
theorem dL_stands_111 : decode cL_stands 111 = .ok (.ireturn, 1) := by decide +kernel
theorem dL_stands_112 : decode cL_stands 112 = .ok (.aload_n 0, 1) := by decide +kernel
theorem dL_stands_113 : decode cL_stands 113 = .ok (.iload_n 1, 1) := by decide +kernel
theorem dL_stands_114 : decode cL_stands 114 = .ok (.invokevirtual 196, 3) := by decide +kernel
theorem dL_stands_117 : decode cL_stands 117 = .ok (.aload_n 0, 1) := by decide +kernel
theorem dL_stands_118 : decode cL_stands 118 = .ok (.iload_n 1, 1) := by decide +kernel
theorem dL_stands_119 : decode cL_stands 119 = .ok (.iconst 2, 1) := by decide +kernel
theorem dL_stands_120 : decode cL_stands 120 = .ok (.invokevirtual 177, 3) := by decide +kernel
theorem dL_stands_123 : decode cL_stands 123 = .ok (.if_icmp .ne 49, 3) := by decide +kernel
theorem dL_stands_126 : decode cL_stands 126 = .ok (.aload_n 0, 1) := by decide +kernel
theorem dL_stands_127 : decode cL_stands 127 = .ok (.iload_n 1, 1) := by decide +kernel
theorem dL_stands_128 : decode cL_stands 128 = .ok (.iconst 4, 1) := by decide +kernel
theorem dL_stands_129 : decode cL_stands 129 = .ok (.invokevirtual 180, 3) := by decide +kernel
theorem dL_stands_132 : decode cL_stands 132 = .ok (.aload_n 0, 1) := by decide +kernel
theorem dL_stands_133 : decode cL_stands 133 = .ok (.iconst 1, 1) := by decide +kernel
theorem dL_stands_134 : decode cL_stands 134 = .ok (.invokevirtual 115, 3) := by decide +kernel
theorem dL_stands_137 : decode cL_stands 137 = .ok (.if_icmp .gt 35, 3) := by decide +kernel
theorem dL_stands_140 : decode cL_stands 140 = .ok (.aload_n 0, 1) := by decide +kernel
theorem dL_stands_141 : decode cL_stands 141 = .ok (.iload_n 1, 1) := by decide +kernel
theorem dL_stands_142 : decode cL_stands 142 = .ok (.iconst 5, 1) := by decide +kernel
theorem dL_stands_143 : decode cL_stands 143 = .ok (.invokevirtual 180, 3) := by decide +kernel
theorem dL_stands_146 : decode cL_stands 146 = .ok (.aload_n 0, 1) := by decide +kernel
theorem dL_stands_147 : decode cL_stands 147 = .ok (.iconst 1, 1) := by decide +kernel
theorem dL_stands_148 : decode cL_stands 148 = .ok (.invokevirtual 115, 3) := by decide +kernel
theorem dL_stands_151 : decode cL_stands 151 = .ok (.if_icmp .gt 21, 3) := by decide +kernel
theorem dL_stands_154 : decode cL_stands 154 = .ok (.aload_n 0, 1) := by decide +kernel
theorem dL_stands_155 : decode cL_stands 155 = .ok (.iload_n 1, 1) := by decide +kernel
theorem dL_stands_156 : decode cL_stands 156 = .ok (.bipush 10, 2) := by decide +kernel
theorem dL_stands_158 : decode cL_stands 158 = .ok (.invokevirtual 177, 3) := by decide +kernel
theorem dL_stands_161 : decode cL_stands 161 = .ok (.bipush 100, 2) := by decide +kernel
theorem dL_stands_163 : decode cL_stands 163 = .ok (.aload_n 0, 1) := by decide +kernel
theorem dL_stands_164 : decode cL_stands 164 = .ok (.iconst 1, 1) := by decide +kernel
theorem dL_stands_165 : decode cL_stands 165 = .ok (.invokevirtual 115, 3) := by decide +kernel
theorem dL_stands_168 : decode cL_stands 168 = .ok (.imul, 1) := by decide +kernel
theorem dL_stands_169 : decode cL_stands 169 = .ok (.if_icmp .le 5, 3) := by decide +kernel
theorem dL_stands_172 : decode cL_stands 172 = .ok (.iconst 0, 1) := by decide +kernel
theorem dL_stands_173 : decode cL_stands 173 = .ok (.ireturn, 1) := by decide +kernel
theorem dL_stands_174 : decode cL_stands 174 = .ok (.aload_n 0, 1) := by decide +kernel
theorem dL_stands_175 : decode cL_stands 175 = .ok (.iload_n 1, 1) := by decide +kernel
theorem dL_stands_176 : decode cL_stands 176 = .ok (.invokevirtual 199, 3) := by decide +kernel
theorem dL_stands_179 : decode cL_stands 179 = .ok (.istore_n 2, 1) := by decide +kernel
theorem dL_stands_180 : decode cL_stands 180 = .ok (.aload_n 0, 1) := by decide +kernel
theorem dL_stands_181 : decode cL_stands 181 = .ok (.iload_n 1, 1) := by decide +kernel
theorem dL_stands_182 : decode cL_stands 182 = .ok (.bipush 9, 2) := by decide +kernel
theorem dL_stands_184 : decode cL_stands 184 = .ok (.invokevirtual 177, 3) := by decide +kernel
theorem dL_stands_187 : decode cL_stands 187 = .ok (.ifCond .le 13, 3) := by decide +kernel
theorem dL_stands_190 : decode cL_stands 190 = .ok (.aload_n 0, 1) := by decide +kernel
theorem dL_stands_191 : decode cL_stands 191 = .ok (.iload_n 1, 1) := by decide +kernel
theorem dL_stands_192 : decode cL_stands 192 = .ok (.bipush 8, 2) := by decide +kernel
theorem dL_stands_194 : decode cL_stands 194 = .ok (.invokevirtual 177, 3) := by decide +kernel
theorem dL_stands_197 : decode cL_stands 197 = .ok (.goto 35, 3) := by decide +kernel
theorem dL_stands_200 : decode cL_stands 200 = .ok (.aload_n 0, 1) := by decide +kernel
theorem dL_stands_201 : decode cL_stands 201 = .ok (.iload_n 1, 1) := by decide +kernel
theorem dL_stands_202 : decode cL_stands 202 = .ok (.aload_n 0, 1) := by decide +kernel
theorem dL_stands_203 : decode cL_stands 203 = .ok (.iconst 2, 1) := by decide +kernel
theorem dL_stands_204 : decode cL_stands 204 = .ok (.invokevirtual 115, 3) := by decide +kernel
theorem dL_stands_207 : decode cL_stands 207 = .ok (.invokevirtual 183, 3) := by decide +kernel
theorem dL_stands_210 : decode cL_stands 210 = .ok (.aload_n 0, 1) := by decide +kernel
theorem dL_stands_211 : decode cL_stands 211 = .ok (.iload_n 1, 1) := by decide +kernel
theorem dL_stands_212 : decode cL_stands 212 = .ok (.bipush 6, 2) := by decide +kernel
theorem dL_stands_214 : decode cL_stands 214 = .ok (.invokevirtual 177, 3) := by decide +kernel
theorem dL_stands_217 : decode cL_stands 217 = .ok (.iconst 1, 1) := by decide +kernel
theorem dL_stands_218 : decode cL_stands 218 = .ok (.if_icmp .ne 7, 3) := by decide +kernel
theorem dL_stands_221 : decode cL_stands 221 = .ok (.iconst 0, 1) := by decide +kernel
theorem dL_stands_222 : decode cL_stands 222 = .ok (.goto 9, 3) := by decide +kernel
theorem dL_stands_225 : decode cL_stands 225 = .ok (.aload_n 0, 1) := by decide +kernel
theorem dL_stands_226 : decode cL_stands 226 = .ok (.bipush 7, 2) := by decide +kernel
theorem dL_stands_228 : decode cL_stands 228 = .ok (.invokevirtual 115, 3) := by decide +kernel
theorem dL_stands_231 : decode cL_stands 231 = .ok (.isub, 1) := by decide +kernel
theorem dL_stands_232 : decode cL_stands 232 = .ok (.istore_n 3, 1) := by decide +kernel
theorem dL_stands_233 : decode cL_stands 233 = .ok (.iload_n 2, 1) := by decide +kernel
theorem dL_stands_234 : decode cL_stands 234 = .ok (.iload_n 3, 1) := by decide +kernel
theorem dL_stands_235 : decode cL_stands 235 = .ok (.if_icmp .ne 35, 3) := by decide +kernel
theorem dL_stands_238 : decode cL_stands 238 = .ok (.aload_n 0, 1) := by decide +kernel
theorem dL_stands_239 : decode cL_stands 239 = .ok (.iload_n 1, 1) := by decide +kernel
theorem dL_stands_240 : decode cL_stands 240 = .ok (.invokevirtual 202, 3) := by decide +kernel
theorem dL_stands_243 : decode cL_stands 243 = .ok (.aload_n 0, 1) := by decide +kernel
theorem dL_stands_244 : decode cL_stands 244 = .ok (.aload_n 0, 1) := by decide +kernel
theorem dL_stands_245 : decode cL_stands 245 = .ok (.iload_n 1, 1) := by decide +kernel
theorem dL_stands_246 : decode cL_stands 246 = .ok (.bipush 7, 2) := by decide +kernel
theorem dL_stands_248 : decode cL_stands 248 = .ok (.invokevirtual 177, 3) := by decide +kernel
theorem dL_stands_251 : decode cL_stands 251 = .ok (.iload_n 2, 1) := by decide +kernel
theorem dL_stands_252 : decode cL_stands 252 = .ok (.aload_n 0, 1) := by decide +kernel
theorem dL_stands_253 : decode cL_stands 253 = .ok (.iload_n 1, 1) := by decide +kernel
theorem dL_stands_254 : decode cL_stands 254 = .ok (.iconst 0, 1) := by decide +kernel
theorem dL_stands_255 : decode cL_stands 255 = .ok (.invokevirtual 177, 3) := by decide +kernel
theorem dL_stands_258 : decode cL_stands 258 = .ok (.aload_n 0, 1) := by decide +kernel
theorem dL_stands_259 : decode cL_stands 259 = .ok (.iload_n 1, 1) := by decide +kernel
theorem dL_stands_260 : decode cL_stands 260 = .ok (.iconst 1, 1) := by decide +kernel
theorem dL_stands_261 : decode cL_stands 261 = .ok (.invokevirtual 177, 3) := by decide +kernel
theorem dL_stands_264 : decode cL_stands 264 = .ok (.invokestatic 205, 3) := by decide +kernel
theorem dL_stands_267 : decode cL_stands 267 = .ok (.if_icmp .eq 5, 3) := by decide +kernel
theorem dL_stands_270 : decode cL_stands 270 = .ok (.iconst 0, 1) := by decide +kernel
theorem dL_stands_271 : decode cL_stands 271 = .ok (.ireturn, 1) := by decide +kernel
theorem dL_stands_272 : decode cL_stands 272 = .ok (.aload_n 0, 1) := by decide +kernel
theorem dL_stands_273 : decode cL_stands 273 = .ok (.iload_n 1, 1) := by decide +kernel
theorem dL_stands_274 : decode cL_stands 274 = .ok (.invokevirtual 208, 3) := by decide +kernel
theorem dL_stands_277 : decode cL_stands 277 = .ok (.istore 4, 2) := by decide +kernel
theorem dL_stands_279 : decode cL_stands 279 = .ok (.iload 4, 2) := by decide +kernel
theorem dL_stands_281 : decode cL_stands 281 = .ok (.iconst 2, 1) := by decide +kernel
theorem dL_stands_282 : decode cL_stands 282 = .ok (.if_icmp .ge 7, 3) := by decide +kernel
theorem dL_stands_285 : decode cL_stands 285 = .ok (.iconst 1, 1) := by decide +kernel
theorem dL_stands_286 : decode cL_stands 286 = .ok (.goto 4, 3) := by decide +kernel
theorem dL_stands_289 : decode cL_stands 289 = .ok (.iconst 0, 1) := by decide +kernel
theorem dL_stands_290 : decode cL_stands 290 = .ok (.aload_n 0, 1) := by decide +kernel
theorem dL_stands_291 : decode cL_stands 291 = .ok (.iload_n 1, 1) := by decide +kernel
theorem dL_stands_292 : decode cL_stands 292 = .ok (.invokevirtual 202, 3) := by decide +kernel
theorem dL_stands_295 : decode cL_stands 295 = .ok (.aload_n 0, 1) := by decide +kernel
theorem dL_stands_296 : decode cL_stands 296 = .ok (.iload_n 1, 1) := by decide +kernel
theorem dL_stands_297 : decode cL_stands 297 = .ok (.iconst 1, 1) := by decide +kernel
theorem dL_stands_298 : decode cL_stands 298 = .ok (.invokevirtual 177, 3) := by decide +kernel
theorem dL_stands_301 : decode cL_stands 301 = .ok (.if_icmp .eq 7, 3) := by decide +kernel
theorem dL_stands_304 : decode cL_stands 304 = .ok (.iconst 1, 1) := by decide +kernel
theorem dL_stands_305 : decode cL_stands 305 = .ok (.goto 4, 3) := by decide +kernel
theorem dL_stands_308 : decode cL_stands 308 = .ok (.iconst 0, 1) := by decide +kernel
theorem dL_stands_309 : decode cL_stands 309 = .ok (.if_icmp .ne 104, 3) := by decide +kernel
theorem dL_stands_312 : decode cL_stands 312 = .ok (.iload 4, 2) := by decide +kernel
theorem dL_stands_314 : decode cL_stands 314 = .ok (.iconst 1, 1) := by decide +kernel
theorem dL_stands_315 : decode cL_stands 315 = .ok (.if_icmp .ne 7, 3) := by decide +kernel
theorem dL_stands_318 : decode cL_stands 318 = .ok (.iconst 1, 1) := by decide +kernel
theorem dL_stands_319 : decode cL_stands 319 = .ok (.goto 4, 3) := by decide +kernel
theorem dL_stands_322 : decode cL_stands 322 = .ok (.iconst 0, 1) := by decide +kernel
theorem dL_stands_323 : decode cL_stands 323 = .ok (.aload_n 0, 1) := by decide +kernel
theorem dL_stands_324 : decode cL_stands 324 = .ok (.iload_n 1, 1) := by decide +kernel
theorem dL_stands_325 : decode cL_stands 325 = .ok (.iconst 2, 1) := by decide +kernel
theorem dL_stands_326 : decode cL_stands 326 = .ok (.invokevirtual 177, 3) := by decide +kernel
theorem dL_stands_329 : decode cL_stands 329 = .ok (.ifCond .ne 13, 3) := by decide +kernel
theorem dL_stands_332 : decode cL_stands 332 = .ok (.iload 4, 2) := by decide +kernel
theorem dL_stands_334 : decode cL_stands 334 = .ok (.iconst 2, 1) := by decide +kernel
theorem dL_stands_335 : decode cL_stands 335 = .ok (.if_icmp .ge 7, 3) := by decide +kernel
theorem dL_stands_338 : decode cL_stands 338 = .ok (.iconst 1, 1) := by decide +kernel
theorem dL_stands_339 : decode cL_stands 339 = .ok (.goto 4, 3) := by decide +kernel
theorem dL_stands_342 : decode cL_stands 342 = .ok (.iconst 0, 1) := by decide +kernel
theorem dL_stands_343 : decode cL_stands 343 = .ok (.if_icmp .ne 70, 3) := by decide +kernel
theorem dL_stands_346 : decode cL_stands 346 = .ok (.iload 4, 2) := by decide +kernel
theorem dL_stands_348 : decode cL_stands 348 = .ok (.iconst 2, 1) := by decide +kernel
theorem dL_stands_349 : decode cL_stands 349 = .ok (.if_icmp .ne 7, 3) := by decide +kernel
theorem dL_stands_352 : decode cL_stands 352 = .ok (.iconst 1, 1) := by decide +kernel
theorem dL_stands_353 : decode cL_stands 353 = .ok (.goto 4, 3) := by decide +kernel
theorem dL_stands_356 : decode cL_stands 356 = .ok (.iconst 0, 1) := by decide +kernel
theorem dL_stands_357 : decode cL_stands 357 = .ok (.aload_n 0, 1) := by decide +kernel
theorem dL_stands_358 : decode cL_stands 358 = .ok (.iload_n 1, 1) := by decide +kernel
theorem dL_stands_359 : decode cL_stands 359 = .ok (.bipush 7, 2) := by decide +kernel
theorem dL_stands_361 : decode cL_stands 361 = .ok (.invokevirtual 177, 3) := by decide +kernel
theorem dL_stands_364 : decode cL_stands 364 = .ok (.ifCond .le 13, 3) := by decide +kernel
theorem dL_stands_367 : decode cL_stands 367 = .ok (.iload 4, 2) := by decide +kernel
theorem dL_stands_369 : decode cL_stands 369 = .ok (.iconst 1, 1) := by decide +kernel
theorem dL_stands_370 : decode cL_stands 370 = .ok (.if_icmp .le 7, 3) := by decide +kernel
theorem dL_stands_373 : decode cL_stands 373 = .ok (.iconst 1, 1) := by decide +kernel
theorem dL_stands_374 : decode cL_stands 374 = .ok (.goto 4, 3) := by decide +kernel
theorem dL_stands_377 : decode cL_stands 377 = .ok (.iconst 0, 1) := by decide +kernel
theorem dL_stands_378 : decode cL_stands 378 = .ok (.if_icmp .ne 35, 3) := by decide +kernel
theorem dL_stands_381 : decode cL_stands 381 = .ok (.iload 4, 2) := by decide +kernel
theorem dL_stands_383 : decode cL_stands 383 = .ok (.iconst 5, 1) := by decide +kernel
theorem dL_stands_384 : decode cL_stands 384 = .ok (.if_icmp .ne 13, 3) := by decide +kernel
theorem dL_stands_387 : decode cL_stands 387 = .ok (.iload_n 2, 1) := by decide +kernel
theorem dL_stands_388 : decode cL_stands 388 = .ok (.aload_n 0, 1) := by decide +kernel
theorem dL_stands_389 : decode cL_stands 389 = .ok (.iload_n 1, 1) := by decide +kernel
theorem dL_stands_390 : decode cL_stands 390 = .ok (.iconst 0, 1) := by decide +kernel
theorem dL_stands_391 : decode cL_stands 391 = .ok (.invokevirtual 177, 3) := by decide +kernel
theorem dL_stands_394 : decode cL_stands 394 = .ok (.if_icmp .le 19, 3) := by decide +kernel
theorem dL_stands_397 : decode cL_stands 397 = .ok (.iload 4, 2) := by decide +kernel
theorem dL_stands_399 : decode cL_stands 399 = .ok (.iconst 4, 1) := by decide +kernel
theorem dL_stands_400 : decode cL_stands 400 = .ok (.if_icmp .ne 15, 3) := by decide +kernel
theorem dL_stands_403 : decode cL_stands 403 = .ok (.iload_n 2, 1) := by decide +kernel
theorem dL_stands_404 : decode cL_stands 404 = .ok (.aload_n 0, 1) := by decide +kernel
theorem dL_stands_405 : decode cL_stands 405 = .ok (.iload_n 1, 1) := by decide +kernel
theorem dL_stands_406 : decode cL_stands 406 = .ok (.iconst 0, 1) := by decide +kernel
theorem dL_stands_407 : decode cL_stands 407 = .ok (.invokevirtual 177, 3) := by decide +kernel
theorem dL_stands_410 : decode cL_stands 410 = .ok (.if_icmp .le 5, 3) := by decide +kernel
theorem dL_stands_413 : decode cL_stands 413 = .ok (.iconst 0, 1) := by decide +kernel
theorem dL_stands_414 : decode cL_stands 414 = .ok (.ireturn, 1) := by decide +kernel
theorem dL_stands_415 : decode cL_stands 415 = .ok (.aload_n 0, 1) := by decide +kernel
theorem dL_stands_416 : decode cL_stands 416 = .ok (.iload_n 1, 1) := by decide +kernel
theorem dL_stands_417 : decode cL_stands 417 = .ok (.invokevirtual 211, 3) := by decide +kernel
theorem dL_stands_420 : decode cL_stands 420 = .ok (.aload_n 0, 1) := by decide +kernel
theorem dL_stands_421 : decode cL_stands 421 = .ok (.iconst 1, 1) := by decide +kernel
theorem dL_stands_422 : decode cL_stands 422 = .ok (.invokevirtual 115, 3) := by decide +kernel
theorem dL_stands_425 : decode cL_stands 425 = .ok (.ifCond .ne 7, 3) := by decide +kernel
theorem dL_stands_428 : decode cL_stands 428 = .ok (.fconst 0, 1) := by decide +kernel
theorem dL_stands_429 : decode cL_stands 429 = .ok (.goto 21, 3) := by decide +kernel
theorem dL_stands_432 : decode cL_stands 432 = .ok (.aload_n 0, 1) := by decide +kernel
theorem dL_stands_433 : decode cL_stands 433 = .ok (.iload_n 1, 1) := by decide +kernel
theorem dL_stands_434 : decode cL_stands 434 = .ok (.bipush 10, 2) := by decide +kernel
theorem dL_stands_436 : decode cL_stands 436 = .ok (.invokevirtual 177, 3) := by decide +kernel
theorem dL_stands_439 : decode cL_stands 439 = .ok (.i2f, 1) := by decide +kernel
theorem dL_stands_440 : decode cL_stands 440 = .ok (.bipush 100, 2) := by decide +kernel
theorem dL_stands_442 : decode cL_stands 442 = .ok (.aload_n 0, 1) := by decide +kernel
theorem dL_stands_443 : decode cL_stands 443 = .ok (.iconst 1, 1) := by decide +kernel
theorem dL_stands_444 : decode cL_stands 444 = .ok (.invokevirtual 115, 3) := by decide +kernel
theorem dL_stands_447 : decode cL_stands 447 = .ok (.imul, 1) := by decide +kernel
theorem dL_stands_448 : decode cL_stands 448 = .ok (.i2f, 1) := by decide +kernel
theorem dL_stands_449 : decode cL_stands 449 = .ok (.fdiv, 1) := by decide +kernel
theorem dL_stands_450 : decode cL_stands 450 = .ok (.fcmp .l, 1) := by decide +kernel
theorem dL_stands_451 : decode cL_stands 451 = .ok (.ifCond .eq 5, 3) := by decide +kernel
theorem dL_stands_454 : decode cL_stands 454 = .ok (.iconst 0, 1) := by decide +kernel
theorem dL_stands_455 : decode cL_stands 455 = .ok (.ireturn, 1) := by decide +kernel
theorem dL_stands_456 : decode cL_stands 456 = .ok (.aload_n 0, 1) := by decide +kernel
theorem dL_stands_457 : decode cL_stands 457 = .ok (.iload_n 1, 1) := by decide +kernel
theorem dL_stands_458 : decode cL_stands 458 = .ok (.invokevirtual 215, 3) := by decide +kernel
theorem dL_stands_461 : decode cL_stands 461 = .ok (.istore 5, 2) := by decide +kernel
theorem dL_stands_463 : decode cL_stands 463 = .ok (.iload 5, 2) := by decide +kernel
theorem dL_stands_465 : decode cL_stands 465 = .ok (.iconst 1, 1) := by decide +kernel
theorem dL_stands_466 : decode cL_stands 466 = .ok (.if_icmp .lt 36, 3) := by decide +kernel
theorem dL_stands_469 : decode cL_stands 469 = .ok (.iload 5, 2) := by decide +kernel
theorem dL_stands_471 : decode cL_stands 471 = .ok (.sipush 336, 3) := by decide +kernel
theorem dL_stands_474 : decode cL_stands 474 = .ok (.if_icmp .gt 28, 3) := by decide +kernel
theorem dL_stands_477 : decode cL_stands 477 = .ok (.aload_n 0, 1) := by decide +kernel
theorem dL_stands_478 : decode cL_stands 478 = .ok (.iconst 1, 1) := by decide +kernel
theorem dL_stands_479 : decode cL_stands 479 = .ok (.invokevirtual 115, 3) := by decide +kernel
theorem dL_stands_482 : decode cL_stands 482 = .ok (.iload 5, 2) := by decide +kernel
theorem dL_stands_484 : decode cL_stands 484 = .ok (.iadd, 1) := by decide +kernel
theorem dL_stands_485 : decode cL_stands 485 = .ok (.iload_n 1, 1) := by decide +kernel
theorem dL_stands_486 : decode cL_stands 486 = .ok (.isub, 1) := by decide +kernel
theorem dL_stands_487 : decode cL_stands 487 = .ok (.sipush 336, 3) := by decide +kernel
theorem dL_stands_490 : decode cL_stands 490 = .ok (.invokestatic 218, 3) := by decide +kernel
theorem dL_stands_493 : decode cL_stands 493 = .ok (.aload_n 0, 1) := by decide +kernel
theorem dL_stands_494 : decode cL_stands 494 = .ok (.bipush 11, 2) := by decide +kernel
theorem dL_stands_496 : decode cL_stands 496 = .ok (.invokevirtual 115, 3) := by decide +kernel
theorem dL_stands_499 : decode cL_stands 499 = .ok (.if_icmp .eq 5, 3) := by decide +kernel
theorem dL_stands_502 : decode cL_stands 502 = .ok (.iconst 0, 1) := by decide +kernel
theorem dL_stands_503 : decode cL_stands 503 = .ok (.ireturn, 1) := by decide +kernel
theorem dL_stands_504 : decode cL_stands 504 = .ok (.iinc 1 1, 3) := by decide +kernel
theorem dL_stands_507 : decode cL_stands 507 = .ok (.goto (-505), 3) := by decide +kernel
theorem dL_stands_510 : decode cL_stands 510 = .ok (.iconst 0, 1) := by decide +kernel
theorem dL_stands_511 : decode cL_stands 511 = .ok (.istore_n 1, 1) := by decide +kernel
theorem dL_stands_512 : decode cL_stands 512 = .ok (.iload_n 1, 1) := by decide +kernel
theorem dL_stands_513 : decode cL_stands 513 = .ok (.aload_n 0, 1) := by decide +kernel
theorem dL_stands_514 : decode cL_stands 514 = .ok (.iconst 4, 1) := by decide +kernel
theorem dL_stands_515 : decode cL_stands 515 = .ok (.invokevirtual 115, 3) := by decide +kernel
theorem dL_stands_518 : decode cL_stands 518 = .ok (.if_icmp .ge 46, 3) := by decide +kernel
theorem dL_stands_521 : decode cL_stands 521 = .ok (.aload_n 0, 1) := by decide +kernel
theorem dL_stands_522 : decode cL_stands 522 = .ok (.iload_n 1, 1) := by decide +kernel
theorem dL_stands_523 : decode cL_stands 523 = .ok (.iconst 0, 1) := by decide +kernel
theorem dL_stands_524 : decode cL_stands 524 = .ok (.invokevirtual 188, 3) := by decide +kernel
theorem dL_stands_527 : decode cL_stands 527 = .ok (.aload_n 0, 1) := by decide +kernel
theorem dL_stands_528 : decode cL_stands 528 = .ok (.iconst 1, 1) := by decide +kernel
theorem dL_stands_529 : decode cL_stands 529 = .ok (.invokevirtual 115, 3) := by decide +kernel
theorem dL_stands_532 : decode cL_stands 532 = .ok (.if_icmp .le 24, 3) := by decide +kernel
theorem dL_stands_535 : decode cL_stands 535 = .ok (.iload_n 1, 1) := by decide +kernel
theorem dL_stands_536 : decode cL_stands 536 = .ok (.ifCond .le 22, 3) := by decide +kernel
theorem dL_stands_539 : decode cL_stands 539 = .ok (.aload_n 0, 1) := by decide +kernel
theorem dL_stands_540 : decode cL_stands 540 = .ok (.iload_n 1, 1) := by decide +kernel
theorem dL_stands_541 : decode cL_stands 541 = .ok (.iconst 0, 1) := by decide +kernel
theorem dL_stands_542 : decode cL_stands 542 = .ok (.invokevirtual 188, 3) := by decide +kernel
theorem dL_stands_545 : decode cL_stands 545 = .ok (.aload_n 0, 1) := by decide +kernel
theorem dL_stands_546 : decode cL_stands 546 = .ok (.iload_n 1, 1) := by decide +kernel
theorem dL_stands_547 : decode cL_stands 547 = .ok (.iconst 1, 1) := by decide +kernel
theorem dL_stands_548 : decode cL_stands 548 = .ok (.isub, 1) := by decide +kernel
theorem dL_stands_549 : decode cL_stands 549 = .ok (.iconst 0, 1) := by decide +kernel
theorem dL_stands_550 : decode cL_stands 550 = .ok (.invokevirtual 188, 3) := by decide +kernel
theorem dL_stands_553 : decode cL_stands 553 = .ok (.if_icmp .ge 5, 3) := by decide +kernel
theorem dL_stands_556 : decode cL_stands 556 = .ok (.iconst 0, 1) := by decide +kernel
theorem dL_stands_557 : decode cL_stands 557 = .ok (.ireturn, 1) := by decide +kernel
theorem dL_stands_558 : decode cL_stands 558 = .ok (.iinc 1 1, 3) := by decide +kernel
theorem dL_stands_561 : decode cL_stands 561 = .ok (.goto (-49), 3) := by decide +kernel
theorem dL_stands_564 : decode cL_stands 564 = .ok (.aload_n 0, 1) := by decide +kernel
theorem dL_stands_565 : decode cL_stands 565 = .ok (.iconst 2, 1) := by decide +kernel
theorem dL_stands_566 : decode cL_stands 566 = .ok (.invokevirtual 115, 3) := by decide +kernel
theorem dL_stands_569 : decode cL_stands 569 = .ok (.aload_n 0, 1) := by decide +kernel
theorem dL_stands_570 : decode cL_stands 570 = .ok (.iconst 1, 1) := by decide +kernel
theorem dL_stands_571 : decode cL_stands 571 = .ok (.invokevirtual 115, 3) := by decide +kernel
theorem dL_stands_574 : decode cL_stands 574 = .ok (.bipush 48, 2) := by decide +kernel
theorem dL_stands_576 : decode cL_stands 576 = .ok (.irem, 1) := by decide +kernel
theorem dL_stands_577 : decode cL_stands 577 = .ok (.if_icmp .ne 7, 3) := by decide +kernel
theorem dL_stands_580 : decode cL_stands 580 = .ok (.iconst 1, 1) := by decide +kernel
theorem dL_stands_581 : decode cL_stands 581 = .ok (.goto 4, 3) := by decide +kernel
theorem dL_stands_584 : decode cL_stands 584 = .ok (.iconst 0, 1) := by decide +kernel
theorem dL_stands_585 : decode cL_stands 585 = .ok (.ireturn, 1) := by decide +kernel
theorem dL_law_0 : decode cL_law 0 = .ok (.new 25, 3) := by decide +kernel
theorem dL_law_3 : decode cL_law 3 = .ok (.dup, 1) := by decide +kernel
theorem dL_law_4 : decode cL_law 4 = .ok (.invokespecial 221, 3) := by decide +kernel
theorem dL_law_7 : decode cL_law 7 = .ok (.astore_n 1, 1) := by decide +kernel
theorem dL_law_8 : decode cL_law 8 = .ok (.aload_n 1, 1) := by decide +kernel
theorem dL_law_9 : decode cL_law 9 = .ok (.aload_n 0, 1) := by decide +kernel
theorem dL_law_10 : decode cL_law 10 = .ok (.invokestatic 222, 3) := by decide +kernel
theorem dL_law_13 : decode cL_law 13 = .ok (.ifCond .eq 10, 3) := by decide +kernel
theorem dL_law_16 : decode cL_law 16 = .ok (.aload_n 1, 1) := by decide +kernel
theorem dL_law_17 : decode cL_law 17 = .ok (.invokestatic 225, 3) := by decide +kernel
theorem dL_law_20 : decode cL_law 20 = .ok (.ifCond .ne 5, 3) := by decide +kernel
theorem dL_law_23 : decode cL_law 23 = .ok (.iconst 0, 1) := by decide +kernel
theorem dL_law_24 : decode cL_law 24 = .ok (.ireturn, 1) := by decide +kernel
theorem dL_law_25 : decode cL_law 25 = .ok (.bipush 60, 2) := by decide +kernel
theorem dL_law_27 : decode cL_law 27 = .ok (.istore_n 2, 1) := by decide +kernel
theorem dL_law_28 : decode cL_law 28 = .ok (.iload_n 2, 1) := by decide +kernel
theorem dL_law_29 : decode cL_law 29 = .ok (.iconst 2, 1) := by decide +kernel
theorem dL_law_30 : decode cL_law 30 = .ok (.iadd, 1) := by decide +kernel
theorem dL_law_31 : decode cL_law 31 = .ok (.sipush 230, 3) := by decide +kernel
theorem dL_law_34 : decode cL_law 34 = .ok (.if_icmp .ge 329, 3) := by decide +kernel
theorem dL_law_37 : decode cL_law 37 = .ok (.aload_n 1, 1) := by decide +kernel
theorem dL_law_38 : decode cL_law 38 = .ok (.iconst 0, 1) := by decide +kernel
theorem dL_law_39 : decode cL_law 39 = .ok (.invokevirtual 115, 3) := by decide +kernel
theorem dL_law_42 : decode cL_law 42 = .ok (.istore_n 3, 1) := by decide +kernel
theorem dL_law_43 : decode cL_law 43 = .ok (.iload_n 3, 1) := by decide +kernel
theorem dL_law_44 : decode cL_law 44 = .ok (.newarray .int, 2) := by decide +kernel
theorem dL_law_46 : decode cL_law 46 = .ok (.astore 4, 2) := by decide +kernel
theorem dL_law_48 : decode cL_law 48 = .ok (.iload_n 3, 1) := by decide +kernel
theorem dL_law_49 : decode cL_law 49 = .ok (.newarray .int, 2) := by decide +kernel
theorem dL_law_51 : decode cL_law 51 = .ok (.astore 5, 2) := by decide +kernel
theorem dL_law_53 : decode cL_law 53 = .ok (.iload_n 3, 1) := by decide +kernel
theorem dL_law_54 : decode cL_law 54 = .ok (.newarray .int, 2) := by decide +kernel
theorem dL_law_56 : decode cL_law 56 = .ok (.astore 6, 2) := by decide +kernel
theorem dL_law_58 : decode cL_law 58 = .ok (.iload_n 3, 1) := by decide +kernel
theorem dL_law_59 : decode cL_law 59 = .ok (.newarray .int, 2) := by decide +kernel
theorem dL_law_61 : decode cL_law 61 = .ok (.astore 7, 2) := by decide +kernel
theorem dL_law_63 : decode cL_law 63 = .ok (.iconst 0, 1) := by decide +kernel
theorem dL_law_64 : decode cL_law 64 = .ok (.istore 8, 2) := by decide +kernel
theorem dL_law_66 : decode cL_law 66 = .ok (.iload 8, 2) := by decide +kernel
theorem dL_law_68 : decode cL_law 68 = .ok (.iload_n 3, 1) := by decide +kernel
theorem dL_law_69 : decode cL_law 69 = .ok (.if_icmp .ge 58, 3) := by decide +kernel
theorem dL_law_72 : decode cL_law 72 = .ok (.aload 4, 2) := by decide +kernel
theorem dL_law_74 : decode cL_law 74 = .ok (.iload 8, 2) := by decide +kernel
theorem dL_law_76 : decode cL_law 76 = .ok (.aload_n 1, 1) := by decide +kernel
theorem dL_law_77 : decode cL_law 77 = .ok (.iload 8, 2) := by decide +kernel
theorem dL_law_79 : decode cL_law 79 = .ok (.iconst 2, 1) := by decide +kernel
theorem dL_law_80 : decode cL_law 80 = .ok (.invokevirtual 177, 3) := by decide +kernel
theorem dL_law_83 : decode cL_law 83 = .ok (.iastore, 1) := by decide +kernel
theorem dL_law_84 : decode cL_law 84 = .ok (.aload 5, 2) := by decide +kernel
theorem dL_law_86 : decode cL_law 86 = .ok (.iload 8, 2) := by decide +kernel
theorem dL_law_88 : decode cL_law 88 = .ok (.aload_n 1, 1) := by decide +kernel
theorem dL_law_89 : decode cL_law 89 = .ok (.iload 8, 2) := by decide +kernel
theorem dL_law_91 : decode cL_law 91 = .ok (.iconst 0, 1) := by decide +kernel
theorem dL_law_92 : decode cL_law 92 = .ok (.invokevirtual 180, 3) := by decide +kernel
theorem dL_law_95 : decode cL_law 95 = .ok (.iastore, 1) := by decide +kernel
theorem dL_law_96 : decode cL_law 96 = .ok (.aload 6, 2) := by decide +kernel
theorem dL_law_98 : decode cL_law 98 = .ok (.iload 8, 2) := by decide +kernel
theorem dL_law_100 : decode cL_law 100 = .ok (.aload_n 1, 1) := by decide +kernel
theorem dL_law_101 : decode cL_law 101 = .ok (.iload 8, 2) := by decide +kernel
theorem dL_law_103 : decode cL_law 103 = .ok (.bipush 10, 2) := by decide +kernel
theorem dL_law_105 : decode cL_law 105 = .ok (.invokevirtual 177, 3) := by decide +kernel
theorem dL_law_108 : decode cL_law 108 = .ok (.iastore, 1) := by decide +kernel
theorem dL_law_109 : decode cL_law 109 = .ok (.aload 7, 2) := by decide +kernel
theorem dL_law_111 : decode cL_law 111 = .ok (.iload 8, 2) := by decide +kernel
theorem dL_law_113 : decode cL_law 113 = .ok (.aload_n 1, 1) := by decide +kernel
theorem dL_law_114 : decode cL_law 114 = .ok (.iload 8, 2) := by decide +kernel
theorem dL_law_116 : decode cL_law 116 = .ok (.iconst 1, 1) := by decide +kernel
theorem dL_law_117 : decode cL_law 117 = .ok (.invokevirtual 177, 3) := by decide +kernel
theorem dL_law_120 : decode cL_law 120 = .ok (.iastore, 1) := by decide +kernel
theorem dL_law_121 : decode cL_law 121 = .ok (.iinc 8 1, 3) := by decide +kernel
theorem dL_law_124 : decode cL_law 124 = .ok (.goto (-58), 3) := by decide +kernel
theorem dL_law_127 : decode cL_law 127 = .ok (.aload_n 1, 1) := by decide +kernel
theorem dL_law_128 : decode cL_law 128 = .ok (.iconst 1, 1) := by decide +kernel
theorem dL_law_129 : decode cL_law 129 = .ok (.invokevirtual 115, 3) := by decide +kernel
theorem dL_law_132 : decode cL_law 132 = .ok (.istore 8, 2) := by decide +kernel
theorem dL_law_134 : decode cL_law 134 = .ok (.aload_n 0, 1) := by decide +kernel
theorem dL_law_135 : decode cL_law 135 = .ok (.iload_n 2, 1) := by decide +kernel
theorem dL_law_136 : decode cL_law 136 = .ok (.bipush 24, 2) := by decide +kernel
theorem dL_law_138 : decode cL_law 138 = .ok (.invokestatic 40, 3) := by decide +kernel
theorem dL_law_141 : decode cL_law 141 = .ok (.istore 9, 2) := by decide +kernel
theorem dL_law_143 : decode cL_law 143 = .ok (.aload_n 1, 1) := by decide +kernel
theorem dL_law_144 : decode cL_law 144 = .ok (.aload_n 0, 1) := by decide +kernel
theorem dL_law_145 : decode cL_law 145 = .ok (.iload_n 2, 1) := by decide +kernel
theorem dL_law_146 : decode cL_law 146 = .ok (.invokestatic 229, 3) := by decide +kernel
theorem dL_law_149 : decode cL_law 149 = .ok (.istore 10, 2) := by decide +kernel
theorem dL_law_151 : decode cL_law 151 = .ok (.aload_n 1, 1) := by decide +kernel
theorem dL_law_152 : decode cL_law 152 = .ok (.invokestatic 225, 3) := by decide +kernel
theorem dL_law_155 : decode cL_law 155 = .ok (.ifCond .ne 5, 3) := by decide +kernel
theorem dL_law_158 : decode cL_law 158 = .ok (.iconst 0, 1) := by decide +kernel
theorem dL_law_159 : decode cL_law 159 = .ok (.ireturn, 1) := by decide +kernel
theorem dL_law_160 : decode cL_law 160 = .ok (.iconst 0, 1) := by decide +kernel
theorem dL_law_161 : decode cL_law 161 = .ok (.istore 11, 2) := by decide +kernel
theorem dL_law_163 : decode cL_law 163 = .ok (.iconst 0, 1) := by decide +kernel
theorem dL_law_164 : decode cL_law 164 = .ok (.istore 12, 2) := by decide +kernel
theorem dL_law_166 : decode cL_law 166 = .ok (.iload 12, 2) := by decide +kernel
theorem dL_law_168 : decode cL_law 168 = .ok (.iload_n 3, 1) := by decide +kernel
theorem dL_law_169 : decode cL_law 169 = .ok (.if_icmp .ge 169, 3) := by decide +kernel
theorem dL_law_172 : decode cL_law 172 = .ok (.aload_n 1, 1) := by decide +kernel
theorem dL_law_173 : decode cL_law 173 = .ok (.iload 12, 2) := by decide +kernel
theorem dL_law_175 : decode cL_law 175 = .ok (.iconst 0, 1) := by decide +kernel
theorem dL_law_176 : decode cL_law 176 = .ok (.invokevirtual 180, 3) := by decide +kernel
theorem dL_law_179 : decode cL_law 179 = .ok (.aload 5, 2) := by decide +kernel
theorem dL_law_181 : decode cL_law 181 = .ok (.iload 12, 2) := by decide +kernel
theorem dL_law_183 : decode cL_law 183 = .ok (.iaload, 1) := by decide +kernel
theorem dL_law_184 : decode cL_law 184 = .ok (.isub, 1) := by decide +kernel
theorem dL_law_185 : decode cL_law 185 = .ok (.istore 13, 2) := by decide +kernel
theorem dL_law_187 : decode cL_law 187 = .ok (.iload 11, 2) := by decide +kernel
theorem dL_law_189 : decode cL_law 189 = .ok (.iload 13, 2) := by decide +kernel
theorem dL_law_191 : decode cL_law 191 = .ok (.iadd, 1) := by decide +kernel
theorem dL_law_192 : decode cL_law 192 = .ok (.istore 11, 2) := by decide +kernel
theorem dL_law_194 : decode cL_law 194 = .ok (.iload 13, 2) := by decide +kernel
theorem dL_law_196 : decode cL_law 196 = .ok (.ifCond .lt 65, 3) := by decide +kernel
theorem dL_law_199 : decode cL_law 199 = .ok (.iload 9, 2) := by decide +kernel
theorem dL_law_201 : decode cL_law 201 = .ok (.bipush 19, 2) := by decide +kernel
theorem dL_law_203 : decode cL_law 203 = .ok (.if_icmp .eq 21, 3) := by decide +kernel
theorem dL_law_206 : decode cL_law 206 = .ok (.aload_n 1, 1) := by decide +kernel
theorem dL_law_207 : decode cL_law 207 = .ok (.iload 12, 2) := by decide +kernel
theorem dL_law_209 : decode cL_law 209 = .ok (.iconst 2, 1) := by decide +kernel
theorem dL_law_210 : decode cL_law 210 = .ok (.invokevirtual 177, 3) := by decide +kernel
theorem dL_law_213 : decode cL_law 213 = .ok (.aload 4, 2) := by decide +kernel
theorem dL_law_215 : decode cL_law 215 = .ok (.iload 12, 2) := by decide +kernel
theorem dL_law_217 : decode cL_law 217 = .ok (.iaload, 1) := by decide +kernel
theorem dL_law_218 : decode cL_law 218 = .ok (.iload 13, 2) := by decide +kernel
theorem dL_law_220 : decode cL_law 220 = .ok (.isub, 1) := by decide +kernel
theorem dL_law_221 : decode cL_law 221 = .ok (.if_icmp .ne 40, 3) := by decide +kernel
theorem dL_law_224 : decode cL_law 224 = .ok (.iload 9, 2) := by decide +kernel
theorem dL_law_226 : decode cL_law 226 = .ok (.bipush 20, 2) := by decide +kernel
theorem dL_law_228 : decode cL_law 228 = .ok (.if_icmp .eq 35, 3) := by decide +kernel
theorem dL_law_231 : decode cL_law 231 = .ok (.aload 4, 2) := by decide +kernel
theorem dL_law_233 : decode cL_law 233 = .ok (.iload 12, 2) := by decide +kernel
theorem dL_law_235 : decode cL_law 235 = .ok (.iaload, 1) := by decide +kernel
theorem dL_law_236 : decode cL_law 236 = .ok (.ifCond .ne 27, 3) := by decide +kernel
theorem dL_law_239 : decode cL_law 239 = .ok (.iload 9, 2) := by decide +kernel
theorem dL_law_241 : decode cL_law 241 = .ok (.bipush 19, 2) := by decide +kernel
theorem dL_law_243 : decode cL_law 243 = .ok (.if_icmp .eq 20, 3) := by decide +kernel
theorem dL_law_246 : decode cL_law 246 = .ok (.aload_n 1, 1) := by decide +kernel
theorem dL_law_247 : decode cL_law 247 = .ok (.iload 12, 2) := by decide +kernel
theorem dL_law_249 : decode cL_law 249 = .ok (.iconst 1, 1) := by decide +kernel
theorem dL_law_250 : decode cL_law 250 = .ok (.invokevirtual 177, 3) := by decide +kernel
theorem dL_law_253 : decode cL_law 253 = .ok (.aload 7, 2) := by decide +kernel
theorem dL_law_255 : decode cL_law 255 = .ok (.iload 12, 2) := by decide +kernel
theorem dL_law_257 : decode cL_law 257 = .ok (.iaload, 1) := by decide +kernel
theorem dL_law_258 : decode cL_law 258 = .ok (.if_icmp .eq 5, 3) := by decide +kernel
theorem dL_law_261 : decode cL_law 261 = .ok (.iconst 0, 1) := by decide +kernel
theorem dL_law_262 : decode cL_law 262 = .ok (.ireturn, 1) := by decide +kernel
theorem dL_law_263 : decode cL_law 263 = .ok (.aload_n 1, 1) := by decide +kernel
theorem dL_law_264 : decode cL_law 264 = .ok (.iconst 1, 1) := by decide +kernel
theorem dL_law_265 : decode cL_law 265 = .ok (.invokevirtual 115, 3) := by decide +kernel
theorem dL_law_268 : decode cL_law 268 = .ok (.iload 8, 2) := by decide +kernel
theorem dL_law_270 : decode cL_law 270 = .ok (.if_icmp .ne 24, 3) := by decide +kernel
theorem dL_law_273 : decode cL_law 273 = .ok (.iload 13, 2) := by decide +kernel
theorem dL_law_275 : decode cL_law 275 = .ok (.ifCond .ne 55, 3) := by decide +kernel
theorem dL_law_278 : decode cL_law 278 = .ok (.aload_n 1, 1) := by decide +kernel
theorem dL_law_279 : decode cL_law 279 = .ok (.iload 12, 2) := by decide +kernel
theorem dL_law_281 : decode cL_law 281 = .ok (.bipush 10, 2) := by decide +kernel
theorem dL_law_283 : decode cL_law 283 = .ok (.invokevirtual 177, 3) := by decide +kernel
theorem dL_law_286 : decode cL_law 286 = .ok (.aload 6, 2) := by decide +kernel
theorem dL_law_288 : decode cL_law 288 = .ok (.iload 12, 2) := by decide +kernel
theorem dL_law_290 : decode cL_law 290 = .ok (.iaload, 1) := by decide +kernel
theorem dL_law_291 : decode cL_law 291 = .ok (.if_icmp .ne 39, 3) := by decide +kernel
theorem dL_law_294 : decode cL_law 294 = .ok (.aload_n 1, 1) := by decide +kernel
theorem dL_law_295 : decode cL_law 295 = .ok (.iconst 1, 1) := by decide +kernel
theorem dL_law_296 : decode cL_law 296 = .ok (.invokevirtual 115, 3) := by decide +kernel
theorem dL_law_299 : decode cL_law 299 = .ok (.iload 8, 2) := by decide +kernel
theorem dL_law_301 : decode cL_law 301 = .ok (.iconst 1, 1) := by decide +kernel
theorem dL_law_302 : decode cL_law 302 = .ok (.iadd, 1) := by decide +kernel
theorem dL_law_303 : decode cL_law 303 = .ok (.if_icmp .ne 29, 3) := by decide +kernel
theorem dL_law_306 : decode cL_law 306 = .ok (.aload_n 1, 1) := by decide +kernel
theorem dL_law_307 : decode cL_law 307 = .ok (.iload 12, 2) := by decide +kernel
theorem dL_law_309 : decode cL_law 309 = .ok (.bipush 10, 2) := by decide +kernel
theorem dL_law_311 : decode cL_law 311 = .ok (.invokevirtual 177, 3) := by decide +kernel
theorem dL_law_314 : decode cL_law 314 = .ok (.aload 6, 2) := by decide +kernel
theorem dL_law_316 : decode cL_law 316 = .ok (.iload 12, 2) := by decide +kernel
theorem dL_law_318 : decode cL_law 318 = .ok (.iaload, 1) := by decide +kernel
theorem dL_law_319 : decode cL_law 319 = .ok (.aload_n 1, 1) := by decide +kernel
theorem dL_law_320 : decode cL_law 320 = .ok (.iload 12, 2) := by decide +kernel
theorem dL_law_322 : decode cL_law 322 = .ok (.iconst 1, 1) := by decide +kernel
theorem dL_law_323 : decode cL_law 323 = .ok (.invokevirtual 177, 3) := by decide +kernel
theorem dL_law_326 : decode cL_law 326 = .ok (.iadd, 1) := by decide +kernel
theorem dL_law_327 : decode cL_law 327 = .ok (.if_icmp .eq 5, 3) := by decide +kernel
theorem dL_law_330 : decode cL_law 330 = .ok (.iconst 0, 1) := by decide +kernel
theorem dL_law_331 : decode cL_law 331 = .ok (.ireturn, 1) := by decide +kernel
theorem dL_law_332 : decode cL_law 332 = .ok (.iinc 12 1, 3) := by decide +kernel
theorem dL_law_335 : decode cL_law 335 = .ok (.goto (-169), 3) := by decide +kernel
theorem dL_law_338 : decode cL_law 338 = .ok (.aload_n 1, 1) := by decide +kernel
theorem dL_law_339 : decode cL_law 339 = .ok (.iconst 1, 1) := by decide +kernel
theorem dL_law_340 : decode cL_law 340 = .ok (.invokevirtual 115, 3) := by decide +kernel
theorem dL_law_343 : decode cL_law 343 = .ok (.iload 8, 2) := by decide +kernel
theorem dL_law_345 : decode cL_law 345 = .ok (.if_icmp .le 12, 3) := by decide +kernel
theorem dL_law_348 : decode cL_law 348 = .ok (.iload 10, 2) := by decide +kernel
theorem dL_law_350 : decode cL_law 350 = .ok (.iload 11, 2) := by decide +kernel
theorem dL_law_352 : decode cL_law 352 = .ok (.if_icmp .eq 5, 3) := by decide +kernel
theorem dL_law_355 : decode cL_law 355 = .ok (.iconst 0, 1) := by decide +kernel
theorem dL_law_356 : decode cL_law 356 = .ok (.ireturn, 1) := by decide +kernel
theorem dL_law_357 : decode cL_law 357 = .ok (.iinc 2 3, 3) := by decide +kernel
theorem dL_law_360 : decode cL_law 360 = .ok (.goto (-332), 3) := by decide +kernel
theorem dL_law_363 : decode cL_law 363 = .ok (.iconst 1, 1) := by decide +kernel
theorem dL_law_364 : decode cL_law 364 = .ok (.ireturn, 1) := by decide +kernel
