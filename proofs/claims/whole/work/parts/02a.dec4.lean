theorem dX9_thrown_0 : decode cX9_thrown 0 = .ok (.aload_n 0, 1) := by decide +kernel
theorem dX9_thrown_1 : decode cX9_thrown 1 = .ok (.getfield 1, 3) := by decide +kernel
theorem dX9_thrown_4 : decode cX9_thrown 4 = .ok (.ireturn, 1) := by decide +kernel
theorem dX9_feed_0 : decode cX9_feed 0 = .ok (.aload_n 0, 1) := by decide +kernel
theorem dX9_feed_1 : decode cX9_feed 1 = .ok (.iconst 0, 1) := by decide +kernel
theorem dX9_feed_2 : decode cX9_feed 2 = .ok (.putfield 1, 3) := by decide +kernel
theorem dX9_feed_5 : decode cX9_feed 5 = .ok (.aload_n 0, 1) := by decide +kernel
theorem dX9_feed_6 : decode cX9_feed 6 = .ok (.lload_n 1, 1) := by decide +kernel
theorem dX9_feed_7 : decode cX9_feed 7 = .ok (.invokevirtual 7, 3) := by decide +kernel
theorem dX9_feed_10 : decode cX9_feed 10 = .ok (.aload_n 0, 1) := by decide +kernel
theorem dX9_feed_11 : decode cX9_feed 11 = .ok (.lload_n 3, 1) := by decide +kernel
theorem dX9_feed_12 : decode cX9_feed 12 = .ok (.invokevirtual 7, 3) := by decide +kernel
theorem dX9_feed_15 : decode cX9_feed 15 = .ok (.aload_n 0, 1) := by decide +kernel
theorem dX9_feed_16 : decode cX9_feed 16 = .ok (.lload 5, 2) := by decide +kernel
theorem dX9_feed_18 : decode cX9_feed 18 = .ok (.invokevirtual 7, 3) := by decide +kernel
theorem dX9_feed_21 : decode cX9_feed 21 = .ok (.aload_n 0, 1) := by decide +kernel
theorem dX9_feed_22 : decode cX9_feed 22 = .ok (.getfield 11, 3) := by decide +kernel
theorem dX9_feed_25 : decode cX9_feed 25 = .ok (.ireturn, 1) := by decide +kernel
theorem dX9_lay_0 : decode cX9_lay 0 = .ok (.bipush 56, 2) := by decide +kernel
theorem dX9_lay_2 : decode cX9_lay 2 = .ok (.istore_n 3, 1) := by decide +kernel
theorem dX9_lay_3 : decode cX9_lay 3 = .ok (.iload_n 3, 1) := by decide +kernel
theorem dX9_lay_4 : decode cX9_lay 4 = .ok (.ifCond .lt 71, 3) := by decide +kernel
theorem dX9_lay_7 : decode cX9_lay 7 = .ok (.lload_n 1, 1) := by decide +kernel
theorem dX9_lay_8 : decode cX9_lay 8 = .ok (.iload_n 3, 1) := by decide +kernel
theorem dX9_lay_9 : decode cX9_lay 9 = .ok (.lshr, 1) := by decide +kernel
theorem dX9_lay_10 : decode cX9_lay 10 = .ok (.l2i, 1) := by decide +kernel
theorem dX9_lay_11 : decode cX9_lay 11 = .ok (.sipush 255, 3) := by decide +kernel
theorem dX9_lay_14 : decode cX9_lay 14 = .ok (.iand, 1) := by decide +kernel
theorem dX9_lay_15 : decode cX9_lay 15 = .ok (.istore 4, 2) := by decide +kernel
theorem dX9_lay_17 : decode cX9_lay 17 = .ok (.iload 4, 2) := by decide +kernel
theorem dX9_lay_19 : decode cX9_lay 19 = .ok (.bipush 10, 2) := by decide +kernel
theorem dX9_lay_21 : decode cX9_lay 21 = .ok (.if_icmp .eq 17, 3) := by decide +kernel
theorem dX9_lay_24 : decode cX9_lay 24 = .ok (.iload 4, 2) := by decide +kernel
theorem dX9_lay_26 : decode cX9_lay 26 = .ok (.bipush 32, 2) := by decide +kernel
theorem dX9_lay_28 : decode cX9_lay 28 = .ok (.if_icmp .lt 41, 3) := by decide +kernel
theorem dX9_lay_31 : decode cX9_lay 31 = .ok (.iload 4, 2) := by decide +kernel
theorem dX9_lay_33 : decode cX9_lay 33 = .ok (.bipush 126, 2) := by decide +kernel
theorem dX9_lay_35 : decode cX9_lay 35 = .ok (.if_icmp .gt 34, 3) := by decide +kernel
theorem dX9_lay_38 : decode cX9_lay 38 = .ok (.aload_n 0, 1) := by decide +kernel
theorem dX9_lay_39 : decode cX9_lay 39 = .ok (.getfield 11, 3) := by decide +kernel
theorem dX9_lay_42 : decode cX9_lay 42 = .ok (.sipush 1000, 3) := by decide +kernel
theorem dX9_lay_45 : decode cX9_lay 45 = .ok (.if_icmp .ge 24, 3) := by decide +kernel
theorem dX9_lay_48 : decode cX9_lay 48 = .ok (.aload_n 0, 1) := by decide +kernel
theorem dX9_lay_49 : decode cX9_lay 49 = .ok (.getfield 14, 3) := by decide +kernel
theorem dX9_lay_52 : decode cX9_lay 52 = .ok (.aload_n 0, 1) := by decide +kernel
theorem dX9_lay_53 : decode cX9_lay 53 = .ok (.getfield 11, 3) := by decide +kernel
theorem dX9_lay_56 : decode cX9_lay 56 = .ok (.iload 4, 2) := by decide +kernel
theorem dX9_lay_58 : decode cX9_lay 58 = .ok (.iastore, 1) := by decide +kernel
theorem dX9_lay_59 : decode cX9_lay 59 = .ok (.aload_n 0, 1) := by decide +kernel
theorem dX9_lay_60 : decode cX9_lay 60 = .ok (.dup, 1) := by decide +kernel
theorem dX9_lay_61 : decode cX9_lay 61 = .ok (.getfield 11, 3) := by decide +kernel
theorem dX9_lay_64 : decode cX9_lay 64 = .ok (.iconst 1, 1) := by decide +kernel
theorem dX9_lay_65 : decode cX9_lay 65 = .ok (.iadd, 1) := by decide +kernel
theorem dX9_lay_66 : decode cX9_lay 66 = .ok (.putfield 11, 3) := by decide +kernel
theorem dX9_lay_69 : decode cX9_lay 69 = .ok (.iinc 3 (-8), 3) := by decide +kernel
theorem dX9_lay_72 : decode cX9_lay 72 = .ok (.goto (-69), 3) := by decide +kernel
theorem dX9_lay_75 : decode cX9_lay 75 = .ok (.return_, 1) := by decide +kernel
theorem dX9_init_0 : decode cX9_init 0 = .ok (.aload_n 0, 1) := by decide +kernel
theorem dX9_init_1 : decode cX9_init 1 = .ok (.invokespecial 18, 3) := by decide +kernel
theorem dX9_init_4 : decode cX9_init 4 = .ok (.aload_n 0, 1) := by decide +kernel
theorem dX9_init_5 : decode cX9_init 5 = .ok (.sipush 1000, 3) := by decide +kernel
theorem dX9_init_8 : decode cX9_init 8 = .ok (.newarray .int, 2) := by decide +kernel
theorem dX9_init_10 : decode cX9_init 10 = .ok (.putfield 14, 3) := by decide +kernel
theorem dX9_init_13 : decode cX9_init 13 = .ok (.aload_n 0, 1) := by decide +kernel
theorem dX9_init_14 : decode cX9_init 14 = .ok (.sipush 1002, 3) := by decide +kernel
theorem dX9_init_17 : decode cX9_init 17 = .ok (.newarray .int, 2) := by decide +kernel
theorem dX9_init_19 : decode cX9_init 19 = .ok (.putfield 24, 3) := by decide +kernel
theorem dX9_init_22 : decode cX9_init 22 = .ok (.aload_n 0, 1) := by decide +kernel
theorem dX9_init_23 : decode cX9_init 23 = .ok (.sipush 1002, 3) := by decide +kernel
theorem dX9_init_26 : decode cX9_init 26 = .ok (.newarray .int, 2) := by decide +kernel
theorem dX9_init_28 : decode cX9_init 28 = .ok (.putfield 27, 3) := by decide +kernel
theorem dX9_init_31 : decode cX9_init 31 = .ok (.aload_n 0, 1) := by decide +kernel
theorem dX9_init_32 : decode cX9_init 32 = .ok (.sipush 1002, 3) := by decide +kernel
theorem dX9_init_35 : decode cX9_init 35 = .ok (.newarray .long, 2) := by decide +kernel
theorem dX9_init_37 : decode cX9_init 37 = .ok (.putfield 30, 3) := by decide +kernel
theorem dX9_init_40 : decode cX9_init 40 = .ok (.aload_n 0, 1) := by decide +kernel
theorem dX9_init_41 : decode cX9_init 41 = .ok (.bipush 18, 2) := by decide +kernel
theorem dX9_init_43 : decode cX9_init 43 = .ok (.newarray .long, 2) := by decide +kernel
theorem dX9_init_45 : decode cX9_init 45 = .ok (.dup, 1) := by decide +kernel
theorem dX9_init_46 : decode cX9_init 46 = .ok (.iconst 0, 1) := by decide +kernel
theorem dX9_init_47 : decode cX9_init 47 = .ok (.ldc2_w 34, 3) := by decide +kernel
theorem dX9_init_50 : decode cX9_init 50 = .ok (.lastore, 1) := by decide +kernel
theorem dX9_init_51 : decode cX9_init 51 = .ok (.dup, 1) := by decide +kernel
theorem dX9_init_52 : decode cX9_init 52 = .ok (.iconst 1, 1) := by decide +kernel
theorem dX9_init_53 : decode cX9_init 53 = .ok (.ldc2_w 36, 3) := by decide +kernel
theorem dX9_init_56 : decode cX9_init 56 = .ok (.lastore, 1) := by decide +kernel
theorem dX9_init_57 : decode cX9_init 57 = .ok (.dup, 1) := by decide +kernel
theorem dX9_init_58 : decode cX9_init 58 = .ok (.iconst 2, 1) := by decide +kernel
theorem dX9_init_59 : decode cX9_init 59 = .ok (.ldc2_w 38, 3) := by decide +kernel
theorem dX9_init_62 : decode cX9_init 62 = .ok (.lastore, 1) := by decide +kernel
theorem dX9_init_63 : decode cX9_init 63 = .ok (.dup, 1) := by decide +kernel
theorem dX9_init_64 : decode cX9_init 64 = .ok (.iconst 3, 1) := by decide +kernel
theorem dX9_init_65 : decode cX9_init 65 = .ok (.ldc2_w 40, 3) := by decide +kernel
theorem dX9_init_68 : decode cX9_init 68 = .ok (.lastore, 1) := by decide +kernel
theorem dX9_init_69 : decode cX9_init 69 = .ok (.dup, 1) := by decide +kernel
theorem dX9_init_70 : decode cX9_init 70 = .ok (.iconst 4, 1) := by decide +kernel
theorem dX9_init_71 : decode cX9_init 71 = .ok (.ldc2_w 42, 3) := by decide +kernel
theorem dX9_init_74 : decode cX9_init 74 = .ok (.lastore, 1) := by decide +kernel
theorem dX9_init_75 : decode cX9_init 75 = .ok (.dup, 1) := by decide +kernel
theorem dX9_init_76 : decode cX9_init 76 = .ok (.iconst 5, 1) := by decide +kernel
theorem dX9_init_77 : decode cX9_init 77 = .ok (.ldc2_w 44, 3) := by decide +kernel
theorem dX9_init_80 : decode cX9_init 80 = .ok (.lastore, 1) := by decide +kernel
theorem dX9_init_81 : decode cX9_init 81 = .ok (.dup, 1) := by decide +kernel
theorem dX9_init_82 : decode cX9_init 82 = .ok (.bipush 6, 2) := by decide +kernel
theorem dX9_init_84 : decode cX9_init 84 = .ok (.ldc2_w 46, 3) := by decide +kernel
theorem dX9_init_87 : decode cX9_init 87 = .ok (.lastore, 1) := by decide +kernel
theorem dX9_init_88 : decode cX9_init 88 = .ok (.dup, 1) := by decide +kernel
theorem dX9_init_89 : decode cX9_init 89 = .ok (.bipush 7, 2) := by decide +kernel
theorem dX9_init_91 : decode cX9_init 91 = .ok (.ldc2_w 48, 3) := by decide +kernel
theorem dX9_init_94 : decode cX9_init 94 = .ok (.lastore, 1) := by decide +kernel
theorem dX9_init_95 : decode cX9_init 95 = .ok (.dup, 1) := by decide +kernel
theorem dX9_init_96 : decode cX9_init 96 = .ok (.bipush 8, 2) := by decide +kernel
theorem dX9_init_98 : decode cX9_init 98 = .ok (.ldc2_w 50, 3) := by decide +kernel
theorem dX9_init_101 : decode cX9_init 101 = .ok (.lastore, 1) := by decide +kernel
theorem dX9_init_102 : decode cX9_init 102 = .ok (.dup, 1) := by decide +kernel
theorem dX9_init_103 : decode cX9_init 103 = .ok (.bipush 9, 2) := by decide +kernel
theorem dX9_init_105 : decode cX9_init 105 = .ok (.ldc2_w 52, 3) := by decide +kernel
theorem dX9_init_108 : decode cX9_init 108 = .ok (.lastore, 1) := by decide +kernel
theorem dX9_init_109 : decode cX9_init 109 = .ok (.dup, 1) := by decide +kernel
theorem dX9_init_110 : decode cX9_init 110 = .ok (.bipush 10, 2) := by decide +kernel
theorem dX9_init_112 : decode cX9_init 112 = .ok (.ldc2_w 54, 3) := by decide +kernel
theorem dX9_init_115 : decode cX9_init 115 = .ok (.lastore, 1) := by decide +kernel
theorem dX9_init_116 : decode cX9_init 116 = .ok (.dup, 1) := by decide +kernel
theorem dX9_init_117 : decode cX9_init 117 = .ok (.bipush 11, 2) := by decide +kernel
theorem dX9_init_119 : decode cX9_init 119 = .ok (.ldc2_w 56, 3) := by decide +kernel
theorem dX9_init_122 : decode cX9_init 122 = .ok (.lastore, 1) := by decide +kernel
theorem dX9_init_123 : decode cX9_init 123 = .ok (.dup, 1) := by decide +kernel
theorem dX9_init_124 : decode cX9_init 124 = .ok (.bipush 12, 2) := by decide +kernel
theorem dX9_init_126 : decode cX9_init 126 = .ok (.ldc2_w 58, 3) := by decide +kernel
theorem dX9_init_129 : decode cX9_init 129 = .ok (.lastore, 1) := by decide +kernel
theorem dX9_init_130 : decode cX9_init 130 = .ok (.dup, 1) := by decide +kernel
theorem dX9_init_131 : decode cX9_init 131 = .ok (.bipush 13, 2) := by decide +kernel
theorem dX9_init_133 : decode cX9_init 133 = .ok (.ldc2_w 60, 3) := by decide +kernel
theorem dX9_init_136 : decode cX9_init 136 = .ok (.lastore, 1) := by decide +kernel
theorem dX9_init_137 : decode cX9_init 137 = .ok (.dup, 1) := by decide +kernel
theorem dX9_init_138 : decode cX9_init 138 = .ok (.bipush 14, 2) := by decide +kernel
theorem dX9_init_140 : decode cX9_init 140 = .ok (.ldc2_w 62, 3) := by decide +kernel
theorem dX9_init_143 : decode cX9_init 143 = .ok (.lastore, 1) := by decide +kernel
theorem dX9_init_144 : decode cX9_init 144 = .ok (.dup, 1) := by decide +kernel
theorem dX9_init_145 : decode cX9_init 145 = .ok (.bipush 15, 2) := by decide +kernel
theorem dX9_init_147 : decode cX9_init 147 = .ok (.ldc2_w 64, 3) := by decide +kernel
theorem dX9_init_150 : decode cX9_init 150 = .ok (.lastore, 1) := by decide +kernel
theorem dX9_init_151 : decode cX9_init 151 = .ok (.dup, 1) := by decide +kernel
theorem dX9_init_152 : decode cX9_init 152 = .ok (.bipush 16, 2) := by decide +kernel
theorem dX9_init_154 : decode cX9_init 154 = .ok (.ldc2_w 66, 3) := by decide +kernel
theorem dX9_init_157 : decode cX9_init 157 = .ok (.lastore, 1) := by decide +kernel
theorem dX9_init_158 : decode cX9_init 158 = .ok (.dup, 1) := by decide +kernel
theorem dX9_init_159 : decode cX9_init 159 = .ok (.bipush 17, 2) := by decide +kernel
theorem dX9_init_161 : decode cX9_init 161 = .ok (.ldc2_w 68, 3) := by decide +kernel
theorem dX9_init_164 : decode cX9_init 164 = .ok (.lastore, 1) := by decide +kernel
theorem dX9_init_165 : decode cX9_init 165 = .ok (.putfield 70, 3) := by decide +kernel
theorem dX9_init_168 : decode cX9_init 168 = .ok (.aload_n 0, 1) := by decide +kernel
theorem dX9_init_169 : decode cX9_init 169 = .ok (.sipush 2880, 3) := by decide +kernel
theorem dX9_init_172 : decode cX9_init 172 = .ok (.newarray .int, 2) := by decide +kernel
theorem dX9_init_174 : decode cX9_init 174 = .ok (.putfield 73, 3) := by decide +kernel
theorem dX9_init_177 : decode cX9_init 177 = .ok (.aload_n 0, 1) := by decide +kernel
theorem dX9_init_178 : decode cX9_init 178 = .ok (.bipush 32, 2) := by decide +kernel
theorem dX9_init_180 : decode cX9_init 180 = .ok (.newarray .long, 2) := by decide +kernel
theorem dX9_init_182 : decode cX9_init 182 = .ok (.putfield 76, 3) := by decide +kernel
theorem dX9_init_185 : decode cX9_init 185 = .ok (.aload_n 0, 1) := by decide +kernel
theorem dX9_init_186 : decode cX9_init 186 = .ok (.bipush 32, 2) := by decide +kernel
theorem dX9_init_188 : decode cX9_init 188 = .ok (.newarray .int, 2) := by decide +kernel
theorem dX9_init_190 : decode cX9_init 190 = .ok (.putfield 79, 3) := by decide +kernel
theorem dX9_init_193 : decode cX9_init 193 = .ok (.aload_n 0, 1) := by decide +kernel
theorem dX9_init_194 : decode cX9_init 194 = .ok (.bipush 32, 2) := by decide +kernel
theorem dX9_init_196 : decode cX9_init 196 = .ok (.newarray .int, 2) := by decide +kernel
theorem dX9_init_198 : decode cX9_init 198 = .ok (.putfield 82, 3) := by decide +kernel
theorem dX9_init_201 : decode cX9_init 201 = .ok (.aload_n 0, 1) := by decide +kernel
theorem dX9_init_202 : decode cX9_init 202 = .ok (.iconst (-1), 1) := by decide +kernel
theorem dX9_init_203 : decode cX9_init 203 = .ok (.putfield 85, 3) := by decide +kernel
theorem dX9_init_206 : decode cX9_init 206 = .ok (.aload_n 0, 1) := by decide +kernel
theorem dX9_init_207 : decode cX9_init 207 = .ok (.bipush 12, 2) := by decide +kernel
theorem dX9_init_209 : decode cX9_init 209 = .ok (.newarray .int, 2) := by decide +kernel
theorem dX9_init_211 : decode cX9_init 211 = .ok (.putfield 88, 3) := by decide +kernel
theorem dX9_init_214 : decode cX9_init 214 = .ok (.aload_n 0, 1) := by decide +kernel
theorem dX9_init_215 : decode cX9_init 215 = .ok (.bipush 12, 2) := by decide +kernel
theorem dX9_init_217 : decode cX9_init 217 = .ok (.newarray .int, 2) := by decide +kernel
theorem dX9_init_219 : decode cX9_init 219 = .ok (.putfield 91, 3) := by decide +kernel
theorem dX9_init_222 : decode cX9_init 222 = .ok (.aload_n 0, 1) := by decide +kernel
theorem dX9_init_223 : decode cX9_init 223 = .ok (.bipush 12, 2) := by decide +kernel
theorem dX9_init_225 : decode cX9_init 225 = .ok (.newarray .int, 2) := by decide +kernel
theorem dX9_init_227 : decode cX9_init 227 = .ok (.putfield 94, 3) := by decide +kernel
theorem dX9_init_230 : decode cX9_init 230 = .ok (.aload_n 0, 1) := by decide +kernel
theorem dX9_init_231 : decode cX9_init 231 = .ok (.sipush 144, 3) := by decide +kernel
theorem dX9_init_234 : decode cX9_init 234 = .ok (.newarray .int, 2) := by decide +kernel
theorem dX9_init_236 : decode cX9_init 236 = .ok (.putfield 97, 3) := by decide +kernel
theorem dX9_init_239 : decode cX9_init 239 = .ok (.aload_n 0, 1) := by decide +kernel
theorem dX9_init_240 : decode cX9_init 240 = .ok (.sipush 256, 3) := by decide +kernel
theorem dX9_init_243 : decode cX9_init 243 = .ok (.newarray .int, 2) := by decide +kernel
theorem dX9_init_245 : decode cX9_init 245 = .ok (.putfield 100, 3) := by decide +kernel
theorem dX9_init_248 : decode cX9_init 248 = .ok (.aload_n 0, 1) := by decide +kernel
theorem dX9_init_249 : decode cX9_init 249 = .ok (.bipush 8, 2) := by decide +kernel
theorem dX9_init_251 : decode cX9_init 251 = .ok (.newarray .int, 2) := by decide +kernel
theorem dX9_init_253 : decode cX9_init 253 = .ok (.putfield 103, 3) := by decide +kernel
theorem dX9_init_256 : decode cX9_init 256 = .ok (.aload_n 0, 1) := by decide +kernel
theorem dX9_init_257 : decode cX9_init 257 = .ok (.bipush 8, 2) := by decide +kernel
theorem dX9_init_259 : decode cX9_init 259 = .ok (.newarray .int, 2) := by decide +kernel
theorem dX9_init_261 : decode cX9_init 261 = .ok (.putfield 106, 3) := by decide +kernel
theorem dX9_init_264 : decode cX9_init 264 = .ok (.aload_n 0, 1) := by decide +kernel
theorem dX9_init_265 : decode cX9_init 265 = .ok (.bipush 25, 2) := by decide +kernel
theorem dX9_init_267 : decode cX9_init 267 = .ok (.newarray .boolean, 2) := by decide +kernel
theorem dX9_init_269 : decode cX9_init 269 = .ok (.putfield 109, 3) := by decide +kernel
theorem dX9_init_272 : decode cX9_init 272 = .ok (.aload_n 0, 1) := by decide +kernel
theorem dX9_init_273 : decode cX9_init 273 = .ok (.bipush 25, 2) := by decide +kernel
theorem dX9_init_275 : decode cX9_init 275 = .ok (.newarray .int, 2) := by decide +kernel
theorem dX9_init_277 : decode cX9_init 277 = .ok (.putfield 113, 3) := by decide +kernel
theorem dX9_init_280 : decode cX9_init 280 = .ok (.aload_n 0, 1) := by decide +kernel
theorem dX9_init_281 : decode cX9_init 281 = .ok (.bipush 36, 2) := by decide +kernel
theorem dX9_init_283 : decode cX9_init 283 = .ok (.newarray .int, 2) := by decide +kernel
theorem dX9_init_285 : decode cX9_init 285 = .ok (.putfield 116, 3) := by decide +kernel
theorem dX9_init_288 : decode cX9_init 288 = .ok (.aload_n 0, 1) := by decide +kernel
theorem dX9_init_289 : decode cX9_init 289 = .ok (.bipush 36, 2) := by decide +kernel
theorem dX9_init_291 : decode cX9_init 291 = .ok (.newarray .int, 2) := by decide +kernel
theorem dX9_init_293 : decode cX9_init 293 = .ok (.putfield 119, 3) := by decide +kernel
theorem dX9_init_296 : decode cX9_init 296 = .ok (.aload_n 0, 1) := by decide +kernel
theorem dX9_init_297 : decode cX9_init 297 = .ok (.bipush 36, 2) := by decide +kernel
theorem dX9_init_299 : decode cX9_init 299 = .ok (.newarray .int, 2) := by decide +kernel
theorem dX9_init_301 : decode cX9_init 301 = .ok (.putfield 122, 3) := by decide +kernel
theorem dX9_init_304 : decode cX9_init 304 = .ok (.aload_n 0, 1) := by decide +kernel
theorem dX9_init_305 : decode cX9_init 305 = .ok (.iconst 4, 1) := by decide +kernel
theorem dX9_init_306 : decode cX9_init 306 = .ok (.newarray .boolean, 2) := by decide +kernel
theorem dX9_init_308 : decode cX9_init 308 = .ok (.putfield 125, 3) := by decide +kernel
theorem dX9_init_311 : decode cX9_init 311 = .ok (.aload_n 0, 1) := by decide +kernel
theorem dX9_init_312 : decode cX9_init 312 = .ok (.iconst 0, 1) := by decide +kernel
theorem dX9_init_313 : decode cX9_init 313 = .ok (.putfield 1, 3) := by decide +kernel
theorem dX9_init_316 : decode cX9_init 316 = .ok (.return_, 1) := by decide +kernel
theorem dX9_isLetter_0 : decode cX9_isLetter 0 = .ok (.iload_n 0, 1) := by decide +kernel
theorem dX9_isLetter_1 : decode cX9_isLetter 1 = .ok (.bipush 97, 2) := by decide +kernel
theorem dX9_isLetter_3 : decode cX9_isLetter 3 = .ok (.if_icmp .lt 13, 3) := by decide +kernel
theorem dX9_isLetter_6 : decode cX9_isLetter 6 = .ok (.iload_n 0, 1) := by decide +kernel
theorem dX9_isLetter_7 : decode cX9_isLetter 7 = .ok (.bipush 122, 2) := by decide +kernel
theorem dX9_isLetter_9 : decode cX9_isLetter 9 = .ok (.if_icmp .gt 7, 3) := by decide +kernel
theorem dX9_isLetter_12 : decode cX9_isLetter 12 = .ok (.iconst 1, 1) := by decide +kernel
theorem dX9_isLetter_13 : decode cX9_isLetter 13 = .ok (.goto 4, 3) := by decide +kernel
theorem dX9_isLetter_16 : decode cX9_isLetter 16 = .ok (.iconst 0, 1) := by decide +kernel
theorem dX9_isLetter_17 : decode cX9_isLetter 17 = .ok (.ireturn, 1) := by decide +kernel
theorem dX9_isDigit_0 : decode cX9_isDigit 0 = .ok (.iload_n 0, 1) := by decide +kernel
theorem dX9_isDigit_1 : decode cX9_isDigit 1 = .ok (.bipush 48, 2) := by decide +kernel
theorem dX9_isDigit_3 : decode cX9_isDigit 3 = .ok (.if_icmp .lt 13, 3) := by decide +kernel
theorem dX9_isDigit_6 : decode cX9_isDigit 6 = .ok (.iload_n 0, 1) := by decide +kernel
theorem dX9_isDigit_7 : decode cX9_isDigit 7 = .ok (.bipush 57, 2) := by decide +kernel
theorem dX9_isDigit_9 : decode cX9_isDigit 9 = .ok (.if_icmp .gt 7, 3) := by decide +kernel
theorem dX9_isDigit_12 : decode cX9_isDigit 12 = .ok (.iconst 1, 1) := by decide +kernel
theorem dX9_isDigit_13 : decode cX9_isDigit 13 = .ok (.goto 4, 3) := by decide +kernel
theorem dX9_isDigit_16 : decode cX9_isDigit 16 = .ok (.iconst 0, 1) := by decide +kernel
theorem dX9_isDigit_17 : decode cX9_isDigit 17 = .ok (.ireturn, 1) := by decide +kernel
theorem dX9_rank_0 : decode cX9_rank 0 = .ok (.iload_n 0, 1) := by decide +kernel
theorem dX9_rank_1 : decode cX9_rank 1 = .ok (.invokestatic 128, 3) := by decide +kernel
theorem dX9_rank_4 : decode cX9_rank 4 = .ok (.ifCond .eq 10, 3) := by decide +kernel
theorem dX9_rank_7 : decode cX9_rank 7 = .ok (.iload_n 0, 1) := by decide +kernel
theorem dX9_rank_8 : decode cX9_rank 8 = .ok (.bipush 96, 2) := by decide +kernel
theorem dX9_rank_10 : decode cX9_rank 10 = .ok (.isub, 1) := by decide +kernel
theorem dX9_rank_11 : decode cX9_rank 11 = .ok (.goto 7, 3) := by decide +kernel
theorem dX9_rank_14 : decode cX9_rank 14 = .ok (.iload_n 0, 1) := by decide +kernel
theorem dX9_rank_15 : decode cX9_rank 15 = .ok (.bipush 21, 2) := by decide +kernel
theorem dX9_rank_17 : decode cX9_rank 17 = .ok (.isub, 1) := by decide +kernel
theorem dX9_rank_18 : decode cX9_rank 18 = .ok (.ireturn, 1) := by decide +kernel
theorem dX9_isSignOf_0 : decode cX9_isSignOf 0 = .ok (.iload_n 0, 1) := by decide +kernel
theorem dX9_isSignOf_1 : decode cX9_isSignOf 1 = .ok (.bipush 40, 2) := by decide +kernel
theorem dX9_isSignOf_3 : decode cX9_isSignOf 3 = .ok (.if_icmp .eq 45, 3) := by decide +kernel
theorem dX9_isSignOf_6 : decode cX9_isSignOf 6 = .ok (.iload_n 0, 1) := by decide +kernel
theorem dX9_isSignOf_7 : decode cX9_isSignOf 7 = .ok (.bipush 41, 2) := by decide +kernel
theorem dX9_isSignOf_9 : decode cX9_isSignOf 9 = .ok (.if_icmp .eq 39, 3) := by decide +kernel
theorem dX9_isSignOf_12 : decode cX9_isSignOf 12 = .ok (.iload_n 0, 1) := by decide +kernel
theorem dX9_isSignOf_13 : decode cX9_isSignOf 13 = .ok (.bipush 59, 2) := by decide +kernel
theorem dX9_isSignOf_15 : decode cX9_isSignOf 15 = .ok (.if_icmp .eq 33, 3) := by decide +kernel
theorem dX9_isSignOf_18 : decode cX9_isSignOf 18 = .ok (.iload_n 0, 1) := by decide +kernel
theorem dX9_isSignOf_19 : decode cX9_isSignOf 19 = .ok (.bipush 61, 2) := by decide +kernel
theorem dX9_isSignOf_21 : decode cX9_isSignOf 21 = .ok (.if_icmp .eq 27, 3) := by decide +kernel
theorem dX9_isSignOf_24 : decode cX9_isSignOf 24 = .ok (.iload_n 0, 1) := by decide +kernel
theorem dX9_isSignOf_25 : decode cX9_isSignOf 25 = .ok (.bipush 60, 2) := by decide +kernel
theorem dX9_isSignOf_27 : decode cX9_isSignOf 27 = .ok (.if_icmp .eq 21, 3) := by decide +kernel
theorem dX9_isSignOf_30 : decode cX9_isSignOf 30 = .ok (.iload_n 0, 1) := by decide +kernel
theorem dX9_isSignOf_31 : decode cX9_isSignOf 31 = .ok (.bipush 43, 2) := by decide +kernel
theorem dX9_isSignOf_33 : decode cX9_isSignOf 33 = .ok (.if_icmp .eq 15, 3) := by decide +kernel
theorem dX9_isSignOf_36 : decode cX9_isSignOf 36 = .ok (.iload_n 0, 1) := by decide +kernel
theorem dX9_isSignOf_37 : decode cX9_isSignOf 37 = .ok (.bipush 45, 2) := by decide +kernel
theorem dX9_isSignOf_39 : decode cX9_isSignOf 39 = .ok (.if_icmp .eq 9, 3) := by decide +kernel
theorem dX9_isSignOf_42 : decode cX9_isSignOf 42 = .ok (.iload_n 0, 1) := by decide +kernel
theorem dX9_isSignOf_43 : decode cX9_isSignOf 43 = .ok (.bipush 42, 2) := by decide +kernel
theorem dX9_isSignOf_45 : decode cX9_isSignOf 45 = .ok (.if_icmp .ne 7, 3) := by decide +kernel
theorem dX9_isSignOf_48 : decode cX9_isSignOf 48 = .ok (.iconst 1, 1) := by decide +kernel
theorem dX9_isSignOf_49 : decode cX9_isSignOf 49 = .ok (.goto 4, 3) := by decide +kernel
theorem dX9_isSignOf_52 : decode cX9_isSignOf 52 = .ok (.iconst 0, 1) := by decide +kernel
theorem dX9_isSignOf_53 : decode cX9_isSignOf 53 = .ok (.ireturn, 1) := by decide +kernel
theorem dX9_cutAll_0 : decode cX9_cutAll 0 = .ok (.aload_n 0, 1) := by decide +kernel
theorem dX9_cutAll_1 : decode cX9_cutAll 1 = .ok (.aload_n 0, 1) := by decide +kernel
theorem dX9_cutAll_2 : decode cX9_cutAll 2 = .ok (.getfield 11, 3) := by decide +kernel
theorem dX9_cutAll_5 : decode cX9_cutAll 5 = .ok (.putfield 132, 3) := by decide +kernel
theorem dX9_cutAll_8 : decode cX9_cutAll 8 = .ok (.aload_n 0, 1) := by decide +kernel
theorem dX9_cutAll_9 : decode cX9_cutAll 9 = .ok (.iconst 0, 1) := by decide +kernel
theorem dX9_cutAll_10 : decode cX9_cutAll 10 = .ok (.putfield 11, 3) := by decide +kernel
theorem dX9_cutAll_13 : decode cX9_cutAll 13 = .ok (.iconst 0, 1) := by decide +kernel
theorem dX9_cutAll_14 : decode cX9_cutAll 14 = .ok (.istore_n 1, 1) := by decide +kernel
theorem dX9_cutAll_15 : decode cX9_cutAll 15 = .ok (.iconst 0, 1) := by decide +kernel
theorem dX9_cutAll_16 : decode cX9_cutAll 16 = .ok (.istore_n 2, 1) := by decide +kernel
theorem dX9_cutAll_17 : decode cX9_cutAll 17 = .ok (.iload_n 2, 1) := by decide +kernel
theorem dX9_cutAll_18 : decode cX9_cutAll 18 = .ok (.aload_n 0, 1) := by decide +kernel
theorem dX9_cutAll_19 : decode cX9_cutAll 19 = .ok (.getfield 132, 3) := by decide +kernel
theorem dX9_cutAll_22 : decode cX9_cutAll 22 = .ok (.if_icmp .ge 257, 3) := by decide +kernel
theorem dX9_cutAll_25 : decode cX9_cutAll 25 = .ok (.aload_n 0, 1) := by decide +kernel
theorem dX9_cutAll_26 : decode cX9_cutAll 26 = .ok (.getfield 14, 3) := by decide +kernel
theorem dX9_cutAll_29 : decode cX9_cutAll 29 = .ok (.iload_n 2, 1) := by decide +kernel
theorem dX9_cutAll_30 : decode cX9_cutAll 30 = .ok (.iaload, 1) := by decide +kernel
theorem dX9_cutAll_31 : decode cX9_cutAll 31 = .ok (.istore_n 3, 1) := by decide +kernel
theorem dX9_cutAll_32 : decode cX9_cutAll 32 = .ok (.iload_n 3, 1) := by decide +kernel
theorem dX9_cutAll_33 : decode cX9_cutAll 33 = .ok (.bipush 10, 2) := by decide +kernel
theorem dX9_cutAll_35 : decode cX9_cutAll 35 = .ok (.if_icmp .eq 9, 3) := by decide +kernel
theorem dX9_cutAll_38 : decode cX9_cutAll 38 = .ok (.iload_n 3, 1) := by decide +kernel
theorem dX9_cutAll_39 : decode cX9_cutAll 39 = .ok (.bipush 32, 2) := by decide +kernel
theorem dX9_cutAll_41 : decode cX9_cutAll 41 = .ok (.if_icmp .ne 9, 3) := by decide +kernel
theorem dX9_cutAll_44 : decode cX9_cutAll 44 = .ok (.iinc 2 1, 3) := by decide +kernel
theorem dX9_cutAll_47 : decode cX9_cutAll 47 = .ok (.goto (-30), 3) := by decide +kernel
theorem dX9_cutAll_50 : decode cX9_cutAll 50 = .ok (.iload_n 2, 1) := by decide +kernel
theorem dX9_cutAll_51 : decode cX9_cutAll 51 = .ok (.istore 4, 2) := by decide +kernel
theorem dX9_cutAll_53 : decode cX9_cutAll 53 = .ok (.lconst 0, 1) := by decide +kernel
theorem dX9_cutAll_54 : decode cX9_cutAll 54 = .ok (.lstore 5, 2) := by decide +kernel
theorem dX9_cutAll_56 : decode cX9_cutAll 56 = .ok (.aload_n 0, 1) := by decide +kernel
theorem dX9_cutAll_57 : decode cX9_cutAll 57 = .ok (.getfield 27, 3) := by decide +kernel
theorem dX9_cutAll_60 : decode cX9_cutAll 60 = .ok (.iload_n 1, 1) := by decide +kernel
theorem dX9_cutAll_61 : decode cX9_cutAll 61 = .ok (.iload_n 2, 1) := by decide +kernel
theorem dX9_cutAll_62 : decode cX9_cutAll 62 = .ok (.iastore, 1) := by decide +kernel
theorem dX9_cutAll_63 : decode cX9_cutAll 63 = .ok (.iload_n 3, 1) := by decide +kernel
theorem dX9_cutAll_64 : decode cX9_cutAll 64 = .ok (.invokestatic 128, 3) := by decide +kernel
theorem dX9_cutAll_67 : decode cX9_cutAll 67 = .ok (.ifCond .eq 85, 3) := by decide +kernel
theorem dX9_cutAll_70 : decode cX9_cutAll 70 = .ok (.iload_n 2, 1) := by decide +kernel
theorem dX9_cutAll_71 : decode cX9_cutAll 71 = .ok (.aload_n 0, 1) := by decide +kernel
theorem dX9_cutAll_72 : decode cX9_cutAll 72 = .ok (.getfield 132, 3) := by decide +kernel
theorem dX9_cutAll_75 : decode cX9_cutAll 75 = .ok (.if_icmp .ge 54, 3) := by decide +kernel
theorem dX9_cutAll_78 : decode cX9_cutAll 78 = .ok (.aload_n 0, 1) := by decide +kernel
theorem dX9_cutAll_79 : decode cX9_cutAll 79 = .ok (.getfield 14, 3) := by decide +kernel
theorem dX9_cutAll_82 : decode cX9_cutAll 82 = .ok (.iload_n 2, 1) := by decide +kernel
theorem dX9_cutAll_83 : decode cX9_cutAll 83 = .ok (.iaload, 1) := by decide +kernel
theorem dX9_cutAll_84 : decode cX9_cutAll 84 = .ok (.invokestatic 128, 3) := by decide +kernel
theorem dX9_cutAll_87 : decode cX9_cutAll 87 = .ok (.ifCond .eq 42, 3) := by decide +kernel
theorem dX9_cutAll_90 : decode cX9_cutAll 90 = .ok (.iload_n 2, 1) := by decide +kernel
theorem dX9_cutAll_91 : decode cX9_cutAll 91 = .ok (.iload 4, 2) := by decide +kernel
theorem dX9_cutAll_93 : decode cX9_cutAll 93 = .ok (.isub, 1) := by decide +kernel
theorem dX9_cutAll_94 : decode cX9_cutAll 94 = .ok (.bipush 8, 2) := by decide +kernel
theorem dX9_cutAll_96 : decode cX9_cutAll 96 = .ok (.if_icmp .ge 23, 3) := by decide +kernel
theorem dX9_cutAll_99 : decode cX9_cutAll 99 = .ok (.ldc2_w 135, 3) := by decide +kernel
theorem dX9_cutAll_102 : decode cX9_cutAll 102 = .ok (.lload 5, 2) := by decide +kernel
theorem dX9_cutAll_104 : decode cX9_cutAll 104 = .ok (.lmul, 1) := by decide +kernel
theorem dX9_cutAll_105 : decode cX9_cutAll 105 = .ok (.aload_n 0, 1) := by decide +kernel
theorem dX9_cutAll_106 : decode cX9_cutAll 106 = .ok (.getfield 14, 3) := by decide +kernel
theorem dX9_cutAll_109 : decode cX9_cutAll 109 = .ok (.iload_n 2, 1) := by decide +kernel
theorem dX9_cutAll_110 : decode cX9_cutAll 110 = .ok (.iaload, 1) := by decide +kernel
theorem dX9_cutAll_111 : decode cX9_cutAll 111 = .ok (.invokestatic 137, 3) := by decide +kernel
theorem dX9_cutAll_114 : decode cX9_cutAll 114 = .ok (.i2l, 1) := by decide +kernel
theorem dX9_cutAll_115 : decode cX9_cutAll 115 = .ok (.ladd, 1) := by decide +kernel
theorem dX9_cutAll_116 : decode cX9_cutAll 116 = .ok (.goto 5, 3) := by decide +kernel
theorem dX9_cutAll_119 : decode cX9_cutAll 119 = .ok (.lload 5, 2) := by decide +kernel
theorem dX9_cutAll_121 : decode cX9_cutAll 121 = .ok (.lstore 5, 2) := by decide +kernel
theorem dX9_cutAll_123 : decode cX9_cutAll 123 = .ok (.iinc 2 1, 3) := by decide +kernel
theorem dX9_cutAll_126 : decode cX9_cutAll 126 = .ok (.goto (-56), 3) := by decide +kernel
theorem dX9_cutAll_129 : decode cX9_cutAll 129 = .ok (.aload_n 0, 1) := by decide +kernel
theorem dX9_cutAll_130 : decode cX9_cutAll 130 = .ok (.getfield 24, 3) := by decide +kernel
theorem dX9_cutAll_133 : decode cX9_cutAll 133 = .ok (.iload_n 1, 1) := by decide +kernel
theorem dX9_cutAll_134 : decode cX9_cutAll 134 = .ok (.iload_n 2, 1) := by decide +kernel
theorem dX9_cutAll_135 : decode cX9_cutAll 135 = .ok (.iload 4, 2) := by decide +kernel
theorem dX9_cutAll_137 : decode cX9_cutAll 137 = .ok (.isub, 1) := by decide +kernel
theorem dX9_cutAll_138 : decode cX9_cutAll 138 = .ok (.bipush 8, 2) := by decide +kernel
theorem dX9_cutAll_140 : decode cX9_cutAll 140 = .ok (.if_icmp .le 7, 3) := by decide +kernel
theorem dX9_cutAll_143 : decode cX9_cutAll 143 = .ok (.iconst 4, 1) := by decide +kernel
theorem dX9_cutAll_144 : decode cX9_cutAll 144 = .ok (.goto 4, 3) := by decide +kernel
theorem dX9_cutAll_147 : decode cX9_cutAll 147 = .ok (.iconst 1, 1) := by decide +kernel
theorem dX9_cutAll_148 : decode cX9_cutAll 148 = .ok (.iastore, 1) := by decide +kernel
theorem dX9_cutAll_149 : decode cX9_cutAll 149 = .ok (.goto 116, 3) := by decide +kernel
theorem dX9_cutAll_152 : decode cX9_cutAll 152 = .ok (.iload_n 3, 1) := by decide +kernel
theorem dX9_cutAll_153 : decode cX9_cutAll 153 = .ok (.invokestatic 141, 3) := by decide +kernel
theorem dX9_cutAll_156 : decode cX9_cutAll 156 = .ok (.ifCond .eq 84, 3) := by decide +kernel
theorem dX9_cutAll_159 : decode cX9_cutAll 159 = .ok (.iload_n 2, 1) := by decide +kernel
theorem dX9_cutAll_160 : decode cX9_cutAll 160 = .ok (.aload_n 0, 1) := by decide +kernel
theorem dX9_cutAll_161 : decode cX9_cutAll 161 = .ok (.getfield 132, 3) := by decide +kernel
theorem dX9_cutAll_164 : decode cX9_cutAll 164 = .ok (.if_icmp .ge 54, 3) := by decide +kernel
theorem dX9_cutAll_167 : decode cX9_cutAll 167 = .ok (.aload_n 0, 1) := by decide +kernel
theorem dX9_cutAll_168 : decode cX9_cutAll 168 = .ok (.getfield 14, 3) := by decide +kernel
theorem dX9_cutAll_171 : decode cX9_cutAll 171 = .ok (.iload_n 2, 1) := by decide +kernel
theorem dX9_cutAll_172 : decode cX9_cutAll 172 = .ok (.iaload, 1) := by decide +kernel
theorem dX9_cutAll_173 : decode cX9_cutAll 173 = .ok (.invokestatic 141, 3) := by decide +kernel
theorem dX9_cutAll_176 : decode cX9_cutAll 176 = .ok (.ifCond .eq 42, 3) := by decide +kernel
theorem dX9_cutAll_179 : decode cX9_cutAll 179 = .ok (.iload_n 2, 1) := by decide +kernel
theorem dX9_cutAll_180 : decode cX9_cutAll 180 = .ok (.iload 4, 2) := by decide +kernel
theorem dX9_cutAll_182 : decode cX9_cutAll 182 = .ok (.isub, 1) := by decide +kernel
theorem dX9_cutAll_183 : decode cX9_cutAll 183 = .ok (.iconst 4, 1) := by decide +kernel
theorem dX9_cutAll_184 : decode cX9_cutAll 184 = .ok (.if_icmp .ge 24, 3) := by decide +kernel
theorem dX9_cutAll_187 : decode cX9_cutAll 187 = .ok (.ldc2_w 144, 3) := by decide +kernel
theorem dX9_cutAll_190 : decode cX9_cutAll 190 = .ok (.lload 5, 2) := by decide +kernel
theorem dX9_cutAll_192 : decode cX9_cutAll 192 = .ok (.lmul, 1) := by decide +kernel
theorem dX9_cutAll_193 : decode cX9_cutAll 193 = .ok (.aload_n 0, 1) := by decide +kernel
theorem dX9_cutAll_194 : decode cX9_cutAll 194 = .ok (.getfield 14, 3) := by decide +kernel
theorem dX9_cutAll_197 : decode cX9_cutAll 197 = .ok (.iload_n 2, 1) := by decide +kernel
theorem dX9_cutAll_198 : decode cX9_cutAll 198 = .ok (.iaload, 1) := by decide +kernel
theorem dX9_cutAll_199 : decode cX9_cutAll 199 = .ok (.i2l, 1) := by decide +kernel
theorem dX9_cutAll_200 : decode cX9_cutAll 200 = .ok (.ladd, 1) := by decide +kernel
theorem dX9_cutAll_201 : decode cX9_cutAll 201 = .ok (.ldc2_w 146, 3) := by decide +kernel
theorem dX9_cutAll_204 : decode cX9_cutAll 204 = .ok (.lsub, 1) := by decide +kernel
theorem dX9_cutAll_205 : decode cX9_cutAll 205 = .ok (.goto 5, 3) := by decide +kernel
theorem dX9_cutAll_208 : decode cX9_cutAll 208 = .ok (.lload 5, 2) := by decide +kernel
theorem dX9_cutAll_210 : decode cX9_cutAll 210 = .ok (.lstore 5, 2) := by decide +kernel
theorem dX9_cutAll_212 : decode cX9_cutAll 212 = .ok (.iinc 2 1, 3) := by decide +kernel
theorem dX9_cutAll_215 : decode cX9_cutAll 215 = .ok (.goto (-56), 3) := by decide +kernel
theorem dX9_cutAll_218 : decode cX9_cutAll 218 = .ok (.aload_n 0, 1) := by decide +kernel
theorem dX9_cutAll_219 : decode cX9_cutAll 219 = .ok (.getfield 24, 3) := by decide +kernel
theorem dX9_cutAll_222 : decode cX9_cutAll 222 = .ok (.iload_n 1, 1) := by decide +kernel
theorem dX9_cutAll_223 : decode cX9_cutAll 223 = .ok (.iload_n 2, 1) := by decide +kernel
theorem dX9_cutAll_224 : decode cX9_cutAll 224 = .ok (.iload 4, 2) := by decide +kernel
theorem dX9_cutAll_226 : decode cX9_cutAll 226 = .ok (.isub, 1) := by decide +kernel
theorem dX9_cutAll_227 : decode cX9_cutAll 227 = .ok (.iconst 4, 1) := by decide +kernel
theorem dX9_cutAll_228 : decode cX9_cutAll 228 = .ok (.if_icmp .le 7, 3) := by decide +kernel
theorem dX9_cutAll_231 : decode cX9_cutAll 231 = .ok (.iconst 4, 1) := by decide +kernel
theorem dX9_cutAll_232 : decode cX9_cutAll 232 = .ok (.goto 4, 3) := by decide +kernel
theorem dX9_cutAll_235 : decode cX9_cutAll 235 = .ok (.iconst 2, 1) := by decide +kernel
theorem dX9_cutAll_236 : decode cX9_cutAll 236 = .ok (.iastore, 1) := by decide +kernel
theorem dX9_cutAll_237 : decode cX9_cutAll 237 = .ok (.goto 28, 3) := by decide +kernel
theorem dX9_cutAll_240 : decode cX9_cutAll 240 = .ok (.iload_n 3, 1) := by decide +kernel
theorem dX9_cutAll_241 : decode cX9_cutAll 241 = .ok (.i2l, 1) := by decide +kernel
theorem dX9_cutAll_242 : decode cX9_cutAll 242 = .ok (.lstore 5, 2) := by decide +kernel
theorem dX9_cutAll_244 : decode cX9_cutAll 244 = .ok (.aload_n 0, 1) := by decide +kernel
theorem dX9_cutAll_245 : decode cX9_cutAll 245 = .ok (.getfield 24, 3) := by decide +kernel
theorem dX9_cutAll_248 : decode cX9_cutAll 248 = .ok (.iload_n 1, 1) := by decide +kernel
theorem dX9_cutAll_249 : decode cX9_cutAll 249 = .ok (.iload_n 3, 1) := by decide +kernel
theorem dX9_cutAll_250 : decode cX9_cutAll 250 = .ok (.invokestatic 148, 3) := by decide +kernel
theorem dX9_cutAll_253 : decode cX9_cutAll 253 = .ok (.ifCond .eq 7, 3) := by decide +kernel
theorem dX9_cutAll_256 : decode cX9_cutAll 256 = .ok (.iconst 3, 1) := by decide +kernel
theorem dX9_cutAll_257 : decode cX9_cutAll 257 = .ok (.goto 4, 3) := by decide +kernel
theorem dX9_cutAll_260 : decode cX9_cutAll 260 = .ok (.iconst 4, 1) := by decide +kernel
theorem dX9_cutAll_261 : decode cX9_cutAll 261 = .ok (.iastore, 1) := by decide +kernel
theorem dX9_cutAll_262 : decode cX9_cutAll 262 = .ok (.iinc 2 1, 3) := by decide +kernel
theorem dX9_cutAll_265 : decode cX9_cutAll 265 = .ok (.aload_n 0, 1) := by decide +kernel
theorem dX9_cutAll_266 : decode cX9_cutAll 266 = .ok (.getfield 30, 3) := by decide +kernel
theorem dX9_cutAll_269 : decode cX9_cutAll 269 = .ok (.iload_n 1, 1) := by decide +kernel
theorem dX9_cutAll_270 : decode cX9_cutAll 270 = .ok (.lload 5, 2) := by decide +kernel
theorem dX9_cutAll_272 : decode cX9_cutAll 272 = .ok (.lastore, 1) := by decide +kernel
theorem dX9_cutAll_273 : decode cX9_cutAll 273 = .ok (.iinc 1 1, 3) := by decide +kernel
theorem dX9_cutAll_276 : decode cX9_cutAll 276 = .ok (.goto (-259), 3) := by decide +kernel
theorem dX9_cutAll_279 : decode cX9_cutAll 279 = .ok (.aload_n 0, 1) := by decide +kernel
theorem dX9_cutAll_280 : decode cX9_cutAll 280 = .ok (.getfield 24, 3) := by decide +kernel
theorem dX9_cutAll_283 : decode cX9_cutAll 283 = .ok (.iload_n 1, 1) := by decide +kernel
theorem dX9_cutAll_284 : decode cX9_cutAll 284 = .ok (.iconst 0, 1) := by decide +kernel
theorem dX9_cutAll_285 : decode cX9_cutAll 285 = .ok (.iastore, 1) := by decide +kernel
theorem dX9_cutAll_286 : decode cX9_cutAll 286 = .ok (.aload_n 0, 1) := by decide +kernel
theorem dX9_cutAll_287 : decode cX9_cutAll 287 = .ok (.getfield 27, 3) := by decide +kernel
theorem dX9_cutAll_290 : decode cX9_cutAll 290 = .ok (.iload_n 1, 1) := by decide +kernel
theorem dX9_cutAll_291 : decode cX9_cutAll 291 = .ok (.aload_n 0, 1) := by decide +kernel
theorem dX9_cutAll_292 : decode cX9_cutAll 292 = .ok (.getfield 132, 3) := by decide +kernel
theorem dX9_cutAll_295 : decode cX9_cutAll 295 = .ok (.iastore, 1) := by decide +kernel
theorem dX9_cutAll_296 : decode cX9_cutAll 296 = .ok (.aload_n 0, 1) := by decide +kernel
theorem dX9_cutAll_297 : decode cX9_cutAll 297 = .ok (.iconst 0, 1) := by decide +kernel
theorem dX9_cutAll_298 : decode cX9_cutAll 298 = .ok (.putfield 151, 3) := by decide +kernel
theorem dX9_cutAll_301 : decode cX9_cutAll 301 = .ok (.aload_n 0, 1) := by decide +kernel
theorem dX9_cutAll_302 : decode cX9_cutAll 302 = .ok (.iconst 0, 1) := by decide +kernel
theorem dX9_cutAll_303 : decode cX9_cutAll 303 = .ok (.putfield 154, 3) := by decide +kernel
theorem dX9_cutAll_306 : decode cX9_cutAll 306 = .ok (.return_, 1) := by decide +kernel
theorem dX9_wrong_0 : decode cX9_wrong 0 = .ok (.aload_n 0, 1) := by decide +kernel
theorem dX9_wrong_1 : decode cX9_wrong 1 = .ok (.getfield 154, 3) := by decide +kernel
theorem dX9_wrong_4 : decode cX9_wrong 4 = .ok (.ifCond .ne 21, 3) := by decide +kernel
theorem dX9_wrong_7 : decode cX9_wrong 7 = .ok (.aload_n 0, 1) := by decide +kernel
theorem dX9_wrong_8 : decode cX9_wrong 8 = .ok (.iload_n 1, 1) := by decide +kernel
theorem dX9_wrong_9 : decode cX9_wrong 9 = .ok (.bipush 16, 2) := by decide +kernel
theorem dX9_wrong_11 : decode cX9_wrong 11 = .ok (.aload_n 0, 1) := by decide +kernel
theorem dX9_wrong_12 : decode cX9_wrong 12 = .ok (.getfield 27, 3) := by decide +kernel
theorem dX9_wrong_15 : decode cX9_wrong 15 = .ok (.aload_n 0, 1) := by decide +kernel
theorem dX9_wrong_16 : decode cX9_wrong 16 = .ok (.getfield 151, 3) := by decide +kernel
theorem dX9_wrong_19 : decode cX9_wrong 19 = .ok (.iaload, 1) := by decide +kernel
theorem dX9_wrong_20 : decode cX9_wrong 20 = .ok (.imul, 1) := by decide +kernel
theorem dX9_wrong_21 : decode cX9_wrong 21 = .ok (.iadd, 1) := by decide +kernel
theorem dX9_wrong_22 : decode cX9_wrong 22 = .ok (.putfield 154, 3) := by decide +kernel
theorem dX9_wrong_25 : decode cX9_wrong 25 = .ok (.return_, 1) := by decide +kernel
theorem dX9_isSign_0 : decode cX9_isSign 0 = .ok (.aload_n 0, 1) := by decide +kernel
theorem dX9_isSign_1 : decode cX9_isSign 1 = .ok (.getfield 154, 3) := by decide +kernel
theorem dX9_isSign_4 : decode cX9_isSign 4 = .ok (.ifCond .ne 35, 3) := by decide +kernel
theorem dX9_isSign_7 : decode cX9_isSign 7 = .ok (.aload_n 0, 1) := by decide +kernel
theorem dX9_isSign_8 : decode cX9_isSign 8 = .ok (.getfield 24, 3) := by decide +kernel
theorem dX9_isSign_11 : decode cX9_isSign 11 = .ok (.aload_n 0, 1) := by decide +kernel
theorem dX9_isSign_12 : decode cX9_isSign 12 = .ok (.getfield 151, 3) := by decide +kernel
theorem dX9_isSign_15 : decode cX9_isSign 15 = .ok (.iaload, 1) := by decide +kernel
theorem dX9_isSign_16 : decode cX9_isSign 16 = .ok (.iconst 3, 1) := by decide +kernel
theorem dX9_isSign_17 : decode cX9_isSign 17 = .ok (.if_icmp .ne 22, 3) := by decide +kernel
theorem dX9_isSign_20 : decode cX9_isSign 20 = .ok (.aload_n 0, 1) := by decide +kernel
theorem dX9_isSign_21 : decode cX9_isSign 21 = .ok (.getfield 30, 3) := by decide +kernel
theorem dX9_isSign_24 : decode cX9_isSign 24 = .ok (.aload_n 0, 1) := by decide +kernel
theorem dX9_isSign_25 : decode cX9_isSign 25 = .ok (.getfield 151, 3) := by decide +kernel
theorem dX9_isSign_28 : decode cX9_isSign 28 = .ok (.laload, 1) := by decide +kernel
theorem dX9_isSign_29 : decode cX9_isSign 29 = .ok (.iload_n 1, 1) := by decide +kernel
theorem dX9_isSign_30 : decode cX9_isSign 30 = .ok (.i2l, 1) := by decide +kernel
theorem dX9_isSign_31 : decode cX9_isSign 31 = .ok (.lcmp, 1) := by decide +kernel
theorem dX9_isSign_32 : decode cX9_isSign 32 = .ok (.ifCond .ne 7, 3) := by decide +kernel
theorem dX9_isSign_35 : decode cX9_isSign 35 = .ok (.iconst 1, 1) := by decide +kernel
theorem dX9_isSign_36 : decode cX9_isSign 36 = .ok (.goto 4, 3) := by decide +kernel
theorem dX9_isSign_39 : decode cX9_isSign 39 = .ok (.iconst 0, 1) := by decide +kernel
theorem dX9_isSign_40 : decode cX9_isSign 40 = .ok (.ireturn, 1) := by decide +kernel
theorem dX9_isWord_0 : decode cX9_isWord 0 = .ok (.aload_n 0, 1) := by decide +kernel
theorem dX9_isWord_1 : decode cX9_isWord 1 = .ok (.getfield 154, 3) := by decide +kernel
theorem dX9_isWord_4 : decode cX9_isWord 4 = .ok (.ifCond .ne 39, 3) := by decide +kernel
theorem dX9_isWord_7 : decode cX9_isWord 7 = .ok (.aload_n 0, 1) := by decide +kernel
theorem dX9_isWord_8 : decode cX9_isWord 8 = .ok (.getfield 24, 3) := by decide +kernel
theorem dX9_isWord_11 : decode cX9_isWord 11 = .ok (.aload_n 0, 1) := by decide +kernel
theorem dX9_isWord_12 : decode cX9_isWord 12 = .ok (.getfield 151, 3) := by decide +kernel
theorem dX9_isWord_15 : decode cX9_isWord 15 = .ok (.iaload, 1) := by decide +kernel
theorem dX9_isWord_16 : decode cX9_isWord 16 = .ok (.iconst 1, 1) := by decide +kernel
theorem dX9_isWord_17 : decode cX9_isWord 17 = .ok (.if_icmp .ne 26, 3) := by decide +kernel
theorem dX9_isWord_20 : decode cX9_isWord 20 = .ok (.aload_n 0, 1) := by decide +kernel
theorem dX9_isWord_21 : decode cX9_isWord 21 = .ok (.getfield 30, 3) := by decide +kernel
theorem dX9_isWord_24 : decode cX9_isWord 24 = .ok (.aload_n 0, 1) := by decide +kernel
theorem dX9_isWord_25 : decode cX9_isWord 25 = .ok (.getfield 151, 3) := by decide +kernel
theorem dX9_isWord_28 : decode cX9_isWord 28 = .ok (.laload, 1) := by decide +kernel
theorem dX9_isWord_29 : decode cX9_isWord 29 = .ok (.aload_n 0, 1) := by decide +kernel
theorem dX9_isWord_30 : decode cX9_isWord 30 = .ok (.getfield 70, 3) := by decide +kernel
theorem dX9_isWord_33 : decode cX9_isWord 33 = .ok (.iload_n 1, 1) := by decide +kernel
theorem dX9_isWord_34 : decode cX9_isWord 34 = .ok (.laload, 1) := by decide +kernel
theorem dX9_isWord_35 : decode cX9_isWord 35 = .ok (.lcmp, 1) := by decide +kernel
theorem dX9_isWord_36 : decode cX9_isWord 36 = .ok (.ifCond .ne 7, 3) := by decide +kernel
theorem dX9_isWord_39 : decode cX9_isWord 39 = .ok (.iconst 1, 1) := by decide +kernel
theorem dX9_isWord_40 : decode cX9_isWord 40 = .ok (.goto 4, 3) := by decide +kernel
theorem dX9_isWord_43 : decode cX9_isWord 43 = .ok (.iconst 0, 1) := by decide +kernel
theorem dX9_isWord_44 : decode cX9_isWord 44 = .ok (.ireturn, 1) := by decide +kernel
theorem dX9_takeSign_0 : decode cX9_takeSign 0 = .ok (.aload_n 0, 1) := by decide +kernel
theorem dX9_takeSign_1 : decode cX9_takeSign 1 = .ok (.iload_n 1, 1) := by decide +kernel
theorem dX9_takeSign_2 : decode cX9_takeSign 2 = .ok (.invokevirtual 157, 3) := by decide +kernel
theorem dX9_takeSign_5 : decode cX9_takeSign 5 = .ok (.ifCond .eq 16, 3) := by decide +kernel
theorem dX9_takeSign_8 : decode cX9_takeSign 8 = .ok (.aload_n 0, 1) := by decide +kernel
theorem dX9_takeSign_9 : decode cX9_takeSign 9 = .ok (.dup, 1) := by decide +kernel
theorem dX9_takeSign_10 : decode cX9_takeSign 10 = .ok (.getfield 151, 3) := by decide +kernel
theorem dX9_takeSign_13 : decode cX9_takeSign 13 = .ok (.iconst 1, 1) := by decide +kernel
theorem dX9_takeSign_14 : decode cX9_takeSign 14 = .ok (.iadd, 1) := by decide +kernel
theorem dX9_takeSign_15 : decode cX9_takeSign 15 = .ok (.putfield 151, 3) := by decide +kernel
theorem dX9_takeSign_18 : decode cX9_takeSign 18 = .ok (.goto 8, 3) := by decide +kernel
theorem dX9_takeSign_21 : decode cX9_takeSign 21 = .ok (.aload_n 0, 1) := by decide +kernel
theorem dX9_takeSign_22 : decode cX9_takeSign 22 = .ok (.iconst 1, 1) := by decide +kernel
theorem dX9_takeSign_23 : decode cX9_takeSign 23 = .ok (.invokevirtual 160, 3) := by decide +kernel
theorem dX9_takeSign_26 : decode cX9_takeSign 26 = .ok (.return_, 1) := by decide +kernel
theorem dX9_hasWord_0 : decode cX9_hasWord 0 = .ok (.aload_n 0, 1) := by decide +kernel
theorem dX9_hasWord_1 : decode cX9_hasWord 1 = .ok (.iload_n 1, 1) := by decide +kernel
theorem dX9_hasWord_2 : decode cX9_hasWord 2 = .ok (.invokevirtual 164, 3) := by decide +kernel
theorem dX9_hasWord_5 : decode cX9_hasWord 5 = .ok (.istore_n 2, 1) := by decide +kernel
theorem dX9_hasWord_6 : decode cX9_hasWord 6 = .ok (.aload_n 0, 1) := by decide +kernel
theorem dX9_hasWord_7 : decode cX9_hasWord 7 = .ok (.dup, 1) := by decide +kernel
theorem dX9_hasWord_8 : decode cX9_hasWord 8 = .ok (.getfield 151, 3) := by decide +kernel
theorem dX9_hasWord_11 : decode cX9_hasWord 11 = .ok (.iload_n 2, 1) := by decide +kernel
theorem dX9_hasWord_12 : decode cX9_hasWord 12 = .ok (.ifCond .eq 7, 3) := by decide +kernel
theorem dX9_hasWord_15 : decode cX9_hasWord 15 = .ok (.iconst 1, 1) := by decide +kernel
theorem dX9_hasWord_16 : decode cX9_hasWord 16 = .ok (.goto 4, 3) := by decide +kernel
theorem dX9_hasWord_19 : decode cX9_hasWord 19 = .ok (.iconst 0, 1) := by decide +kernel
theorem dX9_hasWord_20 : decode cX9_hasWord 20 = .ok (.iadd, 1) := by decide +kernel
theorem dX9_hasWord_21 : decode cX9_hasWord 21 = .ok (.putfield 151, 3) := by decide +kernel
theorem dX9_hasWord_24 : decode cX9_hasWord 24 = .ok (.iload_n 2, 1) := by decide +kernel
theorem dX9_hasWord_25 : decode cX9_hasWord 25 = .ok (.ireturn, 1) := by decide +kernel
theorem dX9_takeWord_0 : decode cX9_takeWord 0 = .ok (.aload_n 0, 1) := by decide +kernel
theorem dX9_takeWord_1 : decode cX9_takeWord 1 = .ok (.iload_n 1, 1) := by decide +kernel
theorem dX9_takeWord_2 : decode cX9_takeWord 2 = .ok (.invokevirtual 167, 3) := by decide +kernel
theorem dX9_takeWord_5 : decode cX9_takeWord 5 = .ok (.ifCond .ne 8, 3) := by decide +kernel
theorem dX9_takeWord_8 : decode cX9_takeWord 8 = .ok (.aload_n 0, 1) := by decide +kernel
theorem dX9_takeWord_9 : decode cX9_takeWord 9 = .ok (.iconst 1, 1) := by decide +kernel
theorem dX9_takeWord_10 : decode cX9_takeWord 10 = .ok (.invokevirtual 160, 3) := by decide +kernel
theorem dX9_takeWord_13 : decode cX9_takeWord 13 = .ok (.return_, 1) := by decide +kernel
theorem dX9_isIn_0 : decode cX9_isIn 0 = .ok (.iload_n 0, 1) := by decide +kernel
theorem dX9_isIn_1 : decode cX9_isIn 1 = .ok (.iload_n 1, 1) := by decide +kernel
theorem dX9_isIn_2 : decode cX9_isIn 2 = .ok (.if_icmp .lt 12, 3) := by decide +kernel
theorem dX9_isIn_5 : decode cX9_isIn 5 = .ok (.iload_n 0, 1) := by decide +kernel
theorem dX9_isIn_6 : decode cX9_isIn 6 = .ok (.iload_n 2, 1) := by decide +kernel
theorem dX9_isIn_7 : decode cX9_isIn 7 = .ok (.if_icmp .gt 7, 3) := by decide +kernel
theorem dX9_isIn_10 : decode cX9_isIn 10 = .ok (.iconst 1, 1) := by decide +kernel
theorem dX9_isIn_11 : decode cX9_isIn 11 = .ok (.goto 4, 3) := by decide +kernel
theorem dX9_isIn_14 : decode cX9_isIn 14 = .ok (.iconst 0, 1) := by decide +kernel
theorem dX9_isIn_15 : decode cX9_isIn 15 = .ok (.ireturn, 1) := by decide +kernel
theorem dX9_takeNumber_0 : decode cX9_takeNumber 0 = .ok (.aload_n 0, 1) := by decide +kernel
theorem dX9_takeNumber_1 : decode cX9_takeNumber 1 = .ok (.getfield 154, 3) := by decide +kernel
theorem dX9_takeNumber_4 : decode cX9_takeNumber 4 = .ok (.ifCond .ne 24, 3) := by decide +kernel
theorem dX9_takeNumber_7 : decode cX9_takeNumber 7 = .ok (.aload_n 0, 1) := by decide +kernel
theorem dX9_takeNumber_8 : decode cX9_takeNumber 8 = .ok (.getfield 24, 3) := by decide +kernel
theorem dX9_takeNumber_11 : decode cX9_takeNumber 11 = .ok (.aload_n 0, 1) := by decide +kernel
theorem dX9_takeNumber_12 : decode cX9_takeNumber 12 = .ok (.getfield 151, 3) := by decide +kernel
theorem dX9_takeNumber_15 : decode cX9_takeNumber 15 = .ok (.iaload, 1) := by decide +kernel
theorem dX9_takeNumber_16 : decode cX9_takeNumber 16 = .ok (.iconst 2, 1) := by decide +kernel
theorem dX9_takeNumber_17 : decode cX9_takeNumber 17 = .ok (.if_icmp .eq 11, 3) := by decide +kernel
theorem dX9_takeNumber_20 : decode cX9_takeNumber 20 = .ok (.aload_n 0, 1) := by decide +kernel
theorem dX9_takeNumber_21 : decode cX9_takeNumber 21 = .ok (.iconst 1, 1) := by decide +kernel
theorem dX9_takeNumber_22 : decode cX9_takeNumber 22 = .ok (.invokevirtual 160, 3) := by decide +kernel
theorem dX9_takeNumber_25 : decode cX9_takeNumber 25 = .ok (.goto 45, 3) := by decide +kernel
theorem dX9_takeNumber_28 : decode cX9_takeNumber 28 = .ok (.aload_n 0, 1) := by decide +kernel
theorem dX9_takeNumber_29 : decode cX9_takeNumber 29 = .ok (.getfield 154, 3) := by decide +kernel
theorem dX9_takeNumber_32 : decode cX9_takeNumber 32 = .ok (.ifCond .ne 38, 3) := by decide +kernel
theorem dX9_takeNumber_35 : decode cX9_takeNumber 35 = .ok (.aload_n 0, 1) := by decide +kernel
theorem dX9_takeNumber_36 : decode cX9_takeNumber 36 = .ok (.getfield 30, 3) := by decide +kernel
theorem dX9_takeNumber_39 : decode cX9_takeNumber 39 = .ok (.aload_n 0, 1) := by decide +kernel
theorem dX9_takeNumber_40 : decode cX9_takeNumber 40 = .ok (.getfield 151, 3) := by decide +kernel
theorem dX9_takeNumber_43 : decode cX9_takeNumber 43 = .ok (.laload, 1) := by decide +kernel
theorem dX9_takeNumber_44 : decode cX9_takeNumber 44 = .ok (.iload_n 1, 1) := by decide +kernel
theorem dX9_takeNumber_45 : decode cX9_takeNumber 45 = .ok (.i2l, 1) := by decide +kernel
theorem dX9_takeNumber_46 : decode cX9_takeNumber 46 = .ok (.lcmp, 1) := by decide +kernel
theorem dX9_takeNumber_47 : decode cX9_takeNumber 47 = .ok (.ifCond .lt 18, 3) := by decide +kernel
theorem dX9_takeNumber_50 : decode cX9_takeNumber 50 = .ok (.aload_n 0, 1) := by decide +kernel
theorem dX9_takeNumber_51 : decode cX9_takeNumber 51 = .ok (.getfield 30, 3) := by decide +kernel
theorem dX9_takeNumber_54 : decode cX9_takeNumber 54 = .ok (.aload_n 0, 1) := by decide +kernel
theorem dX9_takeNumber_55 : decode cX9_takeNumber 55 = .ok (.getfield 151, 3) := by decide +kernel
theorem dX9_takeNumber_58 : decode cX9_takeNumber 58 = .ok (.laload, 1) := by decide +kernel
theorem dX9_takeNumber_59 : decode cX9_takeNumber 59 = .ok (.iload_n 2, 1) := by decide +kernel
theorem dX9_takeNumber_60 : decode cX9_takeNumber 60 = .ok (.i2l, 1) := by decide +kernel
theorem dX9_takeNumber_61 : decode cX9_takeNumber 61 = .ok (.lcmp, 1) := by decide +kernel
theorem dX9_takeNumber_62 : decode cX9_takeNumber 62 = .ok (.ifCond .le 8, 3) := by decide +kernel
theorem dX9_takeNumber_65 : decode cX9_takeNumber 65 = .ok (.aload_n 0, 1) := by decide +kernel
theorem dX9_takeNumber_66 : decode cX9_takeNumber 66 = .ok (.iconst 4, 1) := by decide +kernel
theorem dX9_takeNumber_67 : decode cX9_takeNumber 67 = .ok (.invokevirtual 160, 3) := by decide +kernel
theorem dX9_takeNumber_70 : decode cX9_takeNumber 70 = .ok (.aload_n 0, 1) := by decide +kernel
theorem dX9_takeNumber_71 : decode cX9_takeNumber 71 = .ok (.getfield 154, 3) := by decide +kernel
theorem dX9_takeNumber_74 : decode cX9_takeNumber 74 = .ok (.ifCond .le 5, 3) := by decide +kernel
theorem dX9_takeNumber_77 : decode cX9_takeNumber 77 = .ok (.iconst 0, 1) := by decide +kernel
theorem dX9_takeNumber_78 : decode cX9_takeNumber 78 = .ok (.ireturn, 1) := by decide +kernel
theorem dX9_takeNumber_79 : decode cX9_takeNumber 79 = .ok (.aload_n 0, 1) := by decide +kernel
theorem dX9_takeNumber_80 : decode cX9_takeNumber 80 = .ok (.dup, 1) := by decide +kernel
theorem dX9_takeNumber_81 : decode cX9_takeNumber 81 = .ok (.getfield 151, 3) := by decide +kernel
theorem dX9_takeNumber_84 : decode cX9_takeNumber 84 = .ok (.iconst 1, 1) := by decide +kernel
theorem dX9_takeNumber_85 : decode cX9_takeNumber 85 = .ok (.iadd, 1) := by decide +kernel
theorem dX9_takeNumber_86 : decode cX9_takeNumber 86 = .ok (.putfield 151, 3) := by decide +kernel
theorem dX9_takeNumber_89 : decode cX9_takeNumber 89 = .ok (.aload_n 0, 1) := by decide +kernel
theorem dX9_takeNumber_90 : decode cX9_takeNumber 90 = .ok (.getfield 30, 3) := by decide +kernel
theorem dX9_takeNumber_93 : decode cX9_takeNumber 93 = .ok (.aload_n 0, 1) := by decide +kernel
theorem dX9_takeNumber_94 : decode cX9_takeNumber 94 = .ok (.getfield 151, 3) := by decide +kernel
theorem dX9_takeNumber_97 : decode cX9_takeNumber 97 = .ok (.iconst 1, 1) := by decide +kernel
theorem dX9_takeNumber_98 : decode cX9_takeNumber 98 = .ok (.isub, 1) := by decide +kernel
theorem dX9_takeNumber_99 : decode cX9_takeNumber 99 = .ok (.laload, 1) := by decide +kernel
theorem dX9_takeNumber_100 : decode cX9_takeNumber 100 = .ok (.l2i, 1) := by decide +kernel
theorem dX9_takeNumber_101 : decode cX9_takeNumber 101 = .ok (.ireturn, 1) := by decide +kernel
theorem dX9_takeAfter_0 : decode cX9_takeAfter 0 = .ok (.aload_n 0, 1) := by decide +kernel
theorem dX9_takeAfter_1 : decode cX9_takeAfter 1 = .ok (.iload_n 1, 1) := by decide +kernel
theorem dX9_takeAfter_2 : decode cX9_takeAfter 2 = .ok (.invokevirtual 170, 3) := by decide +kernel
theorem dX9_takeAfter_5 : decode cX9_takeAfter 5 = .ok (.aload_n 0, 1) := by decide +kernel
theorem dX9_takeAfter_6 : decode cX9_takeAfter 6 = .ok (.iload_n 2, 1) := by decide +kernel
theorem dX9_takeAfter_7 : decode cX9_takeAfter 7 = .ok (.iload_n 3, 1) := by decide +kernel
theorem dX9_takeAfter_8 : decode cX9_takeAfter 8 = .ok (.invokevirtual 173, 3) := by decide +kernel
theorem dX9_takeAfter_11 : decode cX9_takeAfter 11 = .ok (.ireturn, 1) := by decide +kernel
theorem dX9_isName_0 : decode cX9_isName 0 = .ok (.aload_n 0, 1) := by decide +kernel
theorem dX9_isName_1 : decode cX9_isName 1 = .ok (.getfield 154, 3) := by decide +kernel
theorem dX9_isName_4 : decode cX9_isName 4 = .ok (.ifCond .ne 20, 3) := by decide +kernel
theorem dX9_isName_7 : decode cX9_isName 7 = .ok (.aload_n 0, 1) := by decide +kernel
theorem dX9_isName_8 : decode cX9_isName 8 = .ok (.getfield 24, 3) := by decide +kernel
theorem dX9_isName_11 : decode cX9_isName 11 = .ok (.aload_n 0, 1) := by decide +kernel
theorem dX9_isName_12 : decode cX9_isName 12 = .ok (.getfield 151, 3) := by decide +kernel
theorem dX9_isName_15 : decode cX9_isName 15 = .ok (.iaload, 1) := by decide +kernel
theorem dX9_isName_16 : decode cX9_isName 16 = .ok (.iconst 1, 1) := by decide +kernel
theorem dX9_isName_17 : decode cX9_isName 17 = .ok (.if_icmp .ne 7, 3) := by decide +kernel
theorem dX9_isName_20 : decode cX9_isName 20 = .ok (.iconst 1, 1) := by decide +kernel
theorem dX9_isName_21 : decode cX9_isName 21 = .ok (.goto 4, 3) := by decide +kernel
theorem dX9_isName_24 : decode cX9_isName 24 = .ok (.iconst 0, 1) := by decide +kernel
theorem dX9_isName_25 : decode cX9_isName 25 = .ok (.istore_n 1, 1) := by decide +kernel
theorem dX9_isName_26 : decode cX9_isName 26 = .ok (.iconst 0, 1) := by decide +kernel
theorem dX9_isName_27 : decode cX9_isName 27 = .ok (.istore_n 2, 1) := by decide +kernel
theorem dX9_isName_28 : decode cX9_isName 28 = .ok (.iload_n 2, 1) := by decide +kernel
theorem dX9_isName_29 : decode cX9_isName 29 = .ok (.bipush 18, 2) := by decide +kernel
theorem dX9_isName_31 : decode cX9_isName 31 = .ok (.if_icmp .ge 38, 3) := by decide +kernel
theorem dX9_isName_34 : decode cX9_isName 34 = .ok (.iload_n 1, 1) := by decide +kernel
theorem dX9_isName_35 : decode cX9_isName 35 = .ok (.ifCond .eq 26, 3) := by decide +kernel
theorem dX9_isName_38 : decode cX9_isName 38 = .ok (.aload_n 0, 1) := by decide +kernel
theorem dX9_isName_39 : decode cX9_isName 39 = .ok (.getfield 30, 3) := by decide +kernel
theorem dX9_isName_42 : decode cX9_isName 42 = .ok (.aload_n 0, 1) := by decide +kernel
theorem dX9_isName_43 : decode cX9_isName 43 = .ok (.getfield 151, 3) := by decide +kernel
theorem dX9_isName_46 : decode cX9_isName 46 = .ok (.laload, 1) := by decide +kernel
theorem dX9_isName_47 : decode cX9_isName 47 = .ok (.aload_n 0, 1) := by decide +kernel
theorem dX9_isName_48 : decode cX9_isName 48 = .ok (.getfield 70, 3) := by decide +kernel
theorem dX9_isName_51 : decode cX9_isName 51 = .ok (.iload_n 2, 1) := by decide +kernel
theorem dX9_isName_52 : decode cX9_isName 52 = .ok (.laload, 1) := by decide +kernel
theorem dX9_isName_53 : decode cX9_isName 53 = .ok (.lcmp, 1) := by decide +kernel
theorem dX9_isName_54 : decode cX9_isName 54 = .ok (.ifCond .eq 7, 3) := by decide +kernel
theorem dX9_isName_57 : decode cX9_isName 57 = .ok (.iconst 1, 1) := by decide +kernel
theorem dX9_isName_58 : decode cX9_isName 58 = .ok (.goto 4, 3) := by decide +kernel
theorem dX9_isName_61 : decode cX9_isName 61 = .ok (.iconst 0, 1) := by decide +kernel
theorem dX9_isName_62 : decode cX9_isName 62 = .ok (.istore_n 1, 1) := by decide +kernel
theorem dX9_isName_63 : decode cX9_isName 63 = .ok (.iinc 2 1, 3) := by decide +kernel
theorem dX9_isName_66 : decode cX9_isName 66 = .ok (.goto (-38), 3) := by decide +kernel
theorem dX9_isName_69 : decode cX9_isName 69 = .ok (.iload_n 1, 1) := by decide +kernel
theorem dX9_isName_70 : decode cX9_isName 70 = .ok (.ireturn, 1) := by decide +kernel
theorem dX9_carry_0 : decode cX9_carry 0 = .ok (.iconst 0, 1) := by decide +kernel
theorem dX9_carry_1 : decode cX9_carry 1 = .ok (.istore_n 3, 1) := by decide +kernel
theorem dX9_carry_2 : decode cX9_carry 2 = .ok (.iload_n 3, 1) := by decide +kernel
theorem dX9_carry_3 : decode cX9_carry 3 = .ok (.sipush 480, 3) := by decide +kernel
theorem dX9_carry_6 : decode cX9_carry 6 = .ok (.if_icmp .ge 33, 3) := by decide +kernel
theorem dX9_carry_9 : decode cX9_carry 9 = .ok (.aload_n 0, 1) := by decide +kernel
theorem dX9_carry_10 : decode cX9_carry 10 = .ok (.getfield 73, 3) := by decide +kernel
theorem dX9_carry_13 : decode cX9_carry 13 = .ok (.sipush 480, 3) := by decide +kernel
theorem dX9_carry_16 : decode cX9_carry 16 = .ok (.iload_n 2, 1) := by decide +kernel
theorem dX9_carry_17 : decode cX9_carry 17 = .ok (.imul, 1) := by decide +kernel
theorem dX9_carry_18 : decode cX9_carry 18 = .ok (.iload_n 3, 1) := by decide +kernel
theorem dX9_carry_19 : decode cX9_carry 19 = .ok (.iadd, 1) := by decide +kernel
theorem dX9_carry_20 : decode cX9_carry 20 = .ok (.aload_n 0, 1) := by decide +kernel
theorem dX9_carry_21 : decode cX9_carry 21 = .ok (.getfield 73, 3) := by decide +kernel
theorem dX9_carry_24 : decode cX9_carry 24 = .ok (.sipush 480, 3) := by decide +kernel
theorem dX9_carry_27 : decode cX9_carry 27 = .ok (.iload_n 1, 1) := by decide +kernel
theorem dX9_carry_28 : decode cX9_carry 28 = .ok (.imul, 1) := by decide +kernel
theorem dX9_carry_29 : decode cX9_carry 29 = .ok (.iload_n 3, 1) := by decide +kernel
theorem dX9_carry_30 : decode cX9_carry 30 = .ok (.iadd, 1) := by decide +kernel
theorem dX9_carry_31 : decode cX9_carry 31 = .ok (.iaload, 1) := by decide +kernel
theorem dX9_carry_32 : decode cX9_carry 32 = .ok (.iastore, 1) := by decide +kernel
theorem dX9_carry_33 : decode cX9_carry 33 = .ok (.iinc 3 1, 3) := by decide +kernel
theorem dX9_carry_36 : decode cX9_carry 36 = .ok (.goto (-34), 3) := by decide +kernel
theorem dX9_carry_39 : decode cX9_carry 39 = .ok (.return_, 1) := by decide +kernel
theorem dX9_book_0 : decode cX9_book 0 = .ok (.aload_n 0, 1) := by decide +kernel
theorem dX9_book_1 : decode cX9_book 1 = .ok (.iconst 0, 1) := by decide +kernel
theorem dX9_book_2 : decode cX9_book 2 = .ok (.putfield 1, 3) := by decide +kernel
theorem dX9_book_5 : decode cX9_book 5 = .ok (.aload_n 0, 1) := by decide +kernel
theorem dX9_book_6 : decode cX9_book 6 = .ok (.invokevirtual 177, 3) := by decide +kernel
theorem dX9_book_9 : decode cX9_book 9 = .ok (.aload_n 0, 1) := by decide +kernel
theorem dX9_book_10 : decode cX9_book 10 = .ok (.iconst 0, 1) := by decide +kernel
theorem dX9_book_11 : decode cX9_book 11 = .ok (.putfield 180, 3) := by decide +kernel
theorem dX9_book_14 : decode cX9_book 14 = .ok (.iconst 0, 1) := by decide +kernel
theorem dX9_book_15 : decode cX9_book 15 = .ok (.istore_n 1, 1) := by decide +kernel
theorem dX9_book_16 : decode cX9_book 16 = .ok (.iload_n 1, 1) := by decide +kernel
theorem dX9_book_17 : decode cX9_book 17 = .ok (.sipush 480, 3) := by decide +kernel
theorem dX9_book_20 : decode cX9_book 20 = .ok (.if_icmp .ge 20, 3) := by decide +kernel
theorem dX9_book_23 : decode cX9_book 23 = .ok (.aload_n 0, 1) := by decide +kernel
theorem dX9_book_24 : decode cX9_book 24 = .ok (.getfield 73, 3) := by decide +kernel
theorem dX9_book_27 : decode cX9_book 27 = .ok (.sipush 480, 3) := by decide +kernel
theorem dX9_book_30 : decode cX9_book 30 = .ok (.iload_n 1, 1) := by decide +kernel
theorem dX9_book_31 : decode cX9_book 31 = .ok (.iadd, 1) := by decide +kernel
theorem dX9_book_32 : decode cX9_book 32 = .ok (.iconst 0, 1) := by decide +kernel
theorem dX9_book_33 : decode cX9_book 33 = .ok (.iastore, 1) := by decide +kernel
theorem dX9_book_34 : decode cX9_book 34 = .ok (.iinc 1 1, 3) := by decide +kernel
theorem dX9_book_37 : decode cX9_book 37 = .ok (.goto (-21), 3) := by decide +kernel
theorem dX9_book_40 : decode cX9_book 40 = .ok (.aload_n 0, 1) := by decide +kernel
theorem dX9_book_41 : decode cX9_book 41 = .ok (.getfield 154, 3) := by decide +kernel
theorem dX9_book_44 : decode cX9_book 44 = .ok (.ifCond .ne 28, 3) := by decide +kernel
theorem dX9_book_47 : decode cX9_book 47 = .ok (.aload_n 0, 1) := by decide +kernel
theorem dX9_book_48 : decode cX9_book 48 = .ok (.getfield 24, 3) := by decide +kernel
theorem dX9_book_51 : decode cX9_book 51 = .ok (.aload_n 0, 1) := by decide +kernel
theorem dX9_book_52 : decode cX9_book 52 = .ok (.getfield 151, 3) := by decide +kernel
theorem dX9_book_55 : decode cX9_book 55 = .ok (.iaload, 1) := by decide +kernel
theorem dX9_book_56 : decode cX9_book 56 = .ok (.ifCond .eq 16, 3) := by decide +kernel
theorem dX9_book_59 : decode cX9_book 59 = .ok (.aload_n 0, 1) := by decide +kernel
theorem dX9_book_60 : decode cX9_book 60 = .ok (.invokevirtual 183, 3) := by decide +kernel
theorem dX9_book_63 : decode cX9_book 63 = .ok (.aload_n 0, 1) := by decide +kernel
theorem dX9_book_64 : decode cX9_book 64 = .ok (.bipush 59, 2) := by decide +kernel
theorem dX9_book_66 : decode cX9_book 66 = .ok (.invokevirtual 186, 3) := by decide +kernel
theorem dX9_book_69 : decode cX9_book 69 = .ok (.goto (-29), 3) := by decide +kernel
theorem dX9_book_72 : decode cX9_book 72 = .ok (.aload_n 0, 1) := by decide +kernel
theorem dX9_book_73 : decode cX9_book 73 = .ok (.getfield 154, 3) := by decide +kernel
theorem dX9_book_76 : decode cX9_book 76 = .ok (.ifCond .le 8, 3) := by decide +kernel
theorem dX9_book_79 : decode cX9_book 79 = .ok (.aload_n 0, 1) := by decide +kernel
theorem dX9_book_80 : decode cX9_book 80 = .ok (.getfield 154, 3) := by decide +kernel
theorem dX9_book_83 : decode cX9_book 83 = .ok (.ireturn, 1) := by decide +kernel
theorem dX9_book_84 : decode cX9_book 84 = .ok (.aload_n 0, 1) := by decide +kernel
theorem dX9_book_85 : decode cX9_book 85 = .ok (.iconst 1, 1) := by decide +kernel
theorem dX9_book_86 : decode cX9_book 86 = .ok (.iconst 0, 1) := by decide +kernel
theorem dX9_book_87 : decode cX9_book 87 = .ok (.invokevirtual 189, 3) := by decide +kernel
theorem dX9_book_90 : decode cX9_book 90 = .ok (.iconst 0, 1) := by decide +kernel
theorem dX9_book_91 : decode cX9_book 91 = .ok (.istore_n 1, 1) := by decide +kernel
theorem dX9_book_92 : decode cX9_book 92 = .ok (.iload_n 1, 1) := by decide +kernel
theorem dX9_book_93 : decode cX9_book 93 = .ok (.iconst 4, 1) := by decide +kernel
theorem dX9_book_94 : decode cX9_book 94 = .ok (.if_icmp .ge 16, 3) := by decide +kernel
theorem dX9_book_97 : decode cX9_book 97 = .ok (.aload_n 0, 1) := by decide +kernel
theorem dX9_book_98 : decode cX9_book 98 = .ok (.getfield 125, 3) := by decide +kernel
theorem dX9_book_101 : decode cX9_book 101 = .ok (.iload_n 1, 1) := by decide +kernel
theorem dX9_book_102 : decode cX9_book 102 = .ok (.iconst 0, 1) := by decide +kernel
theorem dX9_book_103 : decode cX9_book 103 = .ok (.bastore, 1) := by decide +kernel
theorem dX9_book_104 : decode cX9_book 104 = .ok (.iinc 1 1, 3) := by decide +kernel
theorem dX9_book_107 : decode cX9_book 107 = .ok (.goto (-15), 3) := by decide +kernel
theorem dX9_book_110 : decode cX9_book 110 = .ok (.iconst 0, 1) := by decide +kernel
theorem dX9_book_111 : decode cX9_book 111 = .ok (.ireturn, 1) := by decide +kernel
theorem dX9_readLine_0 : decode cX9_readLine 0 = .ok (.aload_n 0, 1) := by decide +kernel
theorem dX9_readLine_1 : decode cX9_readLine 1 = .ok (.iconst 0, 1) := by decide +kernel
theorem dX9_readLine_2 : decode cX9_readLine 2 = .ok (.invokevirtual 164, 3) := by decide +kernel
theorem dX9_readLine_5 : decode cX9_readLine 5 = .ok (.ifCond .eq 14, 3) := by decide +kernel
theorem dX9_readLine_8 : decode cX9_readLine 8 = .ok (.aload_n 0, 1) := by decide +kernel
theorem dX9_readLine_9 : decode cX9_readLine 9 = .ok (.iconst 0, 1) := by decide +kernel
theorem dX9_readLine_10 : decode cX9_readLine 10 = .ok (.iconst 3, 1) := by decide +kernel
theorem dX9_readLine_11 : decode cX9_readLine 11 = .ok (.iconst 0, 1) := by decide +kernel
theorem dX9_readLine_12 : decode cX9_readLine 12 = .ok (.invokevirtual 193, 3) := by decide +kernel
theorem dX9_readLine_15 : decode cX9_readLine 15 = .ok (.pop, 1) := by decide +kernel
theorem dX9_readLine_16 : decode cX9_readLine 16 = .ok (.goto 110, 3) := by decide +kernel
theorem dX9_readLine_19 : decode cX9_readLine 19 = .ok (.aload_n 0, 1) := by decide +kernel
theorem dX9_readLine_20 : decode cX9_readLine 20 = .ok (.iconst 1, 1) := by decide +kernel
theorem dX9_readLine_21 : decode cX9_readLine 21 = .ok (.invokevirtual 164, 3) := by decide +kernel
theorem dX9_readLine_24 : decode cX9_readLine 24 = .ok (.ifCond .eq 10, 3) := by decide +kernel
theorem dX9_readLine_27 : decode cX9_readLine 27 = .ok (.aload_n 0, 1) := by decide +kernel
theorem dX9_readLine_28 : decode cX9_readLine 28 = .ok (.invokevirtual 197, 3) := by decide +kernel
theorem dX9_readLine_31 : decode cX9_readLine 31 = .ok (.goto 95, 3) := by decide +kernel
theorem dX9_readLine_34 : decode cX9_readLine 34 = .ok (.aload_n 0, 1) := by decide +kernel
theorem dX9_readLine_35 : decode cX9_readLine 35 = .ok (.iconst 3, 1) := by decide +kernel
theorem dX9_readLine_36 : decode cX9_readLine 36 = .ok (.invokevirtual 164, 3) := by decide +kernel
theorem dX9_readLine_39 : decode cX9_readLine 39 = .ok (.ifCond .eq 10, 3) := by decide +kernel
theorem dX9_readLine_42 : decode cX9_readLine 42 = .ok (.aload_n 0, 1) := by decide +kernel
theorem dX9_readLine_43 : decode cX9_readLine 43 = .ok (.invokevirtual 200, 3) := by decide +kernel
theorem dX9_readLine_46 : decode cX9_readLine 46 = .ok (.goto 80, 3) := by decide +kernel
theorem dX9_readLine_49 : decode cX9_readLine 49 = .ok (.aload_n 0, 1) := by decide +kernel
theorem dX9_readLine_50 : decode cX9_readLine 50 = .ok (.iconst 4, 1) := by decide +kernel
theorem dX9_readLine_51 : decode cX9_readLine 51 = .ok (.invokevirtual 164, 3) := by decide +kernel
theorem dX9_readLine_54 : decode cX9_readLine 54 = .ok (.ifCond .eq 10, 3) := by decide +kernel
theorem dX9_readLine_57 : decode cX9_readLine 57 = .ok (.aload_n 0, 1) := by decide +kernel
theorem dX9_readLine_58 : decode cX9_readLine 58 = .ok (.invokevirtual 203, 3) := by decide +kernel
theorem dX9_readLine_61 : decode cX9_readLine 61 = .ok (.goto 65, 3) := by decide +kernel
theorem dX9_readLine_64 : decode cX9_readLine 64 = .ok (.aload_n 0, 1) := by decide +kernel
theorem dX9_readLine_65 : decode cX9_readLine 65 = .ok (.bipush 10, 2) := by decide +kernel
theorem dX9_readLine_67 : decode cX9_readLine 67 = .ok (.invokevirtual 164, 3) := by decide +kernel
theorem dX9_readLine_70 : decode cX9_readLine 70 = .ok (.ifCond .eq 10, 3) := by decide +kernel
theorem dX9_readLine_73 : decode cX9_readLine 73 = .ok (.aload_n 0, 1) := by decide +kernel
theorem dX9_readLine_74 : decode cX9_readLine 74 = .ok (.invokevirtual 206, 3) := by decide +kernel
theorem dX9_readLine_77 : decode cX9_readLine 77 = .ok (.goto 49, 3) := by decide +kernel
theorem dX9_readLine_80 : decode cX9_readLine 80 = .ok (.aload_n 0, 1) := by decide +kernel
theorem dX9_readLine_81 : decode cX9_readLine 81 = .ok (.bipush 12, 2) := by decide +kernel
theorem dX9_readLine_83 : decode cX9_readLine 83 = .ok (.invokevirtual 164, 3) := by decide +kernel
theorem dX9_readLine_86 : decode cX9_readLine 86 = .ok (.ifCond .eq 10, 3) := by decide +kernel
theorem dX9_readLine_89 : decode cX9_readLine 89 = .ok (.aload_n 0, 1) := by decide +kernel
theorem dX9_readLine_90 : decode cX9_readLine 90 = .ok (.invokevirtual 209, 3) := by decide +kernel
theorem dX9_readLine_93 : decode cX9_readLine 93 = .ok (.goto 33, 3) := by decide +kernel
theorem dX9_readLine_96 : decode cX9_readLine 96 = .ok (.aload_n 0, 1) := by decide +kernel
theorem dX9_readLine_97 : decode cX9_readLine 97 = .ok (.bipush 16, 2) := by decide +kernel
theorem dX9_readLine_99 : decode cX9_readLine 99 = .ok (.invokevirtual 164, 3) := by decide +kernel
theorem dX9_readLine_102 : decode cX9_readLine 102 = .ok (.ifCond .ne 12, 3) := by decide +kernel
theorem dX9_readLine_105 : decode cX9_readLine 105 = .ok (.aload_n 0, 1) := by decide +kernel
theorem dX9_readLine_106 : decode cX9_readLine 106 = .ok (.bipush 17, 2) := by decide +kernel
theorem dX9_readLine_108 : decode cX9_readLine 108 = .ok (.invokevirtual 164, 3) := by decide +kernel
theorem dX9_readLine_111 : decode cX9_readLine 111 = .ok (.ifCond .eq 10, 3) := by decide +kernel
theorem dX9_readLine_114 : decode cX9_readLine 114 = .ok (.aload_n 0, 1) := by decide +kernel
theorem dX9_readLine_115 : decode cX9_readLine 115 = .ok (.invokevirtual 212, 3) := by decide +kernel
theorem dX9_readLine_118 : decode cX9_readLine 118 = .ok (.goto 8, 3) := by decide +kernel
theorem dX9_readLine_121 : decode cX9_readLine 121 = .ok (.aload_n 0, 1) := by decide +kernel
theorem dX9_readLine_122 : decode cX9_readLine 122 = .ok (.iconst 1, 1) := by decide +kernel
theorem dX9_readLine_123 : decode cX9_readLine 123 = .ok (.invokevirtual 160, 3) := by decide +kernel
theorem dX9_readLine_126 : decode cX9_readLine 126 = .ok (.return_, 1) := by decide +kernel
theorem dX9_readNew_0 : decode cX9_readNew 0 = .ok (.aload_n 0, 1) := by decide +kernel
theorem dX9_readNew_1 : decode cX9_readNew 1 = .ok (.getfield 73, 3) := by decide +kernel
theorem dX9_readNew_4 : decode cX9_readNew 4 = .ok (.sipush 480, 3) := by decide +kernel
theorem dX9_readNew_7 : decode cX9_readNew 7 = .ok (.iload_n 1, 1) := by decide +kernel
theorem dX9_readNew_8 : decode cX9_readNew 8 = .ok (.iadd, 1) := by decide +kernel
theorem dX9_readNew_9 : decode cX9_readNew 9 = .ok (.iaload, 1) := by decide +kernel
theorem dX9_readNew_10 : decode cX9_readNew 10 = .ok (.istore 4, 2) := by decide +kernel
theorem dX9_readNew_12 : decode cX9_readNew 12 = .ok (.iload 4, 2) := by decide +kernel
theorem dX9_readNew_14 : decode cX9_readNew 14 = .ok (.iload_n 2, 1) := by decide +kernel
theorem dX9_readNew_15 : decode cX9_readNew 15 = .ok (.if_icmp .ne 10, 3) := by decide +kernel
theorem dX9_readNew_18 : decode cX9_readNew 18 = .ok (.aload_n 0, 1) := by decide +kernel
theorem dX9_readNew_19 : decode cX9_readNew 19 = .ok (.iconst 5, 1) := by decide +kernel
theorem dX9_readNew_20 : decode cX9_readNew 20 = .ok (.invokevirtual 160, 3) := by decide +kernel
theorem dX9_readNew_23 : decode cX9_readNew 23 = .ok (.iconst 0, 1) := by decide +kernel
theorem dX9_readNew_24 : decode cX9_readNew 24 = .ok (.ireturn, 1) := by decide +kernel
theorem dX9_readNew_25 : decode cX9_readNew 25 = .ok (.aload_n 0, 1) := by decide +kernel
theorem dX9_readNew_26 : decode cX9_readNew 26 = .ok (.dup, 1) := by decide +kernel
theorem dX9_readNew_27 : decode cX9_readNew 27 = .ok (.getfield 151, 3) := by decide +kernel
theorem dX9_readNew_30 : decode cX9_readNew 30 = .ok (.iconst 1, 1) := by decide +kernel
theorem dX9_readNew_31 : decode cX9_readNew 31 = .ok (.iadd, 1) := by decide +kernel
theorem dX9_readNew_32 : decode cX9_readNew 32 = .ok (.putfield 151, 3) := by decide +kernel
theorem dX9_readNew_35 : decode cX9_readNew 35 = .ok (.aload_n 0, 1) := by decide +kernel
theorem dX9_readNew_36 : decode cX9_readNew 36 = .ok (.invokevirtual 215, 3) := by decide +kernel
theorem dX9_readNew_39 : decode cX9_readNew 39 = .ok (.ifCond .ne 8, 3) := by decide +kernel
theorem dX9_readNew_42 : decode cX9_readNew 42 = .ok (.aload_n 0, 1) := by decide +kernel
theorem dX9_readNew_43 : decode cX9_readNew 43 = .ok (.iconst 1, 1) := by decide +kernel
theorem dX9_readNew_44 : decode cX9_readNew 44 = .ok (.invokevirtual 160, 3) := by decide +kernel
theorem dX9_readNew_47 : decode cX9_readNew 47 = .ok (.iconst 0, 1) := by decide +kernel
theorem dX9_readNew_48 : decode cX9_readNew 48 = .ok (.istore 5, 2) := by decide +kernel
theorem dX9_readNew_50 : decode cX9_readNew 50 = .ok (.iload 5, 2) := by decide +kernel
theorem dX9_readNew_52 : decode cX9_readNew 52 = .ok (.aload_n 0, 1) := by decide +kernel
theorem dX9_readNew_53 : decode cX9_readNew 53 = .ok (.getfield 180, 3) := by decide +kernel
theorem dX9_readNew_56 : decode cX9_readNew 56 = .ok (.if_icmp .ge 41, 3) := by decide +kernel
theorem dX9_readNew_59 : decode cX9_readNew 59 = .ok (.aload_n 0, 1) := by decide +kernel
theorem dX9_readNew_60 : decode cX9_readNew 60 = .ok (.getfield 154, 3) := by decide +kernel
theorem dX9_readNew_63 : decode cX9_readNew 63 = .ok (.ifCond .ne 34, 3) := by decide +kernel
theorem dX9_readNew_66 : decode cX9_readNew 66 = .ok (.aload_n 0, 1) := by decide +kernel
theorem dX9_readNew_67 : decode cX9_readNew 67 = .ok (.getfield 76, 3) := by decide +kernel
theorem dX9_readNew_70 : decode cX9_readNew 70 = .ok (.iload 5, 2) := by decide +kernel
theorem dX9_readNew_72 : decode cX9_readNew 72 = .ok (.laload, 1) := by decide +kernel
theorem dX9_readNew_73 : decode cX9_readNew 73 = .ok (.aload_n 0, 1) := by decide +kernel
theorem dX9_readNew_74 : decode cX9_readNew 74 = .ok (.getfield 30, 3) := by decide +kernel
theorem dX9_readNew_77 : decode cX9_readNew 77 = .ok (.aload_n 0, 1) := by decide +kernel
theorem dX9_readNew_78 : decode cX9_readNew 78 = .ok (.getfield 151, 3) := by decide +kernel
theorem dX9_readNew_81 : decode cX9_readNew 81 = .ok (.laload, 1) := by decide +kernel
theorem dX9_readNew_82 : decode cX9_readNew 82 = .ok (.lcmp, 1) := by decide +kernel
theorem dX9_readNew_83 : decode cX9_readNew 83 = .ok (.ifCond .ne 8, 3) := by decide +kernel
theorem dX9_readNew_86 : decode cX9_readNew 86 = .ok (.aload_n 0, 1) := by decide +kernel
theorem dX9_readNew_87 : decode cX9_readNew 87 = .ok (.iconst 3, 1) := by decide +kernel
theorem dX9_readNew_88 : decode cX9_readNew 88 = .ok (.invokevirtual 160, 3) := by decide +kernel
theorem dX9_readNew_91 : decode cX9_readNew 91 = .ok (.iinc 5 1, 3) := by decide +kernel
theorem dX9_readNew_94 : decode cX9_readNew 94 = .ok (.goto (-44), 3) := by decide +kernel
theorem dX9_readNew_97 : decode cX9_readNew 97 = .ok (.aload_n 0, 1) := by decide +kernel
theorem dX9_readNew_98 : decode cX9_readNew 98 = .ok (.getfield 154, 3) := by decide +kernel
theorem dX9_readNew_101 : decode cX9_readNew 101 = .ok (.ifCond .ne 76, 3) := by decide +kernel
theorem dX9_readNew_104 : decode cX9_readNew 104 = .ok (.aload_n 0, 1) := by decide +kernel
theorem dX9_readNew_105 : decode cX9_readNew 105 = .ok (.getfield 76, 3) := by decide +kernel
theorem dX9_readNew_108 : decode cX9_readNew 108 = .ok (.aload_n 0, 1) := by decide +kernel
theorem dX9_readNew_109 : decode cX9_readNew 109 = .ok (.getfield 180, 3) := by decide +kernel
theorem dX9_readNew_112 : decode cX9_readNew 112 = .ok (.aload_n 0, 1) := by decide +kernel
theorem dX9_readNew_113 : decode cX9_readNew 113 = .ok (.getfield 30, 3) := by decide +kernel
theorem dX9_readNew_116 : decode cX9_readNew 116 = .ok (.aload_n 0, 1) := by decide +kernel
theorem dX9_readNew_117 : decode cX9_readNew 117 = .ok (.getfield 151, 3) := by decide +kernel
theorem dX9_readNew_120 : decode cX9_readNew 120 = .ok (.laload, 1) := by decide +kernel
theorem dX9_readNew_121 : decode cX9_readNew 121 = .ok (.lastore, 1) := by decide +kernel
theorem dX9_readNew_122 : decode cX9_readNew 122 = .ok (.aload_n 0, 1) := by decide +kernel
theorem dX9_readNew_123 : decode cX9_readNew 123 = .ok (.getfield 79, 3) := by decide +kernel
theorem dX9_readNew_126 : decode cX9_readNew 126 = .ok (.aload_n 0, 1) := by decide +kernel
theorem dX9_readNew_127 : decode cX9_readNew 127 = .ok (.getfield 180, 3) := by decide +kernel
theorem dX9_readNew_130 : decode cX9_readNew 130 = .ok (.iload_n 3, 1) := by decide +kernel
theorem dX9_readNew_131 : decode cX9_readNew 131 = .ok (.iastore, 1) := by decide +kernel
theorem dX9_readNew_132 : decode cX9_readNew 132 = .ok (.aload_n 0, 1) := by decide +kernel
theorem dX9_readNew_133 : decode cX9_readNew 133 = .ok (.getfield 82, 3) := by decide +kernel
theorem dX9_readNew_136 : decode cX9_readNew 136 = .ok (.aload_n 0, 1) := by decide +kernel
theorem dX9_readNew_137 : decode cX9_readNew 137 = .ok (.getfield 180, 3) := by decide +kernel
theorem dX9_readNew_140 : decode cX9_readNew 140 = .ok (.iload 4, 2) := by decide +kernel
theorem dX9_readNew_142 : decode cX9_readNew 142 = .ok (.iastore, 1) := by decide +kernel
theorem dX9_readNew_143 : decode cX9_readNew 143 = .ok (.aload_n 0, 1) := by decide +kernel
theorem dX9_readNew_144 : decode cX9_readNew 144 = .ok (.dup, 1) := by decide +kernel
theorem dX9_readNew_145 : decode cX9_readNew 145 = .ok (.getfield 180, 3) := by decide +kernel
theorem dX9_readNew_148 : decode cX9_readNew 148 = .ok (.iconst 1, 1) := by decide +kernel
theorem dX9_readNew_149 : decode cX9_readNew 149 = .ok (.iadd, 1) := by decide +kernel
theorem dX9_readNew_150 : decode cX9_readNew 150 = .ok (.putfield 180, 3) := by decide +kernel
theorem dX9_readNew_153 : decode cX9_readNew 153 = .ok (.aload_n 0, 1) := by decide +kernel
theorem dX9_readNew_154 : decode cX9_readNew 154 = .ok (.dup, 1) := by decide +kernel
theorem dX9_readNew_155 : decode cX9_readNew 155 = .ok (.getfield 151, 3) := by decide +kernel
theorem dX9_readNew_158 : decode cX9_readNew 158 = .ok (.iconst 1, 1) := by decide +kernel
theorem dX9_readNew_159 : decode cX9_readNew 159 = .ok (.iadd, 1) := by decide +kernel
theorem dX9_readNew_160 : decode cX9_readNew 160 = .ok (.putfield 151, 3) := by decide +kernel
theorem dX9_readNew_163 : decode cX9_readNew 163 = .ok (.aload_n 0, 1) := by decide +kernel
theorem dX9_readNew_164 : decode cX9_readNew 164 = .ok (.getfield 73, 3) := by decide +kernel
theorem dX9_readNew_167 : decode cX9_readNew 167 = .ok (.sipush 480, 3) := by decide +kernel
theorem dX9_readNew_170 : decode cX9_readNew 170 = .ok (.iload_n 1, 1) := by decide +kernel
theorem dX9_readNew_171 : decode cX9_readNew 171 = .ok (.iadd, 1) := by decide +kernel
theorem dX9_readNew_172 : decode cX9_readNew 172 = .ok (.dup2, 1) := by decide +kernel
theorem dX9_readNew_173 : decode cX9_readNew 173 = .ok (.iaload, 1) := by decide +kernel
theorem dX9_readNew_174 : decode cX9_readNew 174 = .ok (.iconst 1, 1) := by decide +kernel
theorem dX9_readNew_175 : decode cX9_readNew 175 = .ok (.iadd, 1) := by decide +kernel
theorem dX9_readNew_176 : decode cX9_readNew 176 = .ok (.iastore, 1) := by decide +kernel
theorem dX9_readNew_177 : decode cX9_readNew 177 = .ok (.iload 4, 2) := by decide +kernel
theorem dX9_readNew_179 : decode cX9_readNew 179 = .ok (.ireturn, 1) := by decide +kernel
theorem dX9_nameHere_0 : decode cX9_nameHere 0 = .ok (.aload_n 0, 1) := by decide +kernel
theorem dX9_nameHere_1 : decode cX9_nameHere 1 = .ok (.invokevirtual 215, 3) := by decide +kernel
theorem dX9_nameHere_4 : decode cX9_nameHere 4 = .ok (.ifCond .ne 10, 3) := by decide +kernel
theorem dX9_nameHere_7 : decode cX9_nameHere 7 = .ok (.aload_n 0, 1) := by decide +kernel
theorem dX9_nameHere_8 : decode cX9_nameHere 8 = .ok (.iconst 1, 1) := by decide +kernel
theorem dX9_nameHere_9 : decode cX9_nameHere 9 = .ok (.invokevirtual 160, 3) := by decide +kernel
theorem dX9_nameHere_12 : decode cX9_nameHere 12 = .ok (.iconst (-1), 1) := by decide +kernel
theorem dX9_nameHere_13 : decode cX9_nameHere 13 = .ok (.ireturn, 1) := by decide +kernel
theorem dX9_nameHere_14 : decode cX9_nameHere 14 = .ok (.iconst 0, 1) := by decide +kernel
theorem dX9_nameHere_15 : decode cX9_nameHere 15 = .ok (.istore_n 2, 1) := by decide +kernel
theorem dX9_nameHere_16 : decode cX9_nameHere 16 = .ok (.iload_n 2, 1) := by decide +kernel
theorem dX9_nameHere_17 : decode cX9_nameHere 17 = .ok (.aload_n 0, 1) := by decide +kernel
theorem dX9_nameHere_18 : decode cX9_nameHere 18 = .ok (.getfield 180, 3) := by decide +kernel
theorem dX9_nameHere_21 : decode cX9_nameHere 21 = .ok (.if_icmp .ge 45, 3) := by decide +kernel
theorem dX9_nameHere_24 : decode cX9_nameHere 24 = .ok (.aload_n 0, 1) := by decide +kernel
theorem dX9_nameHere_25 : decode cX9_nameHere 25 = .ok (.getfield 76, 3) := by decide +kernel
theorem dX9_nameHere_28 : decode cX9_nameHere 28 = .ok (.iload_n 2, 1) := by decide +kernel
theorem dX9_nameHere_29 : decode cX9_nameHere 29 = .ok (.laload, 1) := by decide +kernel
theorem dX9_nameHere_30 : decode cX9_nameHere 30 = .ok (.aload_n 0, 1) := by decide +kernel
theorem dX9_nameHere_31 : decode cX9_nameHere 31 = .ok (.getfield 30, 3) := by decide +kernel
theorem dX9_nameHere_34 : decode cX9_nameHere 34 = .ok (.aload_n 0, 1) := by decide +kernel
theorem dX9_nameHere_35 : decode cX9_nameHere 35 = .ok (.getfield 151, 3) := by decide +kernel
theorem dX9_nameHere_38 : decode cX9_nameHere 38 = .ok (.laload, 1) := by decide +kernel
theorem dX9_nameHere_39 : decode cX9_nameHere 39 = .ok (.lcmp, 1) := by decide +kernel
theorem dX9_nameHere_40 : decode cX9_nameHere 40 = .ok (.ifCond .ne 20, 3) := by decide +kernel
theorem dX9_nameHere_43 : decode cX9_nameHere 43 = .ok (.aload_n 0, 1) := by decide +kernel
theorem dX9_nameHere_44 : decode cX9_nameHere 44 = .ok (.getfield 79, 3) := by decide +kernel
theorem dX9_nameHere_47 : decode cX9_nameHere 47 = .ok (.iload_n 2, 1) := by decide +kernel
theorem dX9_nameHere_48 : decode cX9_nameHere 48 = .ok (.iaload, 1) := by decide +kernel
theorem dX9_nameHere_49 : decode cX9_nameHere 49 = .ok (.iload_n 1, 1) := by decide +kernel
theorem dX9_nameHere_50 : decode cX9_nameHere 50 = .ok (.if_icmp .ne 10, 3) := by decide +kernel
theorem dX9_nameHere_53 : decode cX9_nameHere 53 = .ok (.aload_n 0, 1) := by decide +kernel
theorem dX9_nameHere_54 : decode cX9_nameHere 54 = .ok (.getfield 82, 3) := by decide +kernel
theorem dX9_nameHere_57 : decode cX9_nameHere 57 = .ok (.iload_n 2, 1) := by decide +kernel
theorem dX9_nameHere_58 : decode cX9_nameHere 58 = .ok (.iaload, 1) := by decide +kernel
theorem dX9_nameHere_59 : decode cX9_nameHere 59 = .ok (.ireturn, 1) := by decide +kernel
theorem dX9_nameHere_60 : decode cX9_nameHere 60 = .ok (.iinc 2 1, 3) := by decide +kernel
theorem dX9_nameHere_63 : decode cX9_nameHere 63 = .ok (.goto (-47), 3) := by decide +kernel
theorem dX9_nameHere_66 : decode cX9_nameHere 66 = .ok (.aload_n 0, 1) := by decide +kernel
theorem dX9_nameHere_67 : decode cX9_nameHere 67 = .ok (.iconst 2, 1) := by decide +kernel
theorem dX9_nameHere_68 : decode cX9_nameHere 68 = .ok (.invokevirtual 160, 3) := by decide +kernel
theorem dX9_nameHere_71 : decode cX9_nameHere 71 = .ok (.iconst (-1), 1) := by decide +kernel
theorem dX9_nameHere_72 : decode cX9_nameHere 72 = .ok (.ireturn, 1) := by decide +kernel
theorem dX9_takeName_0 : decode cX9_takeName 0 = .ok (.aload_n 0, 1) := by decide +kernel
theorem dX9_takeName_1 : decode cX9_takeName 1 = .ok (.iload_n 1, 1) := by decide +kernel
theorem dX9_takeName_2 : decode cX9_takeName 2 = .ok (.invokevirtual 219, 3) := by decide +kernel
theorem dX9_takeName_5 : decode cX9_takeName 5 = .ok (.istore_n 2, 1) := by decide +kernel
theorem dX9_takeName_6 : decode cX9_takeName 6 = .ok (.aload_n 0, 1) := by decide +kernel
theorem dX9_takeName_7 : decode cX9_takeName 7 = .ok (.dup, 1) := by decide +kernel
theorem dX9_takeName_8 : decode cX9_takeName 8 = .ok (.getfield 151, 3) := by decide +kernel
theorem dX9_takeName_11 : decode cX9_takeName 11 = .ok (.iload_n 2, 1) := by decide +kernel
theorem dX9_takeName_12 : decode cX9_takeName 12 = .ok (.ifCond .ge 7, 3) := by decide +kernel
theorem dX9_takeName_15 : decode cX9_takeName 15 = .ok (.iconst 0, 1) := by decide +kernel
theorem dX9_takeName_16 : decode cX9_takeName 16 = .ok (.goto 4, 3) := by decide +kernel
theorem dX9_takeName_19 : decode cX9_takeName 19 = .ok (.iconst 1, 1) := by decide +kernel
theorem dX9_takeName_20 : decode cX9_takeName 20 = .ok (.iadd, 1) := by decide +kernel
theorem dX9_takeName_21 : decode cX9_takeName 21 = .ok (.putfield 151, 3) := by decide +kernel
theorem dX9_takeName_24 : decode cX9_takeName 24 = .ok (.iload_n 2, 1) := by decide +kernel
theorem dX9_takeName_25 : decode cX9_takeName 25 = .ok (.ireturn, 1) := by decide +kernel
theorem dX9_takeOther_0 : decode cX9_takeOther 0 = .ok (.aload_n 0, 1) := by decide +kernel
theorem dX9_takeOther_1 : decode cX9_takeOther 1 = .ok (.getfield 154, 3) := by decide +kernel
theorem dX9_takeOther_4 : decode cX9_takeOther 4 = .ok (.ifCond .le 7, 3) := by decide +kernel
theorem dX9_takeOther_7 : decode cX9_takeOther 7 = .ok (.iconst (-1), 1) := by decide +kernel
theorem dX9_takeOther_8 : decode cX9_takeOther 8 = .ok (.goto 8, 3) := by decide +kernel
theorem dX9_takeOther_11 : decode cX9_takeOther 11 = .ok (.aload_n 0, 1) := by decide +kernel
theorem dX9_takeOther_12 : decode cX9_takeOther 12 = .ok (.iload_n 1, 1) := by decide +kernel
theorem dX9_takeOther_13 : decode cX9_takeOther 13 = .ok (.invokevirtual 219, 3) := by decide +kernel
theorem dX9_takeOther_16 : decode cX9_takeOther 16 = .ok (.istore_n 3, 1) := by decide +kernel
theorem dX9_takeOther_17 : decode cX9_takeOther 17 = .ok (.iload_n 3, 1) := by decide +kernel
theorem dX9_takeOther_18 : decode cX9_takeOther 18 = .ok (.ifCond .lt 13, 3) := by decide +kernel
theorem dX9_takeOther_21 : decode cX9_takeOther 21 = .ok (.iload_n 3, 1) := by decide +kernel
theorem dX9_takeOther_22 : decode cX9_takeOther 22 = .ok (.iload_n 2, 1) := by decide +kernel
theorem dX9_takeOther_23 : decode cX9_takeOther 23 = .ok (.if_icmp .ne 8, 3) := by decide +kernel
theorem dX9_takeOther_26 : decode cX9_takeOther 26 = .ok (.aload_n 0, 1) := by decide +kernel
theorem dX9_takeOther_27 : decode cX9_takeOther 27 = .ok (.iconst 3, 1) := by decide +kernel
theorem dX9_takeOther_28 : decode cX9_takeOther 28 = .ok (.invokevirtual 160, 3) := by decide +kernel
theorem dX9_takeOther_31 : decode cX9_takeOther 31 = .ok (.aload_n 0, 1) := by decide +kernel
theorem dX9_takeOther_32 : decode cX9_takeOther 32 = .ok (.dup, 1) := by decide +kernel
theorem dX9_takeOther_33 : decode cX9_takeOther 33 = .ok (.getfield 151, 3) := by decide +kernel
theorem dX9_takeOther_36 : decode cX9_takeOther 36 = .ok (.iload_n 3, 1) := by decide +kernel
theorem dX9_takeOther_37 : decode cX9_takeOther 37 = .ok (.ifCond .lt 10, 3) := by decide +kernel
theorem dX9_takeOther_40 : decode cX9_takeOther 40 = .ok (.aload_n 0, 1) := by decide +kernel
theorem dX9_takeOther_41 : decode cX9_takeOther 41 = .ok (.getfield 154, 3) := by decide +kernel
theorem dX9_takeOther_44 : decode cX9_takeOther 44 = .ok (.ifCond .le 7, 3) := by decide +kernel
theorem dX9_takeOther_47 : decode cX9_takeOther 47 = .ok (.iconst 0, 1) := by decide +kernel
theorem dX9_takeOther_48 : decode cX9_takeOther 48 = .ok (.goto 4, 3) := by decide +kernel
theorem dX9_takeOther_51 : decode cX9_takeOther 51 = .ok (.iconst 1, 1) := by decide +kernel
theorem dX9_takeOther_52 : decode cX9_takeOther 52 = .ok (.iadd, 1) := by decide +kernel
theorem dX9_takeOther_53 : decode cX9_takeOther 53 = .ok (.putfield 151, 3) := by decide +kernel
theorem dX9_takeOther_56 : decode cX9_takeOther 56 = .ok (.iload_n 3, 1) := by decide +kernel
theorem dX9_takeOther_57 : decode cX9_takeOther 57 = .ok (.ireturn, 1) := by decide +kernel
theorem dX9_readBack_0 : decode cX9_readBack 0 = .ok (.aload_n 0, 1) := by decide +kernel
theorem dX9_readBack_1 : decode cX9_readBack 1 = .ok (.getfield 73, 3) := by decide +kernel
theorem dX9_readBack_4 : decode cX9_readBack 4 = .ok (.sipush 480, 3) := by decide +kernel
theorem dX9_readBack_7 : decode cX9_readBack 7 = .ok (.iaload, 1) := by decide +kernel
theorem dX9_readBack_8 : decode cX9_readBack 8 = .ok (.iconst 1, 1) := by decide +kernel
theorem dX9_readBack_9 : decode cX9_readBack 9 = .ok (.isub, 1) := by decide +kernel
theorem dX9_readBack_10 : decode cX9_readBack 10 = .ok (.istore_n 1, 1) := by decide +kernel
theorem dX9_readBack_11 : decode cX9_readBack 11 = .ok (.iload_n 1, 1) := by decide +kernel
theorem dX9_readBack_12 : decode cX9_readBack 12 = .ok (.ifCond .ge 9, 3) := by decide +kernel
theorem dX9_readBack_15 : decode cX9_readBack 15 = .ok (.aload_n 0, 1) := by decide +kernel
theorem dX9_readBack_16 : decode cX9_readBack 16 = .ok (.iconst 1, 1) := by decide +kernel
theorem dX9_readBack_17 : decode cX9_readBack 17 = .ok (.invokevirtual 160, 3) := by decide +kernel
theorem dX9_readBack_20 : decode cX9_readBack 20 = .ok (.return_, 1) := by decide +kernel
theorem dX9_readBack_21 : decode cX9_readBack 21 = .ok (.sipush 481, 3) := by decide +kernel
theorem dX9_readBack_24 : decode cX9_readBack 24 = .ok (.bipush 25, 2) := by decide +kernel
theorem dX9_readBack_26 : decode cX9_readBack 26 = .ok (.iload_n 1, 1) := by decide +kernel
theorem dX9_readBack_27 : decode cX9_readBack 27 = .ok (.imul, 1) := by decide +kernel
theorem dX9_readBack_28 : decode cX9_readBack 28 = .ok (.iadd, 1) := by decide +kernel
theorem dX9_readBack_29 : decode cX9_readBack 29 = .ok (.istore_n 2, 1) := by decide +kernel
theorem dX9_readBack_30 : decode cX9_readBack 30 = .ok (.aload_n 0, 1) := by decide +kernel
theorem dX9_readBack_31 : decode cX9_readBack 31 = .ok (.getfield 73, 3) := by decide +kernel
theorem dX9_readBack_34 : decode cX9_readBack 34 = .ok (.iload_n 2, 1) := by decide +kernel
theorem dX9_readBack_35 : decode cX9_readBack 35 = .ok (.iaload, 1) := by decide +kernel
theorem dX9_readBack_36 : decode cX9_readBack 36 = .ok (.istore_n 3, 1) := by decide +kernel
theorem dX9_readBack_37 : decode cX9_readBack 37 = .ok (.iload_n 3, 1) := by decide +kernel
theorem dX9_readBack_38 : decode cX9_readBack 38 = .ok (.bipush 12, 2) := by decide +kernel
theorem dX9_readBack_40 : decode cX9_readBack 40 = .ok (.if_icmp .ne 9, 3) := by decide +kernel
theorem dX9_readBack_43 : decode cX9_readBack 43 = .ok (.aload_n 0, 1) := by decide +kernel
theorem dX9_readBack_44 : decode cX9_readBack 44 = .ok (.iconst 5, 1) := by decide +kernel
theorem dX9_readBack_45 : decode cX9_readBack 45 = .ok (.invokevirtual 160, 3) := by decide +kernel
theorem dX9_readBack_48 : decode cX9_readBack 48 = .ok (.return_, 1) := by decide +kernel
theorem dX9_readBack_49 : decode cX9_readBack 49 = .ok (.aload_n 0, 1) := by decide +kernel
theorem dX9_readBack_50 : decode cX9_readBack 50 = .ok (.dup, 1) := by decide +kernel
theorem dX9_readBack_51 : decode cX9_readBack 51 = .ok (.getfield 151, 3) := by decide +kernel
theorem dX9_readBack_54 : decode cX9_readBack 54 = .ok (.iconst 1, 1) := by decide +kernel
theorem dX9_readBack_55 : decode cX9_readBack 55 = .ok (.iadd, 1) := by decide +kernel
theorem dX9_readBack_56 : decode cX9_readBack 56 = .ok (.putfield 151, 3) := by decide +kernel
theorem dX9_readBack_59 : decode cX9_readBack 59 = .ok (.iconst 0, 1) := by decide +kernel
theorem dX9_readBack_60 : decode cX9_readBack 60 = .ok (.istore 4, 2) := by decide +kernel
theorem dX9_readBack_62 : decode cX9_readBack 62 = .ok (.iload 4, 2) := by decide +kernel
theorem dX9_readBack_64 : decode cX9_readBack 64 = .ok (.iload_n 3, 1) := by decide +kernel
theorem dX9_readBack_65 : decode cX9_readBack 65 = .ok (.if_icmp .ge 61, 3) := by decide +kernel
theorem dX9_readBack_68 : decode cX9_readBack 68 = .ok (.aload_n 0, 1) := by decide +kernel
theorem dX9_readBack_69 : decode cX9_readBack 69 = .ok (.getfield 154, 3) := by decide +kernel
theorem dX9_readBack_72 : decode cX9_readBack 72 = .ok (.ifCond .ne 54, 3) := by decide +kernel
theorem dX9_readBack_75 : decode cX9_readBack 75 = .ok (.aload_n 0, 1) := by decide +kernel
theorem dX9_readBack_76 : decode cX9_readBack 76 = .ok (.getfield 24, 3) := by decide +kernel
theorem dX9_readBack_79 : decode cX9_readBack 79 = .ok (.aload_n 0, 1) := by decide +kernel
theorem dX9_readBack_80 : decode cX9_readBack 80 = .ok (.getfield 151, 3) := by decide +kernel
theorem dX9_readBack_83 : decode cX9_readBack 83 = .ok (.iaload, 1) := by decide +kernel
theorem dX9_readBack_84 : decode cX9_readBack 84 = .ok (.iconst 2, 1) := by decide +kernel
theorem dX9_readBack_85 : decode cX9_readBack 85 = .ok (.if_icmp .ne 41, 3) := by decide +kernel
theorem dX9_readBack_88 : decode cX9_readBack 88 = .ok (.aload_n 0, 1) := by decide +kernel
theorem dX9_readBack_89 : decode cX9_readBack 89 = .ok (.getfield 73, 3) := by decide +kernel
theorem dX9_readBack_92 : decode cX9_readBack 92 = .ok (.iload_n 2, 1) := by decide +kernel
theorem dX9_readBack_93 : decode cX9_readBack 93 = .ok (.iconst 1, 1) := by decide +kernel
theorem dX9_readBack_94 : decode cX9_readBack 94 = .ok (.iadd, 1) := by decide +kernel
theorem dX9_readBack_95 : decode cX9_readBack 95 = .ok (.iconst 2, 1) := by decide +kernel
theorem dX9_readBack_96 : decode cX9_readBack 96 = .ok (.iload 4, 2) := by decide +kernel
theorem dX9_readBack_98 : decode cX9_readBack 98 = .ok (.imul, 1) := by decide +kernel
theorem dX9_readBack_99 : decode cX9_readBack 99 = .ok (.iadd, 1) := by decide +kernel
theorem dX9_readBack_100 : decode cX9_readBack 100 = .ok (.iaload, 1) := by decide +kernel
theorem dX9_readBack_101 : decode cX9_readBack 101 = .ok (.i2l, 1) := by decide +kernel
theorem dX9_readBack_102 : decode cX9_readBack 102 = .ok (.aload_n 0, 1) := by decide +kernel
theorem dX9_readBack_103 : decode cX9_readBack 103 = .ok (.getfield 30, 3) := by decide +kernel
theorem dX9_readBack_106 : decode cX9_readBack 106 = .ok (.aload_n 0, 1) := by decide +kernel
theorem dX9_readBack_107 : decode cX9_readBack 107 = .ok (.getfield 151, 3) := by decide +kernel
theorem dX9_readBack_110 : decode cX9_readBack 110 = .ok (.laload, 1) := by decide +kernel
theorem dX9_readBack_111 : decode cX9_readBack 111 = .ok (.lcmp, 1) := by decide +kernel
theorem dX9_readBack_112 : decode cX9_readBack 112 = .ok (.ifCond .ne 8, 3) := by decide +kernel
theorem dX9_readBack_115 : decode cX9_readBack 115 = .ok (.aload_n 0, 1) := by decide +kernel
theorem dX9_readBack_116 : decode cX9_readBack 116 = .ok (.iconst 3, 1) := by decide +kernel
theorem dX9_readBack_117 : decode cX9_readBack 117 = .ok (.invokevirtual 160, 3) := by decide +kernel
theorem dX9_readBack_120 : decode cX9_readBack 120 = .ok (.iinc 4 1, 3) := by decide +kernel
theorem dX9_readBack_123 : decode cX9_readBack 123 = .ok (.goto (-61), 3) := by decide +kernel
theorem dX9_readBack_126 : decode cX9_readBack 126 = .ok (.aload_n 0, 1) := by decide +kernel
theorem dX9_readBack_127 : decode cX9_readBack 127 = .ok (.iconst 0, 1) := by decide +kernel
theorem dX9_readBack_128 : decode cX9_readBack 128 = .ok (.sipush 3649, 3) := by decide +kernel
theorem dX9_readBack_131 : decode cX9_readBack 131 = .ok (.invokevirtual 173, 3) := by decide +kernel
theorem dX9_readBack_134 : decode cX9_readBack 134 = .ok (.istore 4, 2) := by decide +kernel
theorem dX9_readBack_136 : decode cX9_readBack 136 = .ok (.aload_n 0, 1) := by decide +kernel
theorem dX9_readBack_137 : decode cX9_readBack 137 = .ok (.iconst 2, 1) := by decide +kernel
theorem dX9_readBack_138 : decode cX9_readBack 138 = .ok (.iconst 1, 1) := by decide +kernel
theorem dX9_readBack_139 : decode cX9_readBack 139 = .ok (.bipush 24, 2) := by decide +kernel
theorem dX9_readBack_141 : decode cX9_readBack 141 = .ok (.invokevirtual 222, 3) := by decide +kernel
theorem dX9_readBack_144 : decode cX9_readBack 144 = .ok (.istore 5, 2) := by decide +kernel
theorem dX9_readBack_146 : decode cX9_readBack 146 = .ok (.aload_n 0, 1) := by decide +kernel
theorem dX9_readBack_147 : decode cX9_readBack 147 = .ok (.getfield 154, 3) := by decide +kernel
theorem dX9_readBack_150 : decode cX9_readBack 150 = .ok (.ifCond .le 4, 3) := by decide +kernel
theorem dX9_readBack_153 : decode cX9_readBack 153 = .ok (.return_, 1) := by decide +kernel
theorem dX9_readBack_154 : decode cX9_readBack 154 = .ok (.iload_n 3, 1) := by decide +kernel
theorem dX9_readBack_155 : decode cX9_readBack 155 = .ok (.istore 6, 2) := by decide +kernel
theorem dX9_readBack_157 : decode cX9_readBack 157 = .ok (.iload 6, 2) := by decide +kernel
theorem dX9_readBack_159 : decode cX9_readBack 159 = .ok (.ifCond .le 77, 3) := by decide +kernel
theorem dX9_readBack_162 : decode cX9_readBack 162 = .ok (.aload_n 0, 1) := by decide +kernel
theorem dX9_readBack_163 : decode cX9_readBack 163 = .ok (.getfield 73, 3) := by decide +kernel
theorem dX9_readBack_166 : decode cX9_readBack 166 = .ok (.iload_n 2, 1) := by decide +kernel
theorem dX9_readBack_167 : decode cX9_readBack 167 = .ok (.iconst 2, 1) := by decide +kernel
theorem dX9_readBack_168 : decode cX9_readBack 168 = .ok (.iload 6, 2) := by decide +kernel
theorem dX9_readBack_170 : decode cX9_readBack 170 = .ok (.imul, 1) := by decide +kernel
theorem dX9_readBack_171 : decode cX9_readBack 171 = .ok (.iadd, 1) := by decide +kernel
theorem dX9_readBack_172 : decode cX9_readBack 172 = .ok (.iconst 1, 1) := by decide +kernel
theorem dX9_readBack_173 : decode cX9_readBack 173 = .ok (.isub, 1) := by decide +kernel
theorem dX9_readBack_174 : decode cX9_readBack 174 = .ok (.iaload, 1) := by decide +kernel
theorem dX9_readBack_175 : decode cX9_readBack 175 = .ok (.iload 4, 2) := by decide +kernel
theorem dX9_readBack_177 : decode cX9_readBack 177 = .ok (.if_icmp .le 59, 3) := by decide +kernel
theorem dX9_readBack_180 : decode cX9_readBack 180 = .ok (.aload_n 0, 1) := by decide +kernel
theorem dX9_readBack_181 : decode cX9_readBack 181 = .ok (.getfield 73, 3) := by decide +kernel
theorem dX9_readBack_184 : decode cX9_readBack 184 = .ok (.iload_n 2, 1) := by decide +kernel
theorem dX9_readBack_185 : decode cX9_readBack 185 = .ok (.iconst 1, 1) := by decide +kernel
theorem dX9_readBack_186 : decode cX9_readBack 186 = .ok (.iadd, 1) := by decide +kernel
theorem dX9_readBack_187 : decode cX9_readBack 187 = .ok (.iconst 2, 1) := by decide +kernel
theorem dX9_readBack_188 : decode cX9_readBack 188 = .ok (.iload 6, 2) := by decide +kernel
theorem dX9_readBack_190 : decode cX9_readBack 190 = .ok (.imul, 1) := by decide +kernel
theorem dX9_readBack_191 : decode cX9_readBack 191 = .ok (.iadd, 1) := by decide +kernel
theorem dX9_readBack_192 : decode cX9_readBack 192 = .ok (.aload_n 0, 1) := by decide +kernel
theorem dX9_readBack_193 : decode cX9_readBack 193 = .ok (.getfield 73, 3) := by decide +kernel
theorem dX9_readBack_196 : decode cX9_readBack 196 = .ok (.iload_n 2, 1) := by decide +kernel
theorem dX9_readBack_197 : decode cX9_readBack 197 = .ok (.iconst 2, 1) := by decide +kernel
theorem dX9_readBack_198 : decode cX9_readBack 198 = .ok (.iload 6, 2) := by decide +kernel
theorem dX9_readBack_200 : decode cX9_readBack 200 = .ok (.imul, 1) := by decide +kernel
theorem dX9_readBack_201 : decode cX9_readBack 201 = .ok (.iadd, 1) := by decide +kernel
theorem dX9_readBack_202 : decode cX9_readBack 202 = .ok (.iconst 1, 1) := by decide +kernel
theorem dX9_readBack_203 : decode cX9_readBack 203 = .ok (.isub, 1) := by decide +kernel
theorem dX9_readBack_204 : decode cX9_readBack 204 = .ok (.iaload, 1) := by decide +kernel
theorem dX9_readBack_205 : decode cX9_readBack 205 = .ok (.iastore, 1) := by decide +kernel
theorem dX9_readBack_206 : decode cX9_readBack 206 = .ok (.aload_n 0, 1) := by decide +kernel
theorem dX9_readBack_207 : decode cX9_readBack 207 = .ok (.getfield 73, 3) := by decide +kernel
theorem dX9_readBack_210 : decode cX9_readBack 210 = .ok (.iload_n 2, 1) := by decide +kernel
theorem dX9_readBack_211 : decode cX9_readBack 211 = .ok (.iconst 2, 1) := by decide +kernel
theorem dX9_readBack_212 : decode cX9_readBack 212 = .ok (.iadd, 1) := by decide +kernel
theorem dX9_readBack_213 : decode cX9_readBack 213 = .ok (.iconst 2, 1) := by decide +kernel
theorem dX9_readBack_214 : decode cX9_readBack 214 = .ok (.iload 6, 2) := by decide +kernel
theorem dX9_readBack_216 : decode cX9_readBack 216 = .ok (.imul, 1) := by decide +kernel
theorem dX9_readBack_217 : decode cX9_readBack 217 = .ok (.iadd, 1) := by decide +kernel
theorem dX9_readBack_218 : decode cX9_readBack 218 = .ok (.aload_n 0, 1) := by decide +kernel
theorem dX9_readBack_219 : decode cX9_readBack 219 = .ok (.getfield 73, 3) := by decide +kernel
theorem dX9_readBack_222 : decode cX9_readBack 222 = .ok (.iload_n 2, 1) := by decide +kernel
theorem dX9_readBack_223 : decode cX9_readBack 223 = .ok (.iconst 2, 1) := by decide +kernel
theorem dX9_readBack_224 : decode cX9_readBack 224 = .ok (.iload 6, 2) := by decide +kernel
theorem dX9_readBack_226 : decode cX9_readBack 226 = .ok (.imul, 1) := by decide +kernel
theorem dX9_readBack_227 : decode cX9_readBack 227 = .ok (.iadd, 1) := by decide +kernel
theorem dX9_readBack_228 : decode cX9_readBack 228 = .ok (.iaload, 1) := by decide +kernel
theorem dX9_readBack_229 : decode cX9_readBack 229 = .ok (.iastore, 1) := by decide +kernel
theorem dX9_readBack_230 : decode cX9_readBack 230 = .ok (.iinc 6 (-1), 3) := by decide +kernel
theorem dX9_readBack_233 : decode cX9_readBack 233 = .ok (.goto (-76), 3) := by decide +kernel
theorem dX9_readBack_236 : decode cX9_readBack 236 = .ok (.aload_n 0, 1) := by decide +kernel
theorem dX9_readBack_237 : decode cX9_readBack 237 = .ok (.getfield 73, 3) := by decide +kernel
theorem dX9_readBack_240 : decode cX9_readBack 240 = .ok (.iload_n 2, 1) := by decide +kernel
theorem dX9_readBack_241 : decode cX9_readBack 241 = .ok (.iconst 1, 1) := by decide +kernel
theorem dX9_readBack_242 : decode cX9_readBack 242 = .ok (.iadd, 1) := by decide +kernel
theorem dX9_readBack_243 : decode cX9_readBack 243 = .ok (.iconst 2, 1) := by decide +kernel
theorem dX9_readBack_244 : decode cX9_readBack 244 = .ok (.iload 6, 2) := by decide +kernel
theorem dX9_readBack_246 : decode cX9_readBack 246 = .ok (.imul, 1) := by decide +kernel
theorem dX9_readBack_247 : decode cX9_readBack 247 = .ok (.iadd, 1) := by decide +kernel
theorem dX9_readBack_248 : decode cX9_readBack 248 = .ok (.iload 4, 2) := by decide +kernel
theorem dX9_readBack_250 : decode cX9_readBack 250 = .ok (.iastore, 1) := by decide +kernel
theorem dX9_readBack_251 : decode cX9_readBack 251 = .ok (.aload_n 0, 1) := by decide +kernel
theorem dX9_readBack_252 : decode cX9_readBack 252 = .ok (.getfield 73, 3) := by decide +kernel
theorem dX9_readBack_255 : decode cX9_readBack 255 = .ok (.iload_n 2, 1) := by decide +kernel
theorem dX9_readBack_256 : decode cX9_readBack 256 = .ok (.iconst 2, 1) := by decide +kernel
theorem dX9_readBack_257 : decode cX9_readBack 257 = .ok (.iadd, 1) := by decide +kernel
theorem dX9_readBack_258 : decode cX9_readBack 258 = .ok (.iconst 2, 1) := by decide +kernel
theorem dX9_readBack_259 : decode cX9_readBack 259 = .ok (.iload 6, 2) := by decide +kernel
theorem dX9_readBack_261 : decode cX9_readBack 261 = .ok (.imul, 1) := by decide +kernel
theorem dX9_readBack_262 : decode cX9_readBack 262 = .ok (.iadd, 1) := by decide +kernel
theorem dX9_readBack_263 : decode cX9_readBack 263 = .ok (.iload 5, 2) := by decide +kernel
theorem dX9_readBack_265 : decode cX9_readBack 265 = .ok (.iastore, 1) := by decide +kernel
theorem dX9_readBack_266 : decode cX9_readBack 266 = .ok (.aload_n 0, 1) := by decide +kernel
theorem dX9_readBack_267 : decode cX9_readBack 267 = .ok (.getfield 73, 3) := by decide +kernel
theorem dX9_readBack_270 : decode cX9_readBack 270 = .ok (.iload_n 2, 1) := by decide +kernel
theorem dX9_readBack_271 : decode cX9_readBack 271 = .ok (.dup2, 1) := by decide +kernel
theorem dX9_readBack_272 : decode cX9_readBack 272 = .ok (.iaload, 1) := by decide +kernel
theorem dX9_readBack_273 : decode cX9_readBack 273 = .ok (.iconst 1, 1) := by decide +kernel
theorem dX9_readBack_274 : decode cX9_readBack 274 = .ok (.iadd, 1) := by decide +kernel
theorem dX9_readBack_275 : decode cX9_readBack 275 = .ok (.iastore, 1) := by decide +kernel
theorem dX9_readBack_276 : decode cX9_readBack 276 = .ok (.return_, 1) := by decide +kernel
theorem dX9_readWay_0 : decode cX9_readWay 0 = .ok (.aload_n 0, 1) := by decide +kernel
theorem dX9_readWay_1 : decode cX9_readWay 1 = .ok (.dup, 1) := by decide +kernel
theorem dX9_readWay_2 : decode cX9_readWay 2 = .ok (.getfield 151, 3) := by decide +kernel
theorem dX9_readWay_5 : decode cX9_readWay 5 = .ok (.iconst 1, 1) := by decide +kernel
theorem dX9_readWay_6 : decode cX9_readWay 6 = .ok (.iadd, 1) := by decide +kernel
theorem dX9_readWay_7 : decode cX9_readWay 7 = .ok (.putfield 151, 3) := by decide +kernel
theorem dX9_readWay_10 : decode cX9_readWay 10 = .ok (.aload_n 0, 1) := by decide +kernel
theorem dX9_readWay_11 : decode cX9_readWay 11 = .ok (.iconst 0, 1) := by decide +kernel
theorem dX9_readWay_12 : decode cX9_readWay 12 = .ok (.invokevirtual 225, 3) := by decide +kernel
theorem dX9_readWay_15 : decode cX9_readWay 15 = .ok (.istore_n 1, 1) := by decide +kernel
theorem dX9_readWay_16 : decode cX9_readWay 16 = .ok (.aload_n 0, 1) := by decide +kernel
theorem dX9_readWay_17 : decode cX9_readWay 17 = .ok (.getfield 154, 3) := by decide +kernel
theorem dX9_readWay_20 : decode cX9_readWay 20 = .ok (.ifCond .le 7, 3) := by decide +kernel
theorem dX9_readWay_23 : decode cX9_readWay 23 = .ok (.iconst (-1), 1) := by decide +kernel
theorem dX9_readWay_24 : decode cX9_readWay 24 = .ok (.goto 8, 3) := by decide +kernel
theorem dX9_readWay_27 : decode cX9_readWay 27 = .ok (.aload_n 0, 1) := by decide +kernel
theorem dX9_readWay_28 : decode cX9_readWay 28 = .ok (.iconst 0, 1) := by decide +kernel
theorem dX9_readWay_29 : decode cX9_readWay 29 = .ok (.invokevirtual 219, 3) := by decide +kernel
theorem dX9_readWay_32 : decode cX9_readWay 32 = .ok (.istore_n 2, 1) := by decide +kernel
theorem dX9_readWay_33 : decode cX9_readWay 33 = .ok (.iload_n 2, 1) := by decide +kernel
theorem dX9_readWay_34 : decode cX9_readWay 34 = .ok (.ifCond .lt 30, 3) := by decide +kernel
theorem dX9_readWay_37 : decode cX9_readWay 37 = .ok (.iload_n 2, 1) := by decide +kernel
theorem dX9_readWay_38 : decode cX9_readWay 38 = .ok (.iload_n 1, 1) := by decide +kernel
theorem dX9_readWay_39 : decode cX9_readWay 39 = .ok (.if_icmp .eq 20, 3) := by decide +kernel
theorem dX9_readWay_42 : decode cX9_readWay 42 = .ok (.aload_n 0, 1) := by decide +kernel
theorem dX9_readWay_43 : decode cX9_readWay 43 = .ok (.getfield 73, 3) := by decide +kernel
theorem dX9_readWay_46 : decode cX9_readWay 46 = .ok (.sipush 556, 3) := by decide +kernel
theorem dX9_readWay_49 : decode cX9_readWay 49 = .ok (.iconst 3, 1) := by decide +kernel
theorem dX9_readWay_50 : decode cX9_readWay 50 = .ok (.iload_n 1, 1) := by decide +kernel
theorem dX9_readWay_51 : decode cX9_readWay 51 = .ok (.imul, 1) := by decide +kernel
theorem dX9_readWay_52 : decode cX9_readWay 52 = .ok (.iadd, 1) := by decide +kernel
theorem dX9_readWay_53 : decode cX9_readWay 53 = .ok (.iload_n 2, 1) := by decide +kernel
theorem dX9_readWay_54 : decode cX9_readWay 54 = .ok (.iadd, 1) := by decide +kernel
theorem dX9_readWay_55 : decode cX9_readWay 55 = .ok (.iaload, 1) := by decide +kernel
theorem dX9_readWay_56 : decode cX9_readWay 56 = .ok (.ifCond .le 8, 3) := by decide +kernel
theorem dX9_readWay_59 : decode cX9_readWay 59 = .ok (.aload_n 0, 1) := by decide +kernel
theorem dX9_readWay_60 : decode cX9_readWay 60 = .ok (.iconst 3, 1) := by decide +kernel
theorem dX9_readWay_61 : decode cX9_readWay 61 = .ok (.invokevirtual 160, 3) := by decide +kernel
theorem dX9_readWay_64 : decode cX9_readWay 64 = .ok (.aload_n 0, 1) := by decide +kernel
theorem dX9_readWay_65 : decode cX9_readWay 65 = .ok (.dup, 1) := by decide +kernel
theorem dX9_readWay_66 : decode cX9_readWay 66 = .ok (.getfield 151, 3) := by decide +kernel
theorem dX9_readWay_69 : decode cX9_readWay 69 = .ok (.aload_n 0, 1) := by decide +kernel
theorem dX9_readWay_70 : decode cX9_readWay 70 = .ok (.getfield 154, 3) := by decide +kernel
theorem dX9_readWay_73 : decode cX9_readWay 73 = .ok (.ifCond .le 7, 3) := by decide +kernel
theorem dX9_readWay_76 : decode cX9_readWay 76 = .ok (.iconst 0, 1) := by decide +kernel
theorem dX9_readWay_77 : decode cX9_readWay 77 = .ok (.goto 4, 3) := by decide +kernel
theorem dX9_readWay_80 : decode cX9_readWay 80 = .ok (.iconst 1, 1) := by decide +kernel
theorem dX9_readWay_81 : decode cX9_readWay 81 = .ok (.iadd, 1) := by decide +kernel
theorem dX9_readWay_82 : decode cX9_readWay 82 = .ok (.putfield 151, 3) := by decide +kernel
theorem dX9_readWay_85 : decode cX9_readWay 85 = .ok (.aload_n 0, 1) := by decide +kernel
theorem dX9_readWay_86 : decode cX9_readWay 86 = .ok (.iconst 1, 1) := by decide +kernel
theorem dX9_readWay_87 : decode cX9_readWay 87 = .ok (.sipush 9999, 3) := by decide +kernel
theorem dX9_readWay_90 : decode cX9_readWay 90 = .ok (.invokevirtual 173, 3) := by decide +kernel
theorem dX9_readWay_93 : decode cX9_readWay 93 = .ok (.istore_n 3, 1) := by decide +kernel
theorem dX9_readWay_94 : decode cX9_readWay 94 = .ok (.aload_n 0, 1) := by decide +kernel
theorem dX9_readWay_95 : decode cX9_readWay 95 = .ok (.getfield 154, 3) := by decide +kernel
theorem dX9_readWay_98 : decode cX9_readWay 98 = .ok (.ifCond .ne 33, 3) := by decide +kernel
theorem dX9_readWay_101 : decode cX9_readWay 101 = .ok (.aload_n 0, 1) := by decide +kernel
theorem dX9_readWay_102 : decode cX9_readWay 102 = .ok (.getfield 73, 3) := by decide +kernel
theorem dX9_readWay_105 : decode cX9_readWay 105 = .ok (.sipush 556, 3) := by decide +kernel
theorem dX9_readWay_108 : decode cX9_readWay 108 = .ok (.iconst 3, 1) := by decide +kernel
theorem dX9_readWay_109 : decode cX9_readWay 109 = .ok (.iload_n 1, 1) := by decide +kernel
theorem dX9_readWay_110 : decode cX9_readWay 110 = .ok (.imul, 1) := by decide +kernel
theorem dX9_readWay_111 : decode cX9_readWay 111 = .ok (.iadd, 1) := by decide +kernel
theorem dX9_readWay_112 : decode cX9_readWay 112 = .ok (.iload_n 2, 1) := by decide +kernel
theorem dX9_readWay_113 : decode cX9_readWay 113 = .ok (.iadd, 1) := by decide +kernel
theorem dX9_readWay_114 : decode cX9_readWay 114 = .ok (.iload_n 3, 1) := by decide +kernel
theorem dX9_readWay_115 : decode cX9_readWay 115 = .ok (.iastore, 1) := by decide +kernel
theorem dX9_readWay_116 : decode cX9_readWay 116 = .ok (.aload_n 0, 1) := by decide +kernel
theorem dX9_readWay_117 : decode cX9_readWay 117 = .ok (.getfield 73, 3) := by decide +kernel
theorem dX9_readWay_120 : decode cX9_readWay 120 = .ok (.sipush 556, 3) := by decide +kernel
theorem dX9_readWay_123 : decode cX9_readWay 123 = .ok (.iconst 3, 1) := by decide +kernel
theorem dX9_readWay_124 : decode cX9_readWay 124 = .ok (.iload_n 2, 1) := by decide +kernel
theorem dX9_readWay_125 : decode cX9_readWay 125 = .ok (.imul, 1) := by decide +kernel
theorem dX9_readWay_126 : decode cX9_readWay 126 = .ok (.iadd, 1) := by decide +kernel
theorem dX9_readWay_127 : decode cX9_readWay 127 = .ok (.iload_n 1, 1) := by decide +kernel
theorem dX9_readWay_128 : decode cX9_readWay 128 = .ok (.iadd, 1) := by decide +kernel
theorem dX9_readWay_129 : decode cX9_readWay 129 = .ok (.iload_n 3, 1) := by decide +kernel
theorem dX9_readWay_130 : decode cX9_readWay 130 = .ok (.iastore, 1) := by decide +kernel
theorem dX9_readWay_131 : decode cX9_readWay 131 = .ok (.return_, 1) := by decide +kernel
theorem dX9_readWork_0 : decode cX9_readWork 0 = .ok (.sipush 566, 3) := by decide +kernel
theorem dX9_readWork_3 : decode cX9_readWork 3 = .ok (.iconst 5, 1) := by decide +kernel
theorem dX9_readWork_4 : decode cX9_readWork 4 = .ok (.aload_n 0, 1) := by decide +kernel
theorem dX9_readWork_5 : decode cX9_readWork 5 = .ok (.bipush 85, 2) := by decide +kernel
theorem dX9_readWork_7 : decode cX9_readWork 7 = .ok (.bipush 8, 2) := by decide +kernel
theorem dX9_readWork_9 : decode cX9_readWork 9 = .ok (.iconst 1, 1) := by decide +kernel
theorem dX9_readWork_10 : decode cX9_readWork 10 = .ok (.invokevirtual 193, 3) := by decide +kernel
theorem dX9_readWork_13 : decode cX9_readWork 13 = .ok (.imul, 1) := by decide +kernel
theorem dX9_readWork_14 : decode cX9_readWork 14 = .ok (.iadd, 1) := by decide +kernel
theorem dX9_readWork_15 : decode cX9_readWork 15 = .ok (.istore_n 1, 1) := by decide +kernel
theorem dX9_readWork_16 : decode cX9_readWork 16 = .ok (.aload_n 0, 1) := by decide +kernel
theorem dX9_readWork_17 : decode cX9_readWork 17 = .ok (.getfield 154, 3) := by decide +kernel
theorem dX9_readWork_20 : decode cX9_readWork 20 = .ok (.ifCond .le 4, 3) := by decide +kernel
theorem dX9_readWork_23 : decode cX9_readWork 23 = .ok (.return_, 1) := by decide +kernel
theorem dX9_readWork_24 : decode cX9_readWork 24 = .ok (.aload_n 0, 1) := by decide +kernel
theorem dX9_readWork_25 : decode cX9_readWork 25 = .ok (.getfield 73, 3) := by decide +kernel
theorem dX9_readWork_28 : decode cX9_readWork 28 = .ok (.iload_n 1, 1) := by decide +kernel
theorem dX9_readWork_29 : decode cX9_readWork 29 = .ok (.aload_n 0, 1) := by decide +kernel
theorem dX9_readWork_30 : decode cX9_readWork 30 = .ok (.iconst 5, 1) := by decide +kernel
theorem dX9_readWork_31 : decode cX9_readWork 31 = .ok (.iconst 0, 1) := by decide +kernel
theorem dX9_readWork_32 : decode cX9_readWork 32 = .ok (.sipush 3649, 3) := by decide +kernel
theorem dX9_readWork_35 : decode cX9_readWork 35 = .ok (.invokevirtual 222, 3) := by decide +kernel
theorem dX9_readWork_38 : decode cX9_readWork 38 = .ok (.iastore, 1) := by decide +kernel
theorem dX9_readWork_39 : decode cX9_readWork 39 = .ok (.aload_n 0, 1) := by decide +kernel
theorem dX9_readWork_40 : decode cX9_readWork 40 = .ok (.getfield 73, 3) := by decide +kernel
theorem dX9_readWork_43 : decode cX9_readWork 43 = .ok (.iload_n 1, 1) := by decide +kernel
theorem dX9_readWork_44 : decode cX9_readWork 44 = .ok (.iconst 1, 1) := by decide +kernel
theorem dX9_readWork_45 : decode cX9_readWork 45 = .ok (.iadd, 1) := by decide +kernel
theorem dX9_readWork_46 : decode cX9_readWork 46 = .ok (.aload_n 0, 1) := by decide +kernel
theorem dX9_readWork_47 : decode cX9_readWork 47 = .ok (.bipush 6, 2) := by decide +kernel
theorem dX9_readWork_49 : decode cX9_readWork 49 = .ok (.iconst 0, 1) := by decide +kernel
theorem dX9_readWork_50 : decode cX9_readWork 50 = .ok (.sipush 1440, 3) := by decide +kernel
theorem dX9_readWork_53 : decode cX9_readWork 53 = .ok (.invokevirtual 222, 3) := by decide +kernel
theorem dX9_readWork_56 : decode cX9_readWork 56 = .ok (.iastore, 1) := by decide +kernel
theorem dX9_readWork_57 : decode cX9_readWork 57 = .ok (.aload_n 0, 1) := by decide +kernel
theorem dX9_readWork_58 : decode cX9_readWork 58 = .ok (.getfield 73, 3) := by decide +kernel
theorem dX9_readWork_61 : decode cX9_readWork 61 = .ok (.iload_n 1, 1) := by decide +kernel
theorem dX9_readWork_62 : decode cX9_readWork 62 = .ok (.iconst 2, 1) := by decide +kernel
theorem dX9_readWork_63 : decode cX9_readWork 63 = .ok (.iadd, 1) := by decide +kernel
theorem dX9_readWork_64 : decode cX9_readWork 64 = .ok (.aload_n 0, 1) := by decide +kernel
theorem dX9_readWork_65 : decode cX9_readWork 65 = .ok (.bipush 7, 2) := by decide +kernel
theorem dX9_readWork_67 : decode cX9_readWork 67 = .ok (.aload_n 0, 1) := by decide +kernel
theorem dX9_readWork_68 : decode cX9_readWork 68 = .ok (.getfield 73, 3) := by decide +kernel
theorem dX9_readWork_71 : decode cX9_readWork 71 = .ok (.iload_n 1, 1) := by decide +kernel
theorem dX9_readWork_72 : decode cX9_readWork 72 = .ok (.iconst 1, 1) := by decide +kernel
theorem dX9_readWork_73 : decode cX9_readWork 73 = .ok (.iadd, 1) := by decide +kernel
theorem dX9_readWork_74 : decode cX9_readWork 74 = .ok (.iaload, 1) := by decide +kernel
theorem dX9_readWork_75 : decode cX9_readWork 75 = .ok (.iconst 1, 1) := by decide +kernel
theorem dX9_readWork_76 : decode cX9_readWork 76 = .ok (.iadd, 1) := by decide +kernel
theorem dX9_readWork_77 : decode cX9_readWork 77 = .ok (.sipush 1440, 3) := by decide +kernel
theorem dX9_readWork_80 : decode cX9_readWork 80 = .ok (.invokevirtual 222, 3) := by decide +kernel
theorem dX9_readWork_83 : decode cX9_readWork 83 = .ok (.iastore, 1) := by decide +kernel
theorem dX9_readWork_84 : decode cX9_readWork 84 = .ok (.aload_n 0, 1) := by decide +kernel
theorem dX9_readWork_85 : decode cX9_readWork 85 = .ok (.getfield 73, 3) := by decide +kernel
theorem dX9_readWork_88 : decode cX9_readWork 88 = .ok (.iload_n 1, 1) := by decide +kernel
theorem dX9_readWork_89 : decode cX9_readWork 89 = .ok (.iconst 3, 1) := by decide +kernel
theorem dX9_readWork_90 : decode cX9_readWork 90 = .ok (.iadd, 1) := by decide +kernel
theorem dX9_readWork_91 : decode cX9_readWork 91 = .ok (.aload_n 0, 1) := by decide +kernel
theorem dX9_readWork_92 : decode cX9_readWork 92 = .ok (.bipush 8, 2) := by decide +kernel
theorem dX9_readWork_94 : decode cX9_readWork 94 = .ok (.iconst 1, 1) := by decide +kernel
theorem dX9_readWork_95 : decode cX9_readWork 95 = .ok (.sipush 1440, 3) := by decide +kernel
theorem dX9_readWork_98 : decode cX9_readWork 98 = .ok (.invokevirtual 222, 3) := by decide +kernel
theorem dX9_readWork_101 : decode cX9_readWork 101 = .ok (.iastore, 1) := by decide +kernel
theorem dX9_readWork_102 : decode cX9_readWork 102 = .ok (.aload_n 0, 1) := by decide +kernel
theorem dX9_readWork_103 : decode cX9_readWork 103 = .ok (.getfield 73, 3) := by decide +kernel
theorem dX9_readWork_106 : decode cX9_readWork 106 = .ok (.iload_n 1, 1) := by decide +kernel
theorem dX9_readWork_107 : decode cX9_readWork 107 = .ok (.iconst 4, 1) := by decide +kernel
theorem dX9_readWork_108 : decode cX9_readWork 108 = .ok (.iadd, 1) := by decide +kernel
theorem dX9_readWork_109 : decode cX9_readWork 109 = .ok (.aload_n 0, 1) := by decide +kernel
theorem dX9_readWork_110 : decode cX9_readWork 110 = .ok (.bipush 9, 2) := by decide +kernel
theorem dX9_readWork_112 : decode cX9_readWork 112 = .ok (.iconst 0, 1) := by decide +kernel
theorem dX9_readWork_113 : decode cX9_readWork 113 = .ok (.sipush 999, 3) := by decide +kernel
theorem dX9_readWork_116 : decode cX9_readWork 116 = .ok (.invokevirtual 222, 3) := by decide +kernel
theorem dX9_readWork_119 : decode cX9_readWork 119 = .ok (.iastore, 1) := by decide +kernel
theorem dX9_readWork_120 : decode cX9_readWork 120 = .ok (.return_, 1) := by decide +kernel
theorem dX9_readPerson_0 : decode cX9_readPerson 0 = .ok (.sipush 607, 3) := by decide +kernel
theorem dX9_readPerson_3 : decode cX9_readPerson 3 = .ok (.bipush 25, 2) := by decide +kernel
theorem dX9_readPerson_5 : decode cX9_readPerson 5 = .ok (.aload_n 0, 1) := by decide +kernel
theorem dX9_readPerson_6 : decode cX9_readPerson 6 = .ok (.bipush 126, 2) := by decide +kernel
theorem dX9_readPerson_8 : decode cX9_readPerson 8 = .ok (.bipush 9, 2) := by decide +kernel
theorem dX9_readPerson_10 : decode cX9_readPerson 10 = .ok (.iconst 2, 1) := by decide +kernel
theorem dX9_readPerson_11 : decode cX9_readPerson 11 = .ok (.invokevirtual 193, 3) := by decide +kernel
theorem dX9_readPerson_14 : decode cX9_readPerson 14 = .ok (.imul, 1) := by decide +kernel
theorem dX9_readPerson_15 : decode cX9_readPerson 15 = .ok (.iadd, 1) := by decide +kernel
theorem dX9_readPerson_16 : decode cX9_readPerson 16 = .ok (.istore_n 1, 1) := by decide +kernel
theorem dX9_readPerson_17 : decode cX9_readPerson 17 = .ok (.aload_n 0, 1) := by decide +kernel
theorem dX9_readPerson_18 : decode cX9_readPerson 18 = .ok (.iconst 0, 1) := by decide +kernel
theorem dX9_readPerson_19 : decode cX9_readPerson 19 = .ok (.putfield 228, 3) := by decide +kernel
theorem dX9_readPerson_22 : decode cX9_readPerson 22 = .ok (.aload_n 0, 1) := by decide +kernel
theorem dX9_readPerson_23 : decode cX9_readPerson 23 = .ok (.bipush 11, 2) := by decide +kernel
theorem dX9_readPerson_25 : decode cX9_readPerson 25 = .ok (.invokevirtual 167, 3) := by decide +kernel
theorem dX9_readPerson_28 : decode cX9_readPerson 28 = .ok (.ifCond .eq 111, 3) := by decide +kernel
theorem dX9_readPerson_31 : decode cX9_readPerson 31 = .ok (.aload_n 0, 1) := by decide +kernel
theorem dX9_readPerson_32 : decode cX9_readPerson 32 = .ok (.getfield 24, 3) := by decide +kernel
theorem dX9_readPerson_35 : decode cX9_readPerson 35 = .ok (.aload_n 0, 1) := by decide +kernel
theorem dX9_readPerson_36 : decode cX9_readPerson 36 = .ok (.getfield 151, 3) := by decide +kernel
theorem dX9_readPerson_39 : decode cX9_readPerson 39 = .ok (.iaload, 1) := by decide +kernel
theorem dX9_readPerson_40 : decode cX9_readPerson 40 = .ok (.iconst 2, 1) := by decide +kernel
theorem dX9_readPerson_41 : decode cX9_readPerson 41 = .ok (.if_icmp .ne 45, 3) := by decide +kernel
theorem dX9_readPerson_44 : decode cX9_readPerson 44 = .ok (.aload_n 0, 1) := by decide +kernel
theorem dX9_readPerson_45 : decode cX9_readPerson 45 = .ok (.getfield 30, 3) := by decide +kernel
theorem dX9_readPerson_48 : decode cX9_readPerson 48 = .ok (.aload_n 0, 1) := by decide +kernel
theorem dX9_readPerson_49 : decode cX9_readPerson 49 = .ok (.getfield 151, 3) := by decide +kernel
theorem dX9_readPerson_52 : decode cX9_readPerson 52 = .ok (.laload, 1) := by decide +kernel
theorem dX9_readPerson_53 : decode cX9_readPerson 53 = .ok (.ldc2_w 231, 3) := by decide +kernel
theorem dX9_readPerson_56 : decode cX9_readPerson 56 = .ok (.lcmp, 1) := by decide +kernel
theorem dX9_readPerson_57 : decode cX9_readPerson 57 = .ok (.ifCond .gt 29, 3) := by decide +kernel
theorem dX9_readPerson_60 : decode cX9_readPerson 60 = .ok (.aload_n 0, 1) := by decide +kernel
theorem dX9_readPerson_61 : decode cX9_readPerson 61 = .ok (.getfield 228, 3) := by decide +kernel
theorem dX9_readPerson_64 : decode cX9_readPerson 64 = .ok (.aload_n 0, 1) := by decide +kernel
theorem dX9_readPerson_65 : decode cX9_readPerson 65 = .ok (.getfield 30, 3) := by decide +kernel
theorem dX9_readPerson_68 : decode cX9_readPerson 68 = .ok (.aload_n 0, 1) := by decide +kernel
theorem dX9_readPerson_69 : decode cX9_readPerson 69 = .ok (.getfield 151, 3) := by decide +kernel
theorem dX9_readPerson_72 : decode cX9_readPerson 72 = .ok (.laload, 1) := by decide +kernel
theorem dX9_readPerson_73 : decode cX9_readPerson 73 = .ok (.l2i, 1) := by decide +kernel
theorem dX9_readPerson_74 : decode cX9_readPerson 74 = .ok (.ishr, 1) := by decide +kernel
theorem dX9_readPerson_75 : decode cX9_readPerson 75 = .ok (.iconst 1, 1) := by decide +kernel
theorem dX9_readPerson_76 : decode cX9_readPerson 76 = .ok (.iand, 1) := by decide +kernel
theorem dX9_readPerson_77 : decode cX9_readPerson 77 = .ok (.iconst 1, 1) := by decide +kernel
theorem dX9_readPerson_78 : decode cX9_readPerson 78 = .ok (.if_icmp .ne 8, 3) := by decide +kernel
theorem dX9_readPerson_81 : decode cX9_readPerson 81 = .ok (.aload_n 0, 1) := by decide +kernel
theorem dX9_readPerson_82 : decode cX9_readPerson 82 = .ok (.iconst 3, 1) := by decide +kernel
theorem dX9_readPerson_83 : decode cX9_readPerson 83 = .ok (.invokevirtual 160, 3) := by decide +kernel
theorem dX9_readPerson_86 : decode cX9_readPerson 86 = .ok (.aload_n 0, 1) := by decide +kernel
theorem dX9_readPerson_87 : decode cX9_readPerson 87 = .ok (.iconst 1, 1) := by decide +kernel
theorem dX9_readPerson_88 : decode cX9_readPerson 88 = .ok (.bipush 24, 2) := by decide +kernel
theorem dX9_readPerson_90 : decode cX9_readPerson 90 = .ok (.invokevirtual 173, 3) := by decide +kernel
theorem dX9_readPerson_93 : decode cX9_readPerson 93 = .ok (.istore_n 2, 1) := by decide +kernel
theorem dX9_readPerson_94 : decode cX9_readPerson 94 = .ok (.aload_n 0, 1) := by decide +kernel
theorem dX9_readPerson_95 : decode cX9_readPerson 95 = .ok (.bipush 9, 2) := by decide +kernel
theorem dX9_readPerson_97 : decode cX9_readPerson 97 = .ok (.iconst 0, 1) := by decide +kernel
theorem dX9_readPerson_98 : decode cX9_readPerson 98 = .ok (.bipush 99, 2) := by decide +kernel
theorem dX9_readPerson_100 : decode cX9_readPerson 100 = .ok (.invokevirtual 222, 3) := by decide +kernel
theorem dX9_readPerson_103 : decode cX9_readPerson 103 = .ok (.istore_n 3, 1) := by decide +kernel
theorem dX9_readPerson_104 : decode cX9_readPerson 104 = .ok (.aload_n 0, 1) := by decide +kernel
theorem dX9_readPerson_105 : decode cX9_readPerson 105 = .ok (.dup, 1) := by decide +kernel
theorem dX9_readPerson_106 : decode cX9_readPerson 106 = .ok (.getfield 228, 3) := by decide +kernel
theorem dX9_readPerson_109 : decode cX9_readPerson 109 = .ok (.iconst 1, 1) := by decide +kernel
theorem dX9_readPerson_110 : decode cX9_readPerson 110 = .ok (.iload_n 2, 1) := by decide +kernel
theorem dX9_readPerson_111 : decode cX9_readPerson 111 = .ok (.ishl, 1) := by decide +kernel
theorem dX9_readPerson_112 : decode cX9_readPerson 112 = .ok (.ior, 1) := by decide +kernel
theorem dX9_readPerson_113 : decode cX9_readPerson 113 = .ok (.putfield 228, 3) := by decide +kernel
theorem dX9_readPerson_116 : decode cX9_readPerson 116 = .ok (.aload_n 0, 1) := by decide +kernel
theorem dX9_readPerson_117 : decode cX9_readPerson 117 = .ok (.getfield 73, 3) := by decide +kernel
theorem dX9_readPerson_120 : decode cX9_readPerson 120 = .ok (.iload_n 1, 1) := by decide +kernel
theorem dX9_readPerson_121 : decode cX9_readPerson 121 = .ok (.iload_n 2, 1) := by decide +kernel
theorem dX9_readPerson_122 : decode cX9_readPerson 122 = .ok (.iadd, 1) := by decide +kernel
theorem dX9_readPerson_123 : decode cX9_readPerson 123 = .ok (.aload_n 0, 1) := by decide +kernel
theorem dX9_readPerson_124 : decode cX9_readPerson 124 = .ok (.getfield 154, 3) := by decide +kernel
theorem dX9_readPerson_127 : decode cX9_readPerson 127 = .ok (.ifCond .le 7, 3) := by decide +kernel
theorem dX9_readPerson_130 : decode cX9_readPerson 130 = .ok (.iconst 0, 1) := by decide +kernel
theorem dX9_readPerson_131 : decode cX9_readPerson 131 = .ok (.goto 4, 3) := by decide +kernel
theorem dX9_readPerson_134 : decode cX9_readPerson 134 = .ok (.iload_n 3, 1) := by decide +kernel
theorem dX9_readPerson_135 : decode cX9_readPerson 135 = .ok (.iastore, 1) := by decide +kernel
theorem dX9_readPerson_136 : decode cX9_readPerson 136 = .ok (.goto (-114), 3) := by decide +kernel
theorem dX9_readPerson_139 : decode cX9_readPerson 139 = .ok (.return_, 1) := by decide +kernel
theorem dX9_readPaper_0 : decode cX9_readPaper 0 = .ok (.sipush 833, 3) := by decide +kernel
theorem dX9_readPaper_3 : decode cX9_readPaper 3 = .ok (.iconst 4, 1) := by decide +kernel
theorem dX9_readPaper_4 : decode cX9_readPaper 4 = .ok (.aload_n 0, 1) := by decide +kernel
theorem dX9_readPaper_5 : decode cX9_readPaper 5 = .ok (.sipush 352, 3) := by decide +kernel
theorem dX9_readPaper_8 : decode cX9_readPaper 8 = .ok (.bipush 12, 2) := by decide +kernel
theorem dX9_readPaper_10 : decode cX9_readPaper 10 = .ok (.iconst 3, 1) := by decide +kernel
theorem dX9_readPaper_11 : decode cX9_readPaper 11 = .ok (.invokevirtual 193, 3) := by decide +kernel
theorem dX9_readPaper_14 : decode cX9_readPaper 14 = .ok (.imul, 1) := by decide +kernel
theorem dX9_readPaper_15 : decode cX9_readPaper 15 = .ok (.iadd, 1) := by decide +kernel
theorem dX9_readPaper_16 : decode cX9_readPaper 16 = .ok (.istore_n 1, 1) := by decide +kernel
theorem dX9_readPaper_17 : decode cX9_readPaper 17 = .ok (.aload_n 0, 1) := by decide +kernel
theorem dX9_readPaper_18 : decode cX9_readPaper 18 = .ok (.getfield 154, 3) := by decide +kernel
theorem dX9_readPaper_21 : decode cX9_readPaper 21 = .ok (.ifCond .le 4, 3) := by decide +kernel
theorem dX9_readPaper_24 : decode cX9_readPaper 24 = .ok (.return_, 1) := by decide +kernel
theorem dX9_readPaper_25 : decode cX9_readPaper 25 = .ok (.aload_n 0, 1) := by decide +kernel
theorem dX9_readPaper_26 : decode cX9_readPaper 26 = .ok (.bipush 13, 2) := by decide +kernel
theorem dX9_readPaper_28 : decode cX9_readPaper 28 = .ok (.invokevirtual 170, 3) := by decide +kernel
theorem dX9_readPaper_31 : decode cX9_readPaper 31 = .ok (.aload_n 0, 1) := by decide +kernel
theorem dX9_readPaper_32 : decode cX9_readPaper 32 = .ok (.getfield 73, 3) := by decide +kernel
theorem dX9_readPaper_35 : decode cX9_readPaper 35 = .ok (.iload_n 1, 1) := by decide +kernel
theorem dX9_readPaper_36 : decode cX9_readPaper 36 = .ok (.aload_n 0, 1) := by decide +kernel
theorem dX9_readPaper_37 : decode cX9_readPaper 37 = .ok (.getfield 154, 3) := by decide +kernel
theorem dX9_readPaper_40 : decode cX9_readPaper 40 = .ok (.ifCond .le 7, 3) := by decide +kernel
theorem dX9_readPaper_43 : decode cX9_readPaper 43 = .ok (.iconst 0, 1) := by decide +kernel
theorem dX9_readPaper_44 : decode cX9_readPaper 44 = .ok (.goto 8, 3) := by decide +kernel
theorem dX9_readPaper_47 : decode cX9_readPaper 47 = .ok (.aload_n 0, 1) := by decide +kernel
theorem dX9_readPaper_48 : decode cX9_readPaper 48 = .ok (.iconst 0, 1) := by decide +kernel
theorem dX9_readPaper_49 : decode cX9_readPaper 49 = .ok (.invokevirtual 225, 3) := by decide +kernel
theorem dX9_readPaper_52 : decode cX9_readPaper 52 = .ok (.iastore, 1) := by decide +kernel
theorem dX9_readPaper_53 : decode cX9_readPaper 53 = .ok (.aload_n 0, 1) := by decide +kernel
theorem dX9_readPaper_54 : decode cX9_readPaper 54 = .ok (.getfield 73, 3) := by decide +kernel
theorem dX9_readPaper_57 : decode cX9_readPaper 57 = .ok (.iload_n 1, 1) := by decide +kernel
theorem dX9_readPaper_58 : decode cX9_readPaper 58 = .ok (.iconst 1, 1) := by decide +kernel
theorem dX9_readPaper_59 : decode cX9_readPaper 59 = .ok (.iadd, 1) := by decide +kernel
theorem dX9_readPaper_60 : decode cX9_readPaper 60 = .ok (.aload_n 0, 1) := by decide +kernel
theorem dX9_readPaper_61 : decode cX9_readPaper 61 = .ok (.iconst 5, 1) := by decide +kernel
theorem dX9_readPaper_62 : decode cX9_readPaper 62 = .ok (.iconst 0, 1) := by decide +kernel
theorem dX9_readPaper_63 : decode cX9_readPaper 63 = .ok (.sipush 3649, 3) := by decide +kernel
theorem dX9_readPaper_66 : decode cX9_readPaper 66 = .ok (.invokevirtual 222, 3) := by decide +kernel
theorem dX9_readPaper_69 : decode cX9_readPaper 69 = .ok (.iastore, 1) := by decide +kernel
theorem dX9_readPaper_70 : decode cX9_readPaper 70 = .ok (.aload_n 0, 1) := by decide +kernel
theorem dX9_readPaper_71 : decode cX9_readPaper 71 = .ok (.getfield 73, 3) := by decide +kernel
theorem dX9_readPaper_74 : decode cX9_readPaper 74 = .ok (.iload_n 1, 1) := by decide +kernel
theorem dX9_readPaper_75 : decode cX9_readPaper 75 = .ok (.iconst 2, 1) := by decide +kernel
theorem dX9_readPaper_76 : decode cX9_readPaper 76 = .ok (.iadd, 1) := by decide +kernel
theorem dX9_readPaper_77 : decode cX9_readPaper 77 = .ok (.aload_n 0, 1) := by decide +kernel
theorem dX9_readPaper_78 : decode cX9_readPaper 78 = .ok (.iconst 2, 1) := by decide +kernel
theorem dX9_readPaper_79 : decode cX9_readPaper 79 = .ok (.iconst 0, 1) := by decide +kernel
theorem dX9_readPaper_80 : decode cX9_readPaper 80 = .ok (.sipush 1439, 3) := by decide +kernel
theorem dX9_readPaper_83 : decode cX9_readPaper 83 = .ok (.invokevirtual 222, 3) := by decide +kernel
theorem dX9_readPaper_86 : decode cX9_readPaper 86 = .ok (.iastore, 1) := by decide +kernel
theorem dX9_readPaper_87 : decode cX9_readPaper 87 = .ok (.aload_n 0, 1) := by decide +kernel
theorem dX9_readPaper_88 : decode cX9_readPaper 88 = .ok (.getfield 73, 3) := by decide +kernel
theorem dX9_readPaper_91 : decode cX9_readPaper 91 = .ok (.iload_n 1, 1) := by decide +kernel
theorem dX9_readPaper_92 : decode cX9_readPaper 92 = .ok (.iconst 3, 1) := by decide +kernel
theorem dX9_readPaper_93 : decode cX9_readPaper 93 = .ok (.iadd, 1) := by decide +kernel
theorem dX9_readPaper_94 : decode cX9_readPaper 94 = .ok (.aload_n 0, 1) := by decide +kernel
theorem dX9_readPaper_95 : decode cX9_readPaper 95 = .ok (.bipush 14, 2) := by decide +kernel
theorem dX9_readPaper_97 : decode cX9_readPaper 97 = .ok (.invokevirtual 167, 3) := by decide +kernel
theorem dX9_readPaper_100 : decode cX9_readPaper 100 = .ok (.ifCond .eq 7, 3) := by decide +kernel
theorem dX9_readPaper_103 : decode cX9_readPaper 103 = .ok (.iconst 1, 1) := by decide +kernel
theorem dX9_readPaper_104 : decode cX9_readPaper 104 = .ok (.goto 17, 3) := by decide +kernel
theorem dX9_readPaper_107 : decode cX9_readPaper 107 = .ok (.aload_n 0, 1) := by decide +kernel
theorem dX9_readPaper_108 : decode cX9_readPaper 108 = .ok (.bipush 15, 2) := by decide +kernel
theorem dX9_readPaper_110 : decode cX9_readPaper 110 = .ok (.invokevirtual 167, 3) := by decide +kernel
theorem dX9_readPaper_113 : decode cX9_readPaper 113 = .ok (.ifCond .eq 7, 3) := by decide +kernel
theorem dX9_readPaper_116 : decode cX9_readPaper 116 = .ok (.iconst 2, 1) := by decide +kernel
theorem dX9_readPaper_117 : decode cX9_readPaper 117 = .ok (.goto 4, 3) := by decide +kernel
theorem dX9_readPaper_120 : decode cX9_readPaper 120 = .ok (.iconst 0, 1) := by decide +kernel
theorem dX9_readPaper_121 : decode cX9_readPaper 121 = .ok (.iastore, 1) := by decide +kernel
theorem dX9_readPaper_122 : decode cX9_readPaper 122 = .ok (.return_, 1) := by decide +kernel
theorem dX9_readBind_0 : decode cX9_readBind 0 = .ok (.aload_n 0, 1) := by decide +kernel
theorem dX9_readBind_1 : decode cX9_readBind 1 = .ok (.getfield 73, 3) := by decide +kernel
theorem dX9_readBind_4 : decode cX9_readBind 4 = .ok (.sipush 881, 3) := by decide +kernel
theorem dX9_readBind_7 : decode cX9_readBind 7 = .ok (.iaload, 1) := by decide +kernel
theorem dX9_readBind_8 : decode cX9_readBind 8 = .ok (.istore_n 1, 1) := by decide +kernel
theorem dX9_readBind_9 : decode cX9_readBind 9 = .ok (.iload_n 1, 1) := by decide +kernel
theorem dX9_readBind_10 : decode cX9_readBind 10 = .ok (.bipush 16, 2) := by decide +kernel
theorem dX9_readBind_12 : decode cX9_readBind 12 = .ok (.if_icmp .ne 9, 3) := by decide +kernel
theorem dX9_readBind_15 : decode cX9_readBind 15 = .ok (.aload_n 0, 1) := by decide +kernel
theorem dX9_readBind_16 : decode cX9_readBind 16 = .ok (.iconst 5, 1) := by decide +kernel
theorem dX9_readBind_17 : decode cX9_readBind 17 = .ok (.invokevirtual 160, 3) := by decide +kernel
theorem dX9_readBind_20 : decode cX9_readBind 20 = .ok (.return_, 1) := by decide +kernel
theorem dX9_readBind_21 : decode cX9_readBind 21 = .ok (.sipush 882, 3) := by decide +kernel
theorem dX9_readBind_24 : decode cX9_readBind 24 = .ok (.iconst 4, 1) := by decide +kernel
theorem dX9_readBind_25 : decode cX9_readBind 25 = .ok (.iload_n 1, 1) := by decide +kernel
theorem dX9_readBind_26 : decode cX9_readBind 26 = .ok (.imul, 1) := by decide +kernel
theorem dX9_readBind_27 : decode cX9_readBind 27 = .ok (.iadd, 1) := by decide +kernel
theorem dX9_readBind_28 : decode cX9_readBind 28 = .ok (.istore_n 2, 1) := by decide +kernel
theorem dX9_readBind_29 : decode cX9_readBind 29 = .ok (.aload_n 0, 1) := by decide +kernel
theorem dX9_readBind_30 : decode cX9_readBind 30 = .ok (.getfield 73, 3) := by decide +kernel
theorem dX9_readBind_33 : decode cX9_readBind 33 = .ok (.iload_n 2, 1) := by decide +kernel
theorem dX9_readBind_34 : decode cX9_readBind 34 = .ok (.aload_n 0, 1) := by decide +kernel
theorem dX9_readBind_35 : decode cX9_readBind 35 = .ok (.bipush 16, 2) := by decide +kernel
theorem dX9_readBind_37 : decode cX9_readBind 37 = .ok (.invokevirtual 164, 3) := by decide +kernel
theorem dX9_readBind_40 : decode cX9_readBind 40 = .ok (.ifCond .eq 7, 3) := by decide +kernel
theorem dX9_readBind_43 : decode cX9_readBind 43 = .ok (.iconst 0, 1) := by decide +kernel
theorem dX9_readBind_44 : decode cX9_readBind 44 = .ok (.goto 4, 3) := by decide +kernel
theorem dX9_readBind_47 : decode cX9_readBind 47 = .ok (.iconst 1, 1) := by decide +kernel
theorem dX9_readBind_48 : decode cX9_readBind 48 = .ok (.iastore, 1) := by decide +kernel
theorem dX9_readBind_49 : decode cX9_readBind 49 = .ok (.aload_n 0, 1) := by decide +kernel
theorem dX9_readBind_50 : decode cX9_readBind 50 = .ok (.dup, 1) := by decide +kernel
theorem dX9_readBind_51 : decode cX9_readBind 51 = .ok (.getfield 151, 3) := by decide +kernel
theorem dX9_readBind_54 : decode cX9_readBind 54 = .ok (.iconst 1, 1) := by decide +kernel
theorem dX9_readBind_55 : decode cX9_readBind 55 = .ok (.iadd, 1) := by decide +kernel
theorem dX9_readBind_56 : decode cX9_readBind 56 = .ok (.putfield 151, 3) := by decide +kernel
theorem dX9_readBind_59 : decode cX9_readBind 59 = .ok (.aload_n 0, 1) := by decide +kernel
theorem dX9_readBind_60 : decode cX9_readBind 60 = .ok (.getfield 73, 3) := by decide +kernel
theorem dX9_readBind_63 : decode cX9_readBind 63 = .ok (.iload_n 2, 1) := by decide +kernel
theorem dX9_readBind_64 : decode cX9_readBind 64 = .ok (.iconst 1, 1) := by decide +kernel
theorem dX9_readBind_65 : decode cX9_readBind 65 = .ok (.iadd, 1) := by decide +kernel
theorem dX9_readBind_66 : decode cX9_readBind 66 = .ok (.aload_n 0, 1) := by decide +kernel
theorem dX9_readBind_67 : decode cX9_readBind 67 = .ok (.iconst 3, 1) := by decide +kernel
theorem dX9_readBind_68 : decode cX9_readBind 68 = .ok (.invokevirtual 225, 3) := by decide +kernel
theorem dX9_readBind_71 : decode cX9_readBind 71 = .ok (.iastore, 1) := by decide +kernel
theorem dX9_readBind_72 : decode cX9_readBind 72 = .ok (.aload_n 0, 1) := by decide +kernel
theorem dX9_readBind_73 : decode cX9_readBind 73 = .ok (.getfield 73, 3) := by decide +kernel
theorem dX9_readBind_76 : decode cX9_readBind 76 = .ok (.iload_n 2, 1) := by decide +kernel
theorem dX9_readBind_77 : decode cX9_readBind 77 = .ok (.iconst 2, 1) := by decide +kernel
theorem dX9_readBind_78 : decode cX9_readBind 78 = .ok (.iadd, 1) := by decide +kernel
theorem dX9_readBind_79 : decode cX9_readBind 79 = .ok (.aload_n 0, 1) := by decide +kernel
theorem dX9_readBind_80 : decode cX9_readBind 80 = .ok (.iconst 3, 1) := by decide +kernel
theorem dX9_readBind_81 : decode cX9_readBind 81 = .ok (.aload_n 0, 1) := by decide +kernel
theorem dX9_readBind_82 : decode cX9_readBind 82 = .ok (.getfield 73, 3) := by decide +kernel
theorem dX9_readBind_85 : decode cX9_readBind 85 = .ok (.iload_n 2, 1) := by decide +kernel
theorem dX9_readBind_86 : decode cX9_readBind 86 = .ok (.iconst 1, 1) := by decide +kernel
theorem dX9_readBind_87 : decode cX9_readBind 87 = .ok (.iadd, 1) := by decide +kernel
theorem dX9_readBind_88 : decode cX9_readBind 88 = .ok (.iaload, 1) := by decide +kernel
theorem dX9_readBind_89 : decode cX9_readBind 89 = .ok (.invokevirtual 233, 3) := by decide +kernel
theorem dX9_readBind_92 : decode cX9_readBind 92 = .ok (.iastore, 1) := by decide +kernel
theorem dX9_readBind_93 : decode cX9_readBind 93 = .ok (.aload_n 0, 1) := by decide +kernel
theorem dX9_readBind_94 : decode cX9_readBind 94 = .ok (.getfield 73, 3) := by decide +kernel
theorem dX9_readBind_97 : decode cX9_readBind 97 = .ok (.iload_n 2, 1) := by decide +kernel
theorem dX9_readBind_98 : decode cX9_readBind 98 = .ok (.iconst 3, 1) := by decide +kernel
theorem dX9_readBind_99 : decode cX9_readBind 99 = .ok (.iadd, 1) := by decide +kernel
theorem dX9_readBind_100 : decode cX9_readBind 100 = .ok (.aload_n 0, 1) := by decide +kernel
theorem dX9_readBind_101 : decode cX9_readBind 101 = .ok (.iconst 0, 1) := by decide +kernel
theorem dX9_readBind_102 : decode cX9_readBind 102 = .ok (.sipush 9999, 3) := by decide +kernel
theorem dX9_readBind_105 : decode cX9_readBind 105 = .ok (.invokevirtual 173, 3) := by decide +kernel
theorem dX9_readBind_108 : decode cX9_readBind 108 = .ok (.iastore, 1) := by decide +kernel
theorem dX9_readBind_109 : decode cX9_readBind 109 = .ok (.aload_n 0, 1) := by decide +kernel
theorem dX9_readBind_110 : decode cX9_readBind 110 = .ok (.getfield 73, 3) := by decide +kernel
theorem dX9_readBind_113 : decode cX9_readBind 113 = .ok (.sipush 881, 3) := by decide +kernel
theorem dX9_readBind_116 : decode cX9_readBind 116 = .ok (.dup2, 1) := by decide +kernel
theorem dX9_readBind_117 : decode cX9_readBind 117 = .ok (.iaload, 1) := by decide +kernel
theorem dX9_readBind_118 : decode cX9_readBind 118 = .ok (.iconst 1, 1) := by decide +kernel
theorem dX9_readBind_119 : decode cX9_readBind 119 = .ok (.iadd, 1) := by decide +kernel
theorem dX9_readBind_120 : decode cX9_readBind 120 = .ok (.iastore, 1) := by decide +kernel
theorem dX9_readBind_121 : decode cX9_readBind 121 = .ok (.return_, 1) := by decide +kernel
theorem dX9_towns_0 : decode cX9_towns 0 = .ok (.aload_n 0, 1) := by decide +kernel
theorem dX9_towns_1 : decode cX9_towns 1 = .ok (.getfield 73, 3) := by decide +kernel
theorem dX9_towns_4 : decode cX9_towns 4 = .ok (.iconst 0, 1) := by decide +kernel
theorem dX9_towns_5 : decode cX9_towns 5 = .ok (.iaload, 1) := by decide +kernel
theorem dX9_towns_6 : decode cX9_towns 6 = .ok (.ireturn, 1) := by decide +kernel
theorem dX9_isTown_0 : decode cX9_isTown 0 = .ok (.iload_n 1, 1) := by decide +kernel
theorem dX9_isTown_1 : decode cX9_isTown 1 = .ok (.ifCond .lt 15, 3) := by decide +kernel
theorem dX9_isTown_4 : decode cX9_isTown 4 = .ok (.iload_n 1, 1) := by decide +kernel
theorem dX9_isTown_5 : decode cX9_isTown 5 = .ok (.aload_n 0, 1) := by decide +kernel
theorem dX9_isTown_6 : decode cX9_isTown 6 = .ok (.invokevirtual 236, 3) := by decide +kernel
theorem dX9_isTown_9 : decode cX9_isTown 9 = .ok (.if_icmp .ge 7, 3) := by decide +kernel
theorem dX9_isTown_12 : decode cX9_isTown 12 = .ok (.iconst 1, 1) := by decide +kernel
theorem dX9_isTown_13 : decode cX9_isTown 13 = .ok (.goto 4, 3) := by decide +kernel
theorem dX9_isTown_16 : decode cX9_isTown 16 = .ok (.iconst 0, 1) := by decide +kernel
theorem dX9_isTown_17 : decode cX9_isTown 17 = .ok (.ireturn, 1) := by decide +kernel
theorem dX9_backsOf_0 : decode cX9_backsOf 0 = .ok (.aload_n 0, 1) := by decide +kernel
theorem dX9_backsOf_1 : decode cX9_backsOf 1 = .ok (.getfield 73, 3) := by decide +kernel
theorem dX9_backsOf_4 : decode cX9_backsOf 4 = .ok (.iconst 1, 1) := by decide +kernel
theorem dX9_backsOf_5 : decode cX9_backsOf 5 = .ok (.bipush 25, 2) := by decide +kernel
theorem dX9_backsOf_7 : decode cX9_backsOf 7 = .ok (.iload_n 1, 1) := by decide +kernel
theorem dX9_backsOf_8 : decode cX9_backsOf 8 = .ok (.imul, 1) := by decide +kernel
theorem dX9_backsOf_9 : decode cX9_backsOf 9 = .ok (.iadd, 1) := by decide +kernel
theorem dX9_backsOf_10 : decode cX9_backsOf 10 = .ok (.iaload, 1) := by decide +kernel
theorem dX9_backsOf_11 : decode cX9_backsOf 11 = .ok (.ireturn, 1) := by decide +kernel
theorem dX9_dayOf_0 : decode cX9_dayOf 0 = .ok (.aload_n 0, 1) := by decide +kernel
theorem dX9_dayOf_1 : decode cX9_dayOf 1 = .ok (.getfield 73, 3) := by decide +kernel
theorem dX9_dayOf_4 : decode cX9_dayOf 4 = .ok (.iconst 1, 1) := by decide +kernel
theorem dX9_dayOf_5 : decode cX9_dayOf 5 = .ok (.bipush 25, 2) := by decide +kernel
theorem dX9_dayOf_7 : decode cX9_dayOf 7 = .ok (.iload_n 1, 1) := by decide +kernel
theorem dX9_dayOf_8 : decode cX9_dayOf 8 = .ok (.imul, 1) := by decide +kernel
theorem dX9_dayOf_9 : decode cX9_dayOf 9 = .ok (.iadd, 1) := by decide +kernel
theorem dX9_dayOf_10 : decode cX9_dayOf 10 = .ok (.iconst 1, 1) := by decide +kernel
theorem dX9_dayOf_11 : decode cX9_dayOf 11 = .ok (.iadd, 1) := by decide +kernel
theorem dX9_dayOf_12 : decode cX9_dayOf 12 = .ok (.iconst 2, 1) := by decide +kernel
theorem dX9_dayOf_13 : decode cX9_dayOf 13 = .ok (.iload_n 2, 1) := by decide +kernel
theorem dX9_dayOf_14 : decode cX9_dayOf 14 = .ok (.imul, 1) := by decide +kernel
theorem dX9_dayOf_15 : decode cX9_dayOf 15 = .ok (.iadd, 1) := by decide +kernel
theorem dX9_dayOf_16 : decode cX9_dayOf 16 = .ok (.iaload, 1) := by decide +kernel
theorem dX9_dayOf_17 : decode cX9_dayOf 17 = .ok (.ireturn, 1) := by decide +kernel
theorem dX9_strokeOf_0 : decode cX9_strokeOf 0 = .ok (.sipush 1440, 3) := by decide +kernel
theorem dX9_strokeOf_3 : decode cX9_strokeOf 3 = .ok (.aload_n 0, 1) := by decide +kernel
theorem dX9_strokeOf_4 : decode cX9_strokeOf 4 = .ok (.iload_n 1, 1) := by decide +kernel
theorem dX9_strokeOf_5 : decode cX9_strokeOf 5 = .ok (.iload_n 2, 1) := by decide +kernel
theorem dX9_strokeOf_6 : decode cX9_strokeOf 6 = .ok (.invokevirtual 240, 3) := by decide +kernel
theorem dX9_strokeOf_9 : decode cX9_strokeOf 9 = .ok (.imul, 1) := by decide +kernel
theorem dX9_strokeOf_10 : decode cX9_strokeOf 10 = .ok (.bipush 60, 2) := by decide +kernel
theorem dX9_strokeOf_12 : decode cX9_strokeOf 12 = .ok (.aload_n 0, 1) := by decide +kernel
theorem dX9_strokeOf_13 : decode cX9_strokeOf 13 = .ok (.getfield 73, 3) := by decide +kernel
theorem dX9_strokeOf_16 : decode cX9_strokeOf 16 = .ok (.iconst 1, 1) := by decide +kernel
theorem dX9_strokeOf_17 : decode cX9_strokeOf 17 = .ok (.bipush 25, 2) := by decide +kernel
theorem dX9_strokeOf_19 : decode cX9_strokeOf 19 = .ok (.iload_n 1, 1) := by decide +kernel
theorem dX9_strokeOf_20 : decode cX9_strokeOf 20 = .ok (.imul, 1) := by decide +kernel
theorem dX9_strokeOf_21 : decode cX9_strokeOf 21 = .ok (.iadd, 1) := by decide +kernel
theorem dX9_strokeOf_22 : decode cX9_strokeOf 22 = .ok (.iconst 2, 1) := by decide +kernel
theorem dX9_strokeOf_23 : decode cX9_strokeOf 23 = .ok (.iadd, 1) := by decide +kernel
theorem dX9_strokeOf_24 : decode cX9_strokeOf 24 = .ok (.iconst 2, 1) := by decide +kernel
theorem dX9_strokeOf_25 : decode cX9_strokeOf 25 = .ok (.iload_n 2, 1) := by decide +kernel
theorem dX9_strokeOf_26 : decode cX9_strokeOf 26 = .ok (.imul, 1) := by decide +kernel
theorem dX9_strokeOf_27 : decode cX9_strokeOf 27 = .ok (.iadd, 1) := by decide +kernel
theorem dX9_strokeOf_28 : decode cX9_strokeOf 28 = .ok (.iaload, 1) := by decide +kernel
theorem dX9_strokeOf_29 : decode cX9_strokeOf 29 = .ok (.imul, 1) := by decide +kernel
theorem dX9_strokeOf_30 : decode cX9_strokeOf 30 = .ok (.iadd, 1) := by decide +kernel
theorem dX9_strokeOf_31 : decode cX9_strokeOf 31 = .ok (.ireturn, 1) := by decide +kernel
theorem dX9_isThere_0 : decode cX9_isThere 0 = .ok (.iload_n 1, 1) := by decide +kernel
theorem dX9_isThere_1 : decode cX9_isThere 1 = .ok (.ifCond .gt 16, 3) := by decide +kernel
theorem dX9_isThere_4 : decode cX9_isThere 4 = .ok (.aload_n 0, 1) := by decide +kernel
theorem dX9_isThere_5 : decode cX9_isThere 5 = .ok (.iload_n 1, 1) := by decide +kernel
theorem dX9_isThere_6 : decode cX9_isThere 6 = .ok (.iload_n 2, 1) := by decide +kernel
theorem dX9_isThere_7 : decode cX9_isThere 7 = .ok (.invokevirtual 240, 3) := by decide +kernel
theorem dX9_isThere_10 : decode cX9_isThere 10 = .ok (.aload_n 0, 1) := by decide +kernel
theorem dX9_isThere_11 : decode cX9_isThere 11 = .ok (.getfield 85, 3) := by decide +kernel
theorem dX9_isThere_14 : decode cX9_isThere 14 = .ok (.if_icmp .eq 7, 3) := by decide +kernel
theorem dX9_isThere_17 : decode cX9_isThere 17 = .ok (.iconst 1, 1) := by decide +kernel
theorem dX9_isThere_18 : decode cX9_isThere 18 = .ok (.goto 4, 3) := by decide +kernel
theorem dX9_isThere_21 : decode cX9_isThere 21 = .ok (.iconst 0, 1) := by decide +kernel
theorem dX9_isThere_22 : decode cX9_isThere 22 = .ok (.ireturn, 1) := by decide +kernel
theorem dX9_backsBy_0 : decode cX9_backsBy 0 = .ok (.iconst 0, 1) := by decide +kernel
theorem dX9_backsBy_1 : decode cX9_backsBy 1 = .ok (.istore_n 3, 1) := by decide +kernel
theorem dX9_backsBy_2 : decode cX9_backsBy 2 = .ok (.iconst 0, 1) := by decide +kernel
theorem dX9_backsBy_3 : decode cX9_backsBy 3 = .ok (.istore 4, 2) := by decide +kernel
theorem dX9_backsBy_5 : decode cX9_backsBy 5 = .ok (.iload 4, 2) := by decide +kernel
theorem dX9_backsBy_7 : decode cX9_backsBy 7 = .ok (.aload_n 0, 1) := by decide +kernel
theorem dX9_backsBy_8 : decode cX9_backsBy 8 = .ok (.iload_n 1, 1) := by decide +kernel
theorem dX9_backsBy_9 : decode cX9_backsBy 9 = .ok (.invokevirtual 243, 3) := by decide +kernel
theorem dX9_backsBy_12 : decode cX9_backsBy 12 = .ok (.if_icmp .ge 43, 3) := by decide +kernel
theorem dX9_backsBy_15 : decode cX9_backsBy 15 = .ok (.iload_n 3, 1) := by decide +kernel
theorem dX9_backsBy_16 : decode cX9_backsBy 16 = .ok (.aload_n 0, 1) := by decide +kernel
theorem dX9_backsBy_17 : decode cX9_backsBy 17 = .ok (.iload_n 1, 1) := by decide +kernel
theorem dX9_backsBy_18 : decode cX9_backsBy 18 = .ok (.iload 4, 2) := by decide +kernel
theorem dX9_backsBy_20 : decode cX9_backsBy 20 = .ok (.invokevirtual 246, 3) := by decide +kernel
theorem dX9_backsBy_23 : decode cX9_backsBy 23 = .ok (.ifCond .eq 23, 3) := by decide +kernel
theorem dX9_backsBy_26 : decode cX9_backsBy 26 = .ok (.aload_n 0, 1) := by decide +kernel
theorem dX9_backsBy_27 : decode cX9_backsBy 27 = .ok (.iload_n 1, 1) := by decide +kernel
theorem dX9_backsBy_28 : decode cX9_backsBy 28 = .ok (.iload 4, 2) := by decide +kernel
theorem dX9_backsBy_30 : decode cX9_backsBy 30 = .ok (.invokevirtual 250, 3) := by decide +kernel
theorem dX9_backsBy_33 : decode cX9_backsBy 33 = .ok (.bipush 60, 2) := by decide +kernel
theorem dX9_backsBy_35 : decode cX9_backsBy 35 = .ok (.iload_n 3, 1) := by decide +kernel
theorem dX9_backsBy_36 : decode cX9_backsBy 36 = .ok (.imul, 1) := by decide +kernel
theorem dX9_backsBy_37 : decode cX9_backsBy 37 = .ok (.iadd, 1) := by decide +kernel
theorem dX9_backsBy_38 : decode cX9_backsBy 38 = .ok (.iload_n 2, 1) := by decide +kernel
theorem dX9_backsBy_39 : decode cX9_backsBy 39 = .ok (.if_icmp .gt 7, 3) := by decide +kernel
theorem dX9_backsBy_42 : decode cX9_backsBy 42 = .ok (.iconst 1, 1) := by decide +kernel
theorem dX9_backsBy_43 : decode cX9_backsBy 43 = .ok (.goto 4, 3) := by decide +kernel
theorem dX9_backsBy_46 : decode cX9_backsBy 46 = .ok (.iconst 0, 1) := by decide +kernel
theorem dX9_backsBy_47 : decode cX9_backsBy 47 = .ok (.iadd, 1) := by decide +kernel
theorem dX9_backsBy_48 : decode cX9_backsBy 48 = .ok (.istore_n 3, 1) := by decide +kernel
theorem dX9_backsBy_49 : decode cX9_backsBy 49 = .ok (.iinc 4 1, 3) := by decide +kernel
theorem dX9_backsBy_52 : decode cX9_backsBy 52 = .ok (.goto (-47), 3) := by decide +kernel
theorem dX9_backsBy_55 : decode cX9_backsBy 55 = .ok (.iload_n 3, 1) := by decide +kernel
theorem dX9_backsBy_56 : decode cX9_backsBy 56 = .ok (.ireturn, 1) := by decide +kernel
theorem dX9_shownAt_0 : decode cX9_shownAt 0 = .ok (.iload_n 2, 1) := by decide +kernel
theorem dX9_shownAt_1 : decode cX9_shownAt 1 = .ok (.bipush 60, 2) := by decide +kernel
theorem dX9_shownAt_3 : decode cX9_shownAt 3 = .ok (.aload_n 0, 1) := by decide +kernel
theorem dX9_shownAt_4 : decode cX9_shownAt 4 = .ok (.iload_n 1, 1) := by decide +kernel
theorem dX9_shownAt_5 : decode cX9_shownAt 5 = .ok (.iload_n 2, 1) := by decide +kernel
theorem dX9_shownAt_6 : decode cX9_shownAt 6 = .ok (.invokevirtual 253, 3) := by decide +kernel
theorem dX9_shownAt_9 : decode cX9_shownAt 9 = .ok (.imul, 1) := by decide +kernel
theorem dX9_shownAt_10 : decode cX9_shownAt 10 = .ok (.isub, 1) := by decide +kernel
theorem dX9_shownAt_11 : decode cX9_shownAt 11 = .ok (.ireturn, 1) := by decide +kernel
theorem dX9_firstOf_0 : decode cX9_firstOf 0 = .ok (.iconst 0, 1) := by decide +kernel
theorem dX9_firstOf_1 : decode cX9_firstOf 1 = .ok (.istore_n 3, 1) := by decide +kernel
theorem dX9_firstOf_2 : decode cX9_firstOf 2 = .ok (.iconst 0, 1) := by decide +kernel
theorem dX9_firstOf_3 : decode cX9_firstOf 3 = .ok (.istore 4, 2) := by decide +kernel
theorem dX9_firstOf_5 : decode cX9_firstOf 5 = .ok (.iload 4, 2) := by decide +kernel
theorem dX9_firstOf_7 : decode cX9_firstOf 7 = .ok (.aload_n 0, 1) := by decide +kernel
theorem dX9_firstOf_8 : decode cX9_firstOf 8 = .ok (.iload_n 1, 1) := by decide +kernel
theorem dX9_firstOf_9 : decode cX9_firstOf 9 = .ok (.invokevirtual 243, 3) := by decide +kernel
theorem dX9_firstOf_12 : decode cX9_firstOf 12 = .ok (.if_icmp .ge 38, 3) := by decide +kernel
theorem dX9_firstOf_15 : decode cX9_firstOf 15 = .ok (.iload_n 3, 1) := by decide +kernel
theorem dX9_firstOf_16 : decode cX9_firstOf 16 = .ok (.aload_n 0, 1) := by decide +kernel
theorem dX9_firstOf_17 : decode cX9_firstOf 17 = .ok (.iload_n 1, 1) := by decide +kernel
theorem dX9_firstOf_18 : decode cX9_firstOf 18 = .ok (.iload 4, 2) := by decide +kernel
theorem dX9_firstOf_20 : decode cX9_firstOf 20 = .ok (.invokevirtual 246, 3) := by decide +kernel
theorem dX9_firstOf_23 : decode cX9_firstOf 23 = .ok (.ifCond .eq 18, 3) := by decide +kernel
theorem dX9_firstOf_26 : decode cX9_firstOf 26 = .ok (.aload_n 0, 1) := by decide +kernel
theorem dX9_firstOf_27 : decode cX9_firstOf 27 = .ok (.iload_n 1, 1) := by decide +kernel
theorem dX9_firstOf_28 : decode cX9_firstOf 28 = .ok (.iload 4, 2) := by decide +kernel
theorem dX9_firstOf_30 : decode cX9_firstOf 30 = .ok (.invokevirtual 250, 3) := by decide +kernel
theorem dX9_firstOf_33 : decode cX9_firstOf 33 = .ok (.iload_n 2, 1) := by decide +kernel
theorem dX9_firstOf_34 : decode cX9_firstOf 34 = .ok (.if_icmp .gt 7, 3) := by decide +kernel
theorem dX9_firstOf_37 : decode cX9_firstOf 37 = .ok (.iconst 1, 1) := by decide +kernel
theorem dX9_firstOf_38 : decode cX9_firstOf 38 = .ok (.goto 4, 3) := by decide +kernel
theorem dX9_firstOf_41 : decode cX9_firstOf 41 = .ok (.iconst 0, 1) := by decide +kernel
theorem dX9_firstOf_42 : decode cX9_firstOf 42 = .ok (.iadd, 1) := by decide +kernel
theorem dX9_firstOf_43 : decode cX9_firstOf 43 = .ok (.istore_n 3, 1) := by decide +kernel
theorem dX9_firstOf_44 : decode cX9_firstOf 44 = .ok (.iinc 4 1, 3) := by decide +kernel
theorem dX9_firstOf_47 : decode cX9_firstOf 47 = .ok (.goto (-42), 3) := by decide +kernel
theorem dX9_firstOf_50 : decode cX9_firstOf 50 = .ok (.iload_n 2, 1) := by decide +kernel
theorem dX9_firstOf_51 : decode cX9_firstOf 51 = .ok (.bipush 60, 2) := by decide +kernel
theorem dX9_firstOf_53 : decode cX9_firstOf 53 = .ok (.iload_n 3, 1) := by decide +kernel
theorem dX9_firstOf_54 : decode cX9_firstOf 54 = .ok (.imul, 1) := by decide +kernel
theorem dX9_firstOf_55 : decode cX9_firstOf 55 = .ok (.iadd, 1) := by decide +kernel
theorem dX9_firstOf_56 : decode cX9_firstOf 56 = .ok (.ireturn, 1) := by decide +kernel
theorem dX9_isTwice_0 : decode cX9_isTwice 0 = .ok (.iconst 0, 1) := by decide +kernel
theorem dX9_isTwice_1 : decode cX9_isTwice 1 = .ok (.istore_n 3, 1) := by decide +kernel
theorem dX9_isTwice_2 : decode cX9_isTwice 2 = .ok (.iconst 0, 1) := by decide +kernel
theorem dX9_isTwice_3 : decode cX9_isTwice 3 = .ok (.istore 4, 2) := by decide +kernel
theorem dX9_isTwice_5 : decode cX9_isTwice 5 = .ok (.iload 4, 2) := by decide +kernel
theorem dX9_isTwice_7 : decode cX9_isTwice 7 = .ok (.aload_n 0, 1) := by decide +kernel
theorem dX9_isTwice_8 : decode cX9_isTwice 8 = .ok (.iload_n 1, 1) := by decide +kernel
theorem dX9_isTwice_9 : decode cX9_isTwice 9 = .ok (.invokevirtual 243, 3) := by decide +kernel
theorem dX9_isTwice_12 : decode cX9_isTwice 12 = .ok (.if_icmp .ge 54, 3) := by decide +kernel
theorem dX9_isTwice_15 : decode cX9_isTwice 15 = .ok (.iload_n 3, 1) := by decide +kernel
theorem dX9_isTwice_16 : decode cX9_isTwice 16 = .ok (.ifCond .ne 38, 3) := by decide +kernel
theorem dX9_isTwice_19 : decode cX9_isTwice 19 = .ok (.aload_n 0, 1) := by decide +kernel
theorem dX9_isTwice_20 : decode cX9_isTwice 20 = .ok (.iload_n 1, 1) := by decide +kernel
theorem dX9_isTwice_21 : decode cX9_isTwice 21 = .ok (.iload 4, 2) := by decide +kernel
theorem dX9_isTwice_23 : decode cX9_isTwice 23 = .ok (.invokevirtual 246, 3) := by decide +kernel
theorem dX9_isTwice_26 : decode cX9_isTwice 26 = .ok (.ifCond .eq 32, 3) := by decide +kernel
theorem dX9_isTwice_29 : decode cX9_isTwice 29 = .ok (.aload_n 0, 1) := by decide +kernel
theorem dX9_isTwice_30 : decode cX9_isTwice 30 = .ok (.iload_n 1, 1) := by decide +kernel
theorem dX9_isTwice_31 : decode cX9_isTwice 31 = .ok (.iload 4, 2) := by decide +kernel
theorem dX9_isTwice_33 : decode cX9_isTwice 33 = .ok (.invokevirtual 250, 3) := by decide +kernel
theorem dX9_isTwice_36 : decode cX9_isTwice 36 = .ok (.iload_n 2, 1) := by decide +kernel
theorem dX9_isTwice_37 : decode cX9_isTwice 37 = .ok (.if_icmp .le 21, 3) := by decide +kernel
theorem dX9_isTwice_40 : decode cX9_isTwice 40 = .ok (.aload_n 0, 1) := by decide +kernel
theorem dX9_isTwice_41 : decode cX9_isTwice 41 = .ok (.iload_n 1, 1) := by decide +kernel
theorem dX9_isTwice_42 : decode cX9_isTwice 42 = .ok (.iload 4, 2) := by decide +kernel
theorem dX9_isTwice_44 : decode cX9_isTwice 44 = .ok (.invokevirtual 250, 3) := by decide +kernel
theorem dX9_isTwice_47 : decode cX9_isTwice 47 = .ok (.bipush 60, 2) := by decide +kernel
theorem dX9_isTwice_49 : decode cX9_isTwice 49 = .ok (.isub, 1) := by decide +kernel
theorem dX9_isTwice_50 : decode cX9_isTwice 50 = .ok (.iload_n 2, 1) := by decide +kernel
theorem dX9_isTwice_51 : decode cX9_isTwice 51 = .ok (.if_icmp .gt 7, 3) := by decide +kernel
theorem dX9_isTwice_54 : decode cX9_isTwice 54 = .ok (.iconst 1, 1) := by decide +kernel
theorem dX9_isTwice_55 : decode cX9_isTwice 55 = .ok (.goto 4, 3) := by decide +kernel
theorem dX9_isTwice_58 : decode cX9_isTwice 58 = .ok (.iconst 0, 1) := by decide +kernel
theorem dX9_isTwice_59 : decode cX9_isTwice 59 = .ok (.istore_n 3, 1) := by decide +kernel
theorem dX9_isTwice_60 : decode cX9_isTwice 60 = .ok (.iinc 4 1, 3) := by decide +kernel
theorem dX9_isTwice_63 : decode cX9_isTwice 63 = .ok (.goto (-58), 3) := by decide +kernel
theorem dX9_isTwice_66 : decode cX9_isTwice 66 = .ok (.iload_n 3, 1) := by decide +kernel
theorem dX9_isTwice_67 : decode cX9_isTwice 67 = .ok (.ireturn, 1) := by decide +kernel
theorem dX9_lastOf_0 : decode cX9_lastOf 0 = .ok (.aload_n 0, 1) := by decide +kernel
theorem dX9_lastOf_1 : decode cX9_lastOf 1 = .ok (.iload_n 1, 1) := by decide +kernel
theorem dX9_lastOf_2 : decode cX9_lastOf 2 = .ok (.iload_n 2, 1) := by decide +kernel
theorem dX9_lastOf_3 : decode cX9_lastOf 3 = .ok (.invokevirtual 256, 3) := by decide +kernel
theorem dX9_lastOf_6 : decode cX9_lastOf 6 = .ok (.aload_n 0, 1) := by decide +kernel
theorem dX9_lastOf_7 : decode cX9_lastOf 7 = .ok (.iload_n 1, 1) := by decide +kernel
theorem dX9_lastOf_8 : decode cX9_lastOf 8 = .ok (.iload_n 2, 1) := by decide +kernel
theorem dX9_lastOf_9 : decode cX9_lastOf 9 = .ok (.invokevirtual 259, 3) := by decide +kernel
theorem dX9_lastOf_12 : decode cX9_lastOf 12 = .ok (.ifCond .eq 8, 3) := by decide +kernel
theorem dX9_lastOf_15 : decode cX9_lastOf 15 = .ok (.bipush 60, 2) := by decide +kernel
theorem dX9_lastOf_17 : decode cX9_lastOf 17 = .ok (.goto 4, 3) := by decide +kernel
theorem dX9_lastOf_20 : decode cX9_lastOf 20 = .ok (.iconst 0, 1) := by decide +kernel
theorem dX9_lastOf_21 : decode cX9_lastOf 21 = .ok (.iadd, 1) := by decide +kernel
theorem dX9_lastOf_22 : decode cX9_lastOf 22 = .ok (.ireturn, 1) := by decide +kernel
theorem dX9_isClock_0 : decode cX9_isClock 0 = .ok (.iload_n 0, 1) := by decide +kernel
theorem dX9_isClock_1 : decode cX9_isClock 1 = .ok (.iconst 0, 1) := by decide +kernel
theorem dX9_isClock_2 : decode cX9_isClock 2 = .ok (.sipush 3649, 3) := by decide +kernel
theorem dX9_isClock_5 : decode cX9_isClock 5 = .ok (.invokestatic 262, 3) := by decide +kernel
theorem dX9_isClock_8 : decode cX9_isClock 8 = .ok (.ifCond .eq 18, 3) := by decide +kernel
theorem dX9_isClock_11 : decode cX9_isClock 11 = .ok (.iload_n 1, 1) := by decide +kernel
theorem dX9_isClock_12 : decode cX9_isClock 12 = .ok (.iconst 0, 1) := by decide +kernel
theorem dX9_isClock_13 : decode cX9_isClock 13 = .ok (.sipush 1439, 3) := by decide +kernel
theorem dX9_isClock_16 : decode cX9_isClock 16 = .ok (.invokestatic 262, 3) := by decide +kernel
theorem dX9_isClock_19 : decode cX9_isClock 19 = .ok (.ifCond .eq 7, 3) := by decide +kernel
theorem dX9_isClock_22 : decode cX9_isClock 22 = .ok (.iconst 1, 1) := by decide +kernel
theorem dX9_isClock_23 : decode cX9_isClock 23 = .ok (.goto 4, 3) := by decide +kernel
theorem dX9_isClock_26 : decode cX9_isClock 26 = .ok (.iconst 0, 1) := by decide +kernel
theorem dX9_isClock_27 : decode cX9_isClock 27 = .ok (.ireturn, 1) := by decide +kernel
theorem dX9_isMinute_0 : decode cX9_isMinute 0 = .ok (.iload_n 0, 1) := by decide +kernel
theorem dX9_isMinute_1 : decode cX9_isMinute 1 = .ok (.iconst 0, 1) := by decide +kernel
theorem dX9_isMinute_2 : decode cX9_isMinute 2 = .ok (.ldc_w 266, 3) := by decide +kernel
theorem dX9_isMinute_5 : decode cX9_isMinute 5 = .ok (.invokestatic 262, 3) := by decide +kernel
theorem dX9_isMinute_8 : decode cX9_isMinute 8 = .ok (.ireturn, 1) := by decide +kernel
theorem dX9_shown_0 : decode cX9_shown 0 = .ok (.aload_n 0, 1) := by decide +kernel
theorem dX9_shown_1 : decode cX9_shown 1 = .ok (.aload_n 0, 1) := by decide +kernel
theorem dX9_shown_2 : decode cX9_shown 2 = .ok (.iload_n 1, 1) := by decide +kernel
theorem dX9_shown_3 : decode cX9_shown 3 = .ok (.invokevirtual 267, 3) := by decide +kernel
theorem dX9_shown_6 : decode cX9_shown 6 = .ok (.ifCond .eq 14, 3) := by decide +kernel
theorem dX9_shown_9 : decode cX9_shown 9 = .ok (.iload_n 2, 1) := by decide +kernel
theorem dX9_shown_10 : decode cX9_shown 10 = .ok (.invokestatic 270, 3) := by decide +kernel
theorem dX9_shown_13 : decode cX9_shown 13 = .ok (.ifCond .eq 7, 3) := by decide +kernel
theorem dX9_shown_16 : decode cX9_shown 16 = .ok (.iconst 0, 1) := by decide +kernel
theorem dX9_shown_17 : decode cX9_shown 17 = .ok (.goto 4, 3) := by decide +kernel
theorem dX9_shown_20 : decode cX9_shown 20 = .ok (.iconst 1, 1) := by decide +kernel
theorem dX9_shown_21 : decode cX9_shown 21 = .ok (.putfield 1, 3) := by decide +kernel
theorem dX9_shown_24 : decode cX9_shown 24 = .ok (.aload_n 0, 1) := by decide +kernel
theorem dX9_shown_25 : decode cX9_shown 25 = .ok (.getfield 1, 3) := by decide +kernel
theorem dX9_shown_28 : decode cX9_shown 28 = .ok (.ifCond .le 7, 3) := by decide +kernel
theorem dX9_shown_31 : decode cX9_shown 31 = .ok (.iconst 0, 1) := by decide +kernel
theorem dX9_shown_32 : decode cX9_shown 32 = .ok (.goto 9, 3) := by decide +kernel
theorem dX9_shown_35 : decode cX9_shown 35 = .ok (.aload_n 0, 1) := by decide +kernel
theorem dX9_shown_36 : decode cX9_shown 36 = .ok (.iload_n 1, 1) := by decide +kernel
theorem dX9_shown_37 : decode cX9_shown 37 = .ok (.iload_n 2, 1) := by decide +kernel
theorem dX9_shown_38 : decode cX9_shown 38 = .ok (.invokevirtual 273, 3) := by decide +kernel
theorem dX9_shown_41 : decode cX9_shown 41 = .ok (.ireturn, 1) := by decide +kernel
theorem dX9_moment_0 : decode cX9_moment 0 = .ok (.aload_n 0, 1) := by decide +kernel
theorem dX9_moment_1 : decode cX9_moment 1 = .ok (.iconst 0, 1) := by decide +kernel
theorem dX9_moment_2 : decode cX9_moment 2 = .ok (.putfield 1, 3) := by decide +kernel
theorem dX9_moment_5 : decode cX9_moment 5 = .ok (.aload_n 0, 1) := by decide +kernel
theorem dX9_moment_6 : decode cX9_moment 6 = .ok (.iload_n 1, 1) := by decide +kernel
theorem dX9_moment_7 : decode cX9_moment 7 = .ok (.invokevirtual 267, 3) := by decide +kernel
theorem dX9_moment_10 : decode cX9_moment 10 = .ok (.ifCond .eq 21, 3) := by decide +kernel
theorem dX9_moment_13 : decode cX9_moment 13 = .ok (.iload_n 2, 1) := by decide +kernel
theorem dX9_moment_14 : decode cX9_moment 14 = .ok (.iload_n 3, 1) := by decide +kernel
theorem dX9_moment_15 : decode cX9_moment 15 = .ok (.invokestatic 276, 3) := by decide +kernel
theorem dX9_moment_18 : decode cX9_moment 18 = .ok (.ifCond .eq 13, 3) := by decide +kernel
theorem dX9_moment_21 : decode cX9_moment 21 = .ok (.iload 4, 2) := by decide +kernel
theorem dX9_moment_23 : decode cX9_moment 23 = .ok (.iconst 0, 1) := by decide +kernel
theorem dX9_moment_24 : decode cX9_moment 24 = .ok (.iconst 2, 1) := by decide +kernel
theorem dX9_moment_25 : decode cX9_moment 25 = .ok (.invokestatic 262, 3) := by decide +kernel
theorem dX9_moment_28 : decode cX9_moment 28 = .ok (.ifCond .ne 5, 3) := by decide +kernel
theorem dX9_moment_31 : decode cX9_moment 31 = .ok (.iconst (-1), 1) := by decide +kernel
theorem dX9_moment_32 : decode cX9_moment 32 = .ok (.ireturn, 1) := by decide +kernel
theorem dX9_moment_33 : decode cX9_moment 33 = .ok (.sipush 1440, 3) := by decide +kernel
theorem dX9_moment_36 : decode cX9_moment 36 = .ok (.iload_n 2, 1) := by decide +kernel
theorem dX9_moment_37 : decode cX9_moment 37 = .ok (.imul, 1) := by decide +kernel
theorem dX9_moment_38 : decode cX9_moment 38 = .ok (.iload_n 3, 1) := by decide +kernel
theorem dX9_moment_39 : decode cX9_moment 39 = .ok (.iadd, 1) := by decide +kernel
theorem dX9_moment_40 : decode cX9_moment 40 = .ok (.istore 5, 2) := by decide +kernel
theorem dX9_moment_42 : decode cX9_moment 42 = .ok (.iload 4, 2) := by decide +kernel
theorem dX9_moment_44 : decode cX9_moment 44 = .ok (.ifCond .ne 19, 3) := by decide +kernel
theorem dX9_moment_47 : decode cX9_moment 47 = .ok (.aload_n 0, 1) := by decide +kernel
theorem dX9_moment_48 : decode cX9_moment 48 = .ok (.iload_n 1, 1) := by decide +kernel
theorem dX9_moment_49 : decode cX9_moment 49 = .ok (.iload 5, 2) := by decide +kernel
theorem dX9_moment_51 : decode cX9_moment 51 = .ok (.invokevirtual 259, 3) := by decide +kernel
theorem dX9_moment_54 : decode cX9_moment 54 = .ok (.ifCond .eq 7, 3) := by decide +kernel
theorem dX9_moment_57 : decode cX9_moment 57 = .ok (.iconst 2, 1) := by decide +kernel
theorem dX9_moment_58 : decode cX9_moment 58 = .ok (.goto 4, 3) := by decide +kernel
theorem dX9_moment_61 : decode cX9_moment 61 = .ok (.iconst 1, 1) := by decide +kernel
theorem dX9_moment_62 : decode cX9_moment 62 = .ok (.ireturn, 1) := by decide +kernel
theorem dX9_moment_63 : decode cX9_moment 63 = .ok (.iload 4, 2) := by decide +kernel
theorem dX9_moment_65 : decode cX9_moment 65 = .ok (.iconst 1, 1) := by decide +kernel
theorem dX9_moment_66 : decode cX9_moment 66 = .ok (.if_icmp .ne 13, 3) := by decide +kernel
theorem dX9_moment_69 : decode cX9_moment 69 = .ok (.aload_n 0, 1) := by decide +kernel
theorem dX9_moment_70 : decode cX9_moment 70 = .ok (.iload_n 1, 1) := by decide +kernel
theorem dX9_moment_71 : decode cX9_moment 71 = .ok (.iload 5, 2) := by decide +kernel
theorem dX9_moment_73 : decode cX9_moment 73 = .ok (.invokevirtual 256, 3) := by decide +kernel
theorem dX9_moment_76 : decode cX9_moment 76 = .ok (.goto 24, 3) := by decide +kernel
theorem dX9_moment_79 : decode cX9_moment 79 = .ok (.aload_n 0, 1) := by decide +kernel
theorem dX9_moment_80 : decode cX9_moment 80 = .ok (.iload_n 1, 1) := by decide +kernel
theorem dX9_moment_81 : decode cX9_moment 81 = .ok (.iload 5, 2) := by decide +kernel
theorem dX9_moment_83 : decode cX9_moment 83 = .ok (.invokevirtual 259, 3) := by decide +kernel
theorem dX9_moment_86 : decode cX9_moment 86 = .ok (.ifCond .eq 13, 3) := by decide +kernel
theorem dX9_moment_89 : decode cX9_moment 89 = .ok (.aload_n 0, 1) := by decide +kernel
theorem dX9_moment_90 : decode cX9_moment 90 = .ok (.iload_n 1, 1) := by decide +kernel
theorem dX9_moment_91 : decode cX9_moment 91 = .ok (.iload 5, 2) := by decide +kernel
theorem dX9_moment_93 : decode cX9_moment 93 = .ok (.invokevirtual 279, 3) := by decide +kernel
theorem dX9_moment_96 : decode cX9_moment 96 = .ok (.goto 4, 3) := by decide +kernel
theorem dX9_moment_99 : decode cX9_moment 99 = .ok (.iconst (-1), 1) := by decide +kernel
theorem dX9_moment_100 : decode cX9_moment 100 = .ok (.ireturn, 1) := by decide +kernel
theorem dX9_backs_0 : decode cX9_backs 0 = .ok (.aload_n 0, 1) := by decide +kernel
theorem dX9_backs_1 : decode cX9_backs 1 = .ok (.aload_n 0, 1) := by decide +kernel
theorem dX9_backs_2 : decode cX9_backs 2 = .ok (.iload_n 1, 1) := by decide +kernel
theorem dX9_backs_3 : decode cX9_backs 3 = .ok (.invokevirtual 267, 3) := by decide +kernel
theorem dX9_backs_6 : decode cX9_backs 6 = .ok (.ifCond .eq 14, 3) := by decide +kernel
theorem dX9_backs_9 : decode cX9_backs 9 = .ok (.iload_n 2, 1) := by decide +kernel
theorem dX9_backs_10 : decode cX9_backs 10 = .ok (.invokestatic 270, 3) := by decide +kernel
theorem dX9_backs_13 : decode cX9_backs 13 = .ok (.ifCond .eq 7, 3) := by decide +kernel
theorem dX9_backs_16 : decode cX9_backs 16 = .ok (.iconst 0, 1) := by decide +kernel
theorem dX9_backs_17 : decode cX9_backs 17 = .ok (.goto 4, 3) := by decide +kernel
theorem dX9_backs_20 : decode cX9_backs 20 = .ok (.iconst 1, 1) := by decide +kernel
theorem dX9_backs_21 : decode cX9_backs 21 = .ok (.putfield 1, 3) := by decide +kernel
theorem dX9_backs_24 : decode cX9_backs 24 = .ok (.aload_n 0, 1) := by decide +kernel
theorem dX9_backs_25 : decode cX9_backs 25 = .ok (.getfield 1, 3) := by decide +kernel
theorem dX9_backs_28 : decode cX9_backs 28 = .ok (.ifCond .le 7, 3) := by decide +kernel
theorem dX9_backs_31 : decode cX9_backs 31 = .ok (.iconst 0, 1) := by decide +kernel
theorem dX9_backs_32 : decode cX9_backs 32 = .ok (.goto 9, 3) := by decide +kernel
theorem dX9_backs_35 : decode cX9_backs 35 = .ok (.aload_n 0, 1) := by decide +kernel
theorem dX9_backs_36 : decode cX9_backs 36 = .ok (.iload_n 1, 1) := by decide +kernel
theorem dX9_backs_37 : decode cX9_backs 37 = .ok (.iload_n 2, 1) := by decide +kernel
theorem dX9_backs_38 : decode cX9_backs 38 = .ok (.invokevirtual 253, 3) := by decide +kernel
theorem dX9_backs_41 : decode cX9_backs 41 = .ok (.ireturn, 1) := by decide +kernel
theorem dX9_between_0 : decode cX9_between 0 = .ok (.aload_n 0, 1) := by decide +kernel
theorem dX9_between_1 : decode cX9_between 1 = .ok (.aload_n 0, 1) := by decide +kernel
theorem dX9_between_2 : decode cX9_between 2 = .ok (.iload_n 1, 1) := by decide +kernel
theorem dX9_between_3 : decode cX9_between 3 = .ok (.invokevirtual 267, 3) := by decide +kernel
theorem dX9_between_6 : decode cX9_between 6 = .ok (.ifCond .eq 35, 3) := by decide +kernel
theorem dX9_between_9 : decode cX9_between 9 = .ok (.iload_n 2, 1) := by decide +kernel
theorem dX9_between_10 : decode cX9_between 10 = .ok (.iload_n 3, 1) := by decide +kernel
theorem dX9_between_11 : decode cX9_between 11 = .ok (.invokestatic 276, 3) := by decide +kernel
theorem dX9_between_14 : decode cX9_between 14 = .ok (.ifCond .eq 27, 3) := by decide +kernel
theorem dX9_between_17 : decode cX9_between 17 = .ok (.iload 4, 2) := by decide +kernel
theorem dX9_between_19 : decode cX9_between 19 = .ok (.iload 5, 2) := by decide +kernel
theorem dX9_between_21 : decode cX9_between 21 = .ok (.invokestatic 276, 3) := by decide +kernel
theorem dX9_between_24 : decode cX9_between 24 = .ok (.ifCond .eq 17, 3) := by decide +kernel
theorem dX9_between_27 : decode cX9_between 27 = .ok (.iload 6, 2) := by decide +kernel
theorem dX9_between_29 : decode cX9_between 29 = .ok (.iconst 0, 1) := by decide +kernel
theorem dX9_between_30 : decode cX9_between 30 = .ok (.iconst 2, 1) := by decide +kernel
theorem dX9_between_31 : decode cX9_between 31 = .ok (.invokestatic 262, 3) := by decide +kernel
theorem dX9_between_34 : decode cX9_between 34 = .ok (.ifCond .eq 7, 3) := by decide +kernel
theorem dX9_between_37 : decode cX9_between 37 = .ok (.iconst 0, 1) := by decide +kernel
theorem dX9_between_38 : decode cX9_between 38 = .ok (.goto 4, 3) := by decide +kernel
theorem dX9_between_41 : decode cX9_between 41 = .ok (.iconst 1, 1) := by decide +kernel
theorem dX9_between_42 : decode cX9_between 42 = .ok (.putfield 1, 3) := by decide +kernel
theorem dX9_between_45 : decode cX9_between 45 = .ok (.aload_n 0, 1) := by decide +kernel
theorem dX9_between_46 : decode cX9_between 46 = .ok (.getfield 1, 3) := by decide +kernel
theorem dX9_between_49 : decode cX9_between 49 = .ok (.ifCond .le 5, 3) := by decide +kernel
theorem dX9_between_52 : decode cX9_between 52 = .ok (.iconst 0, 1) := by decide +kernel
theorem dX9_between_53 : decode cX9_between 53 = .ok (.ireturn, 1) := by decide +kernel
theorem dX9_between_54 : decode cX9_between 54 = .ok (.sipush 1440, 3) := by decide +kernel
theorem dX9_between_57 : decode cX9_between 57 = .ok (.iload_n 2, 1) := by decide +kernel
theorem dX9_between_58 : decode cX9_between 58 = .ok (.imul, 1) := by decide +kernel
theorem dX9_between_59 : decode cX9_between 59 = .ok (.iload_n 3, 1) := by decide +kernel
theorem dX9_between_60 : decode cX9_between 60 = .ok (.iadd, 1) := by decide +kernel
theorem dX9_between_61 : decode cX9_between 61 = .ok (.istore 7, 2) := by decide +kernel
theorem dX9_between_63 : decode cX9_between 63 = .ok (.sipush 1440, 3) := by decide +kernel
theorem dX9_between_66 : decode cX9_between 66 = .ok (.iload 4, 2) := by decide +kernel
theorem dX9_between_68 : decode cX9_between 68 = .ok (.imul, 1) := by decide +kernel
theorem dX9_between_69 : decode cX9_between 69 = .ok (.iload 5, 2) := by decide +kernel
theorem dX9_between_71 : decode cX9_between 71 = .ok (.iadd, 1) := by decide +kernel
theorem dX9_between_72 : decode cX9_between 72 = .ok (.istore 8, 2) := by decide +kernel
theorem dX9_between_74 : decode cX9_between 74 = .ok (.aload_n 0, 1) := by decide +kernel
theorem dX9_between_75 : decode cX9_between 75 = .ok (.iload_n 1, 1) := by decide +kernel
theorem dX9_between_76 : decode cX9_between 76 = .ok (.iload 8, 2) := by decide +kernel
theorem dX9_between_78 : decode cX9_between 78 = .ok (.invokevirtual 256, 3) := by decide +kernel
theorem dX9_between_81 : decode cX9_between 81 = .ok (.aload_n 0, 1) := by decide +kernel
theorem dX9_between_82 : decode cX9_between 82 = .ok (.iload_n 1, 1) := by decide +kernel
theorem dX9_between_83 : decode cX9_between 83 = .ok (.iload 7, 2) := by decide +kernel
theorem dX9_between_85 : decode cX9_between 85 = .ok (.invokevirtual 279, 3) := by decide +kernel
theorem dX9_between_88 : decode cX9_between 88 = .ok (.isub, 1) := by decide +kernel
theorem dX9_between_89 : decode cX9_between 89 = .ok (.istore 9, 2) := by decide +kernel
theorem dX9_between_91 : decode cX9_between 91 = .ok (.aload_n 0, 1) := by decide +kernel
theorem dX9_between_92 : decode cX9_between 92 = .ok (.iload_n 1, 1) := by decide +kernel
theorem dX9_between_93 : decode cX9_between 93 = .ok (.iload 8, 2) := by decide +kernel
theorem dX9_between_95 : decode cX9_between 95 = .ok (.invokevirtual 279, 3) := by decide +kernel
theorem dX9_between_98 : decode cX9_between 98 = .ok (.aload_n 0, 1) := by decide +kernel
theorem dX9_between_99 : decode cX9_between 99 = .ok (.iload_n 1, 1) := by decide +kernel
theorem dX9_between_100 : decode cX9_between 100 = .ok (.iload 7, 2) := by decide +kernel
theorem dX9_between_102 : decode cX9_between 102 = .ok (.invokevirtual 256, 3) := by decide +kernel
theorem dX9_between_105 : decode cX9_between 105 = .ok (.isub, 1) := by decide +kernel
theorem dX9_between_106 : decode cX9_between 106 = .ok (.istore 10, 2) := by decide +kernel
theorem dX9_between_108 : decode cX9_between 108 = .ok (.iload 6, 2) := by decide +kernel
theorem dX9_between_110 : decode cX9_between 110 = .ok (.ifCond .ne 8, 3) := by decide +kernel
theorem dX9_between_113 : decode cX9_between 113 = .ok (.iload 9, 2) := by decide +kernel
theorem dX9_between_115 : decode cX9_between 115 = .ok (.goto 24, 3) := by decide +kernel
theorem dX9_between_118 : decode cX9_between 118 = .ok (.iload 6, 2) := by decide +kernel
theorem dX9_between_120 : decode cX9_between 120 = .ok (.iconst 1, 1) := by decide +kernel
theorem dX9_between_121 : decode cX9_between 121 = .ok (.if_icmp .ne 8, 3) := by decide +kernel
theorem dX9_between_124 : decode cX9_between 124 = .ok (.iload 10, 2) := by decide +kernel
theorem dX9_between_126 : decode cX9_between 126 = .ok (.goto 13, 3) := by decide +kernel
theorem dX9_between_129 : decode cX9_between 129 = .ok (.iload 10, 2) := by decide +kernel
theorem dX9_between_131 : decode cX9_between 131 = .ok (.iload 9, 2) := by decide +kernel
theorem dX9_between_133 : decode cX9_between 133 = .ok (.isub, 1) := by decide +kernel
theorem dX9_between_134 : decode cX9_between 134 = .ok (.bipush 60, 2) := by decide +kernel
theorem dX9_between_136 : decode cX9_between 136 = .ok (.idiv, 1) := by decide +kernel
theorem dX9_between_137 : decode cX9_between 137 = .ok (.iconst 1, 1) := by decide +kernel
theorem dX9_between_138 : decode cX9_between 138 = .ok (.iadd, 1) := by decide +kernel
theorem dX9_between_139 : decode cX9_between 139 = .ok (.ireturn, 1) := by decide +kernel
theorem dX9_wage_0 : decode cX9_wage 0 = .ok (.aload_n 0, 1) := by decide +kernel
theorem dX9_wage_1 : decode cX9_wage 1 = .ok (.aload_n 0, 1) := by decide +kernel
theorem dX9_wage_2 : decode cX9_wage 2 = .ok (.iload_n 1, 1) := by decide +kernel
theorem dX9_wage_3 : decode cX9_wage 3 = .ok (.invokevirtual 267, 3) := by decide +kernel
theorem dX9_wage_6 : decode cX9_wage 6 = .ok (.ifCond .eq 47, 3) := by decide +kernel
theorem dX9_wage_9 : decode cX9_wage 9 = .ok (.iload_n 2, 1) := by decide +kernel
theorem dX9_wage_10 : decode cX9_wage 10 = .ok (.iload_n 3, 1) := by decide +kernel
theorem dX9_wage_11 : decode cX9_wage 11 = .ok (.invokestatic 276, 3) := by decide +kernel
theorem dX9_wage_14 : decode cX9_wage 14 = .ok (.ifCond .eq 39, 3) := by decide +kernel
theorem dX9_wage_17 : decode cX9_wage 17 = .ok (.iload 4, 2) := by decide +kernel
theorem dX9_wage_19 : decode cX9_wage 19 = .ok (.iload 5, 2) := by decide +kernel
theorem dX9_wage_21 : decode cX9_wage 21 = .ok (.invokestatic 276, 3) := by decide +kernel
theorem dX9_wage_24 : decode cX9_wage 24 = .ok (.ifCond .eq 29, 3) := by decide +kernel
theorem dX9_wage_27 : decode cX9_wage 27 = .ok (.iload 6, 2) := by decide +kernel
theorem dX9_wage_29 : decode cX9_wage 29 = .ok (.iconst 0, 1) := by decide +kernel
theorem dX9_wage_30 : decode cX9_wage 30 = .ok (.sipush 999, 3) := by decide +kernel
theorem dX9_wage_33 : decode cX9_wage 33 = .ok (.invokestatic 262, 3) := by decide +kernel
theorem dX9_wage_36 : decode cX9_wage 36 = .ok (.ifCond .eq 17, 3) := by decide +kernel
theorem dX9_wage_39 : decode cX9_wage 39 = .ok (.iload 7, 2) := by decide +kernel
theorem dX9_wage_41 : decode cX9_wage 41 = .ok (.iconst 0, 1) := by decide +kernel
theorem dX9_wage_42 : decode cX9_wage 42 = .ok (.iconst 3, 1) := by decide +kernel
theorem dX9_wage_43 : decode cX9_wage 43 = .ok (.invokestatic 262, 3) := by decide +kernel
theorem dX9_wage_46 : decode cX9_wage 46 = .ok (.ifCond .eq 7, 3) := by decide +kernel
theorem dX9_wage_49 : decode cX9_wage 49 = .ok (.iconst 0, 1) := by decide +kernel
theorem dX9_wage_50 : decode cX9_wage 50 = .ok (.goto 4, 3) := by decide +kernel
theorem dX9_wage_53 : decode cX9_wage 53 = .ok (.iconst 1, 1) := by decide +kernel
theorem dX9_wage_54 : decode cX9_wage 54 = .ok (.putfield 1, 3) := by decide +kernel
theorem dX9_wage_57 : decode cX9_wage 57 = .ok (.aload_n 0, 1) := by decide +kernel
theorem dX9_wage_58 : decode cX9_wage 58 = .ok (.getfield 1, 3) := by decide +kernel
theorem dX9_wage_61 : decode cX9_wage 61 = .ok (.ifCond .le 5, 3) := by decide +kernel
theorem dX9_wage_64 : decode cX9_wage 64 = .ok (.iconst 0, 1) := by decide +kernel
theorem dX9_wage_65 : decode cX9_wage 65 = .ok (.ireturn, 1) := by decide +kernel
theorem dX9_wage_66 : decode cX9_wage 66 = .ok (.sipush 1440, 3) := by decide +kernel
theorem dX9_wage_69 : decode cX9_wage 69 = .ok (.iload_n 2, 1) := by decide +kernel
theorem dX9_wage_70 : decode cX9_wage 70 = .ok (.imul, 1) := by decide +kernel
theorem dX9_wage_71 : decode cX9_wage 71 = .ok (.iload_n 3, 1) := by decide +kernel
theorem dX9_wage_72 : decode cX9_wage 72 = .ok (.iadd, 1) := by decide +kernel
theorem dX9_wage_73 : decode cX9_wage 73 = .ok (.istore 8, 2) := by decide +kernel
theorem dX9_wage_75 : decode cX9_wage 75 = .ok (.sipush 1440, 3) := by decide +kernel
theorem dX9_wage_78 : decode cX9_wage 78 = .ok (.iload 4, 2) := by decide +kernel
theorem dX9_wage_80 : decode cX9_wage 80 = .ok (.imul, 1) := by decide +kernel
theorem dX9_wage_81 : decode cX9_wage 81 = .ok (.iload 5, 2) := by decide +kernel
theorem dX9_wage_83 : decode cX9_wage 83 = .ok (.iadd, 1) := by decide +kernel
theorem dX9_wage_84 : decode cX9_wage 84 = .ok (.istore 9, 2) := by decide +kernel
theorem dX9_wage_86 : decode cX9_wage 86 = .ok (.iload 7, 2) := by decide +kernel
theorem dX9_wage_88 : decode cX9_wage 88 = .ok (.ifCond .ne 11, 3) := by decide +kernel
theorem dX9_wage_91 : decode cX9_wage 91 = .ok (.iload 9, 2) := by decide +kernel
theorem dX9_wage_93 : decode cX9_wage 93 = .ok (.iload 8, 2) := by decide +kernel
theorem dX9_wage_95 : decode cX9_wage 95 = .ok (.isub, 1) := by decide +kernel
theorem dX9_wage_96 : decode cX9_wage 96 = .ok (.goto 66, 3) := by decide +kernel
theorem dX9_wage_99 : decode cX9_wage 99 = .ok (.iload 7, 2) := by decide +kernel
theorem dX9_wage_101 : decode cX9_wage 101 = .ok (.iconst 1, 1) := by decide +kernel
theorem dX9_wage_102 : decode cX9_wage 102 = .ok (.if_icmp .ne 21, 3) := by decide +kernel
theorem dX9_wage_105 : decode cX9_wage 105 = .ok (.aload_n 0, 1) := by decide +kernel
theorem dX9_wage_106 : decode cX9_wage 106 = .ok (.iload_n 1, 1) := by decide +kernel
theorem dX9_wage_107 : decode cX9_wage 107 = .ok (.iload 9, 2) := by decide +kernel
theorem dX9_wage_109 : decode cX9_wage 109 = .ok (.invokevirtual 256, 3) := by decide +kernel
theorem dX9_wage_112 : decode cX9_wage 112 = .ok (.aload_n 0, 1) := by decide +kernel
theorem dX9_wage_113 : decode cX9_wage 113 = .ok (.iload_n 1, 1) := by decide +kernel
theorem dX9_wage_114 : decode cX9_wage 114 = .ok (.iload 8, 2) := by decide +kernel
theorem dX9_wage_116 : decode cX9_wage 116 = .ok (.invokevirtual 256, 3) := by decide +kernel
theorem dX9_wage_119 : decode cX9_wage 119 = .ok (.isub, 1) := by decide +kernel
theorem dX9_wage_120 : decode cX9_wage 120 = .ok (.goto 42, 3) := by decide +kernel
theorem dX9_wage_123 : decode cX9_wage 123 = .ok (.iload 7, 2) := by decide +kernel
theorem dX9_wage_125 : decode cX9_wage 125 = .ok (.iconst 2, 1) := by decide +kernel
theorem dX9_wage_126 : decode cX9_wage 126 = .ok (.if_icmp .ne 21, 3) := by decide +kernel
theorem dX9_wage_129 : decode cX9_wage 129 = .ok (.aload_n 0, 1) := by decide +kernel
theorem dX9_wage_130 : decode cX9_wage 130 = .ok (.iload_n 1, 1) := by decide +kernel
theorem dX9_wage_131 : decode cX9_wage 131 = .ok (.iload 9, 2) := by decide +kernel
theorem dX9_wage_133 : decode cX9_wage 133 = .ok (.invokevirtual 279, 3) := by decide +kernel
theorem dX9_wage_136 : decode cX9_wage 136 = .ok (.aload_n 0, 1) := by decide +kernel
theorem dX9_wage_137 : decode cX9_wage 137 = .ok (.iload_n 1, 1) := by decide +kernel
theorem dX9_wage_138 : decode cX9_wage 138 = .ok (.iload 8, 2) := by decide +kernel
theorem dX9_wage_140 : decode cX9_wage 140 = .ok (.invokevirtual 256, 3) := by decide +kernel
theorem dX9_wage_143 : decode cX9_wage 143 = .ok (.isub, 1) := by decide +kernel
theorem dX9_wage_144 : decode cX9_wage 144 = .ok (.goto 18, 3) := by decide +kernel
theorem dX9_wage_147 : decode cX9_wage 147 = .ok (.aload_n 0, 1) := by decide +kernel
theorem dX9_wage_148 : decode cX9_wage 148 = .ok (.iload_n 1, 1) := by decide +kernel
theorem dX9_wage_149 : decode cX9_wage 149 = .ok (.iload 9, 2) := by decide +kernel
theorem dX9_wage_151 : decode cX9_wage 151 = .ok (.invokevirtual 256, 3) := by decide +kernel
theorem dX9_wage_154 : decode cX9_wage 154 = .ok (.aload_n 0, 1) := by decide +kernel
theorem dX9_wage_155 : decode cX9_wage 155 = .ok (.iload_n 1, 1) := by decide +kernel
theorem dX9_wage_156 : decode cX9_wage 156 = .ok (.iload 8, 2) := by decide +kernel
theorem dX9_wage_158 : decode cX9_wage 158 = .ok (.invokevirtual 279, 3) := by decide +kernel
theorem dX9_wage_161 : decode cX9_wage 161 = .ok (.isub, 1) := by decide +kernel
theorem dX9_wage_162 : decode cX9_wage 162 = .ok (.istore 10, 2) := by decide +kernel
theorem dX9_wage_164 : decode cX9_wage 164 = .ok (.iload 10, 2) := by decide +kernel
theorem dX9_wage_166 : decode cX9_wage 166 = .ok (.ifCond .ge 7, 3) := by decide +kernel
theorem dX9_wage_169 : decode cX9_wage 169 = .ok (.iconst 0, 1) := by decide +kernel
theorem dX9_wage_170 : decode cX9_wage 170 = .ok (.goto 15, 3) := by decide +kernel
theorem dX9_wage_173 : decode cX9_wage 173 = .ok (.iload 10, 2) := by decide +kernel
theorem dX9_wage_175 : decode cX9_wage 175 = .ok (.i2l, 1) := by decide +kernel
theorem dX9_wage_176 : decode cX9_wage 176 = .ok (.iload 6, 2) := by decide +kernel
theorem dX9_wage_178 : decode cX9_wage 178 = .ok (.i2l, 1) := by decide +kernel
theorem dX9_wage_179 : decode cX9_wage 179 = .ok (.lmul, 1) := by decide +kernel
theorem dX9_wage_180 : decode cX9_wage 180 = .ok (.ldc2_w 282, 3) := by decide +kernel
theorem dX9_wage_183 : decode cX9_wage 183 = .ok (.ldiv, 1) := by decide +kernel
theorem dX9_wage_184 : decode cX9_wage 184 = .ok (.l2i, 1) := by decide +kernel
theorem dX9_wage_185 : decode cX9_wage 185 = .ok (.ireturn, 1) := by decide +kernel
theorem dX9_deed_0 : decode cX9_deed 0 = .ok (.aload_n 0, 1) := by decide +kernel
theorem dX9_deed_1 : decode cX9_deed 1 = .ok (.aload_n 0, 1) := by decide +kernel
theorem dX9_deed_2 : decode cX9_deed 2 = .ok (.iload_n 1, 1) := by decide +kernel
theorem dX9_deed_3 : decode cX9_deed 3 = .ok (.invokevirtual 267, 3) := by decide +kernel
theorem dX9_deed_6 : decode cX9_deed 6 = .ok (.ifCond .eq 34, 3) := by decide +kernel
theorem dX9_deed_9 : decode cX9_deed 9 = .ok (.aload_n 0, 1) := by decide +kernel
theorem dX9_deed_10 : decode cX9_deed 10 = .ok (.iload 4, 2) := by decide +kernel
theorem dX9_deed_12 : decode cX9_deed 12 = .ok (.invokevirtual 267, 3) := by decide +kernel
theorem dX9_deed_15 : decode cX9_deed 15 = .ok (.ifCond .eq 25, 3) := by decide +kernel
theorem dX9_deed_18 : decode cX9_deed 18 = .ok (.iload_n 2, 1) := by decide +kernel
theorem dX9_deed_19 : decode cX9_deed 19 = .ok (.invokestatic 270, 3) := by decide +kernel
theorem dX9_deed_22 : decode cX9_deed 22 = .ok (.ifCond .eq 18, 3) := by decide +kernel
theorem dX9_deed_25 : decode cX9_deed 25 = .ok (.iload_n 3, 1) := by decide +kernel
theorem dX9_deed_26 : decode cX9_deed 26 = .ok (.iconst 0, 1) := by decide +kernel
theorem dX9_deed_27 : decode cX9_deed 27 = .ok (.sipush 9999, 3) := by decide +kernel
theorem dX9_deed_30 : decode cX9_deed 30 = .ok (.invokestatic 262, 3) := by decide +kernel
theorem dX9_deed_33 : decode cX9_deed 33 = .ok (.ifCond .eq 7, 3) := by decide +kernel
theorem dX9_deed_36 : decode cX9_deed 36 = .ok (.iconst 0, 1) := by decide +kernel
theorem dX9_deed_37 : decode cX9_deed 37 = .ok (.goto 4, 3) := by decide +kernel
theorem dX9_deed_40 : decode cX9_deed 40 = .ok (.iconst 1, 1) := by decide +kernel
theorem dX9_deed_41 : decode cX9_deed 41 = .ok (.putfield 1, 3) := by decide +kernel
theorem dX9_deed_44 : decode cX9_deed 44 = .ok (.aload_n 0, 1) := by decide +kernel
theorem dX9_deed_45 : decode cX9_deed 45 = .ok (.getfield 1, 3) := by decide +kernel
theorem dX9_deed_48 : decode cX9_deed 48 = .ok (.ifCond .le 7, 3) := by decide +kernel
theorem dX9_deed_51 : decode cX9_deed 51 = .ok (.iconst 0, 1) := by decide +kernel
theorem dX9_deed_52 : decode cX9_deed 52 = .ok (.goto 19, 3) := by decide +kernel
theorem dX9_deed_55 : decode cX9_deed 55 = .ok (.aload_n 0, 1) := by decide +kernel
theorem dX9_deed_56 : decode cX9_deed 56 = .ok (.iload 4, 2) := by decide +kernel
theorem dX9_deed_58 : decode cX9_deed 58 = .ok (.iload_n 2, 1) := by decide +kernel
theorem dX9_deed_59 : decode cX9_deed 59 = .ok (.iload_n 3, 1) := by decide +kernel
