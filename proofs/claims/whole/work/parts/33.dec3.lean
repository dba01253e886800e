theorem d_M_init_0 : decode c9_M_init 0 = .ok (.aload_n 0, 1) := by decide +kernel
theorem d_M_init_1 : decode c9_M_init 1 = .ok (.invokespecial 1, 3) := by decide +kernel
theorem d_M_init_4 : decode c9_M_init 4 = .ok (.aload_n 0, 1) := by decide +kernel
theorem d_M_init_5 : decode c9_M_init 5 = .ok (.sipush 512, 3) := by decide +kernel
theorem d_M_init_8 : decode c9_M_init 8 = .ok (.newarray .long, 2) := by decide +kernel
theorem d_M_init_10 : decode c9_M_init 10 = .ok (.putfield 7, 3) := by decide +kernel
theorem d_M_init_13 : decode c9_M_init 13 = .ok (.aload_n 0, 1) := by decide +kernel
theorem d_M_init_14 : decode c9_M_init 14 = .ok (.iconst 4, 1) := by decide +kernel
theorem d_M_init_15 : decode c9_M_init 15 = .ok (.newarray .int, 2) := by decide +kernel
theorem d_M_init_17 : decode c9_M_init 17 = .ok (.putfield 13, 3) := by decide +kernel
theorem d_M_init_20 : decode c9_M_init 20 = .ok (.aload_n 0, 1) := by decide +kernel
theorem d_M_init_21 : decode c9_M_init 21 = .ok (.iconst 4, 1) := by decide +kernel
theorem d_M_init_22 : decode c9_M_init 22 = .ok (.newarray .long, 2) := by decide +kernel
theorem d_M_init_24 : decode c9_M_init 24 = .ok (.putfield 17, 3) := by decide +kernel
theorem d_M_init_27 : decode c9_M_init 27 = .ok (.aload_n 0, 1) := by decide +kernel
theorem d_M_init_28 : decode c9_M_init 28 = .ok (.iconst 4, 1) := by decide +kernel
theorem d_M_init_29 : decode c9_M_init 29 = .ok (.newarray .long, 2) := by decide +kernel
theorem d_M_init_31 : decode c9_M_init 31 = .ok (.putfield 20, 3) := by decide +kernel
theorem d_M_init_34 : decode c9_M_init 34 = .ok (.aload_n 0, 1) := by decide +kernel
theorem d_M_init_35 : decode c9_M_init 35 = .ok (.bipush 8, 2) := by decide +kernel
theorem d_M_init_37 : decode c9_M_init 37 = .ok (.newarray .int, 2) := by decide +kernel
theorem d_M_init_39 : decode c9_M_init 39 = .ok (.putfield 23, 3) := by decide +kernel
theorem d_M_init_42 : decode c9_M_init 42 = .ok (.aload_n 0, 1) := by decide +kernel
theorem d_M_init_43 : decode c9_M_init 43 = .ok (.bipush 8, 2) := by decide +kernel
theorem d_M_init_45 : decode c9_M_init 45 = .ok (.newarray .int, 2) := by decide +kernel
theorem d_M_init_47 : decode c9_M_init 47 = .ok (.putfield 26, 3) := by decide +kernel
theorem d_M_init_50 : decode c9_M_init 50 = .ok (.aload_n 0, 1) := by decide +kernel
theorem d_M_init_51 : decode c9_M_init 51 = .ok (.bipush 8, 2) := by decide +kernel
theorem d_M_init_53 : decode c9_M_init 53 = .ok (.newarray .int, 2) := by decide +kernel
theorem d_M_init_55 : decode c9_M_init 55 = .ok (.putfield 29, 3) := by decide +kernel
theorem d_M_init_58 : decode c9_M_init 58 = .ok (.aload_n 0, 1) := by decide +kernel
theorem d_M_init_59 : decode c9_M_init 59 = .ok (.bipush 24, 2) := by decide +kernel
theorem d_M_init_61 : decode c9_M_init 61 = .ok (.newarray .int, 2) := by decide +kernel
theorem d_M_init_63 : decode c9_M_init 63 = .ok (.putfield 32, 3) := by decide +kernel
theorem d_M_init_66 : decode c9_M_init 66 = .ok (.aload_n 0, 1) := by decide +kernel
theorem d_M_init_67 : decode c9_M_init 67 = .ok (.bipush 24, 2) := by decide +kernel
theorem d_M_init_69 : decode c9_M_init 69 = .ok (.newarray .int, 2) := by decide +kernel
theorem d_M_init_71 : decode c9_M_init 71 = .ok (.putfield 35, 3) := by decide +kernel
theorem d_M_init_74 : decode c9_M_init 74 = .ok (.aload_n 0, 1) := by decide +kernel
theorem d_M_init_75 : decode c9_M_init 75 = .ok (.bipush 24, 2) := by decide +kernel
theorem d_M_init_77 : decode c9_M_init 77 = .ok (.newarray .int, 2) := by decide +kernel
theorem d_M_init_79 : decode c9_M_init 79 = .ok (.putfield 38, 3) := by decide +kernel
theorem d_M_init_82 : decode c9_M_init 82 = .ok (.aload_n 0, 1) := by decide +kernel
theorem d_M_init_83 : decode c9_M_init 83 = .ok (.sipush 192, 3) := by decide +kernel
theorem d_M_init_86 : decode c9_M_init 86 = .ok (.newarray .int, 2) := by decide +kernel
theorem d_M_init_88 : decode c9_M_init 88 = .ok (.putfield 41, 3) := by decide +kernel
theorem d_M_init_91 : decode c9_M_init 91 = .ok (.aload_n 0, 1) := by decide +kernel
theorem d_M_init_92 : decode c9_M_init 92 = .ok (.bipush 24, 2) := by decide +kernel
theorem d_M_init_94 : decode c9_M_init 94 = .ok (.newarray .boolean, 2) := by decide +kernel
theorem d_M_init_96 : decode c9_M_init 96 = .ok (.putfield 44, 3) := by decide +kernel
theorem d_M_init_99 : decode c9_M_init 99 = .ok (.aload_n 0, 1) := by decide +kernel
theorem d_M_init_100 : decode c9_M_init 100 = .ok (.bipush 24, 2) := by decide +kernel
theorem d_M_init_102 : decode c9_M_init 102 = .ok (.newarray .int, 2) := by decide +kernel
theorem d_M_init_104 : decode c9_M_init 104 = .ok (.putfield 48, 3) := by decide +kernel
theorem d_M_init_107 : decode c9_M_init 107 = .ok (.aload_n 0, 1) := by decide +kernel
theorem d_M_init_108 : decode c9_M_init 108 = .ok (.bipush 24, 2) := by decide +kernel
theorem d_M_init_110 : decode c9_M_init 110 = .ok (.newarray .long, 2) := by decide +kernel
theorem d_M_init_112 : decode c9_M_init 112 = .ok (.putfield 51, 3) := by decide +kernel
theorem d_M_init_115 : decode c9_M_init 115 = .ok (.aload_n 0, 1) := by decide +kernel
theorem d_M_init_116 : decode c9_M_init 116 = .ok (.iconst 2, 1) := by decide +kernel
theorem d_M_init_117 : decode c9_M_init 117 = .ok (.newarray .int, 2) := by decide +kernel
theorem d_M_init_119 : decode c9_M_init 119 = .ok (.putfield 54, 3) := by decide +kernel
theorem d_M_init_122 : decode c9_M_init 122 = .ok (.aload_n 0, 1) := by decide +kernel
theorem d_M_init_123 : decode c9_M_init 123 = .ok (.iconst 2, 1) := by decide +kernel
theorem d_M_init_124 : decode c9_M_init 124 = .ok (.newarray .long, 2) := by decide +kernel
theorem d_M_init_126 : decode c9_M_init 126 = .ok (.putfield 57, 3) := by decide +kernel
theorem d_M_init_129 : decode c9_M_init 129 = .ok (.aload_n 0, 1) := by decide +kernel
theorem d_M_init_130 : decode c9_M_init 130 = .ok (.bipush 8, 2) := by decide +kernel
theorem d_M_init_132 : decode c9_M_init 132 = .ok (.newarray .long, 2) := by decide +kernel
theorem d_M_init_134 : decode c9_M_init 134 = .ok (.putfield 60, 3) := by decide +kernel
theorem d_M_init_137 : decode c9_M_init 137 = .ok (.aload_n 0, 1) := by decide +kernel
theorem d_M_init_138 : decode c9_M_init 138 = .ok (.getfield 13, 3) := by decide +kernel
theorem d_M_init_141 : decode c9_M_init 141 = .ok (.iconst 0, 1) := by decide +kernel
theorem d_M_init_142 : decode c9_M_init 142 = .ok (.sipush 32369, 3) := by decide +kernel
theorem d_M_init_145 : decode c9_M_init 145 = .ok (.iastore, 1) := by decide +kernel
theorem d_M_init_146 : decode c9_M_init 146 = .ok (.aload_n 0, 1) := by decide +kernel
theorem d_M_init_147 : decode c9_M_init 147 = .ok (.getfield 13, 3) := by decide +kernel
theorem d_M_init_150 : decode c9_M_init 150 = .ok (.iconst 1, 1) := by decide +kernel
theorem d_M_init_151 : decode c9_M_init 151 = .ok (.sipush 29921, 3) := by decide +kernel
theorem d_M_init_154 : decode c9_M_init 154 = .ok (.iastore, 1) := by decide +kernel
theorem d_M_init_155 : decode c9_M_init 155 = .ok (.aload_n 0, 1) := by decide +kernel
theorem d_M_init_156 : decode c9_M_init 156 = .ok (.getfield 13, 3) := by decide +kernel
theorem d_M_init_159 : decode c9_M_init 159 = .ok (.iconst 2, 1) := by decide +kernel
theorem d_M_init_160 : decode c9_M_init 160 = .ok (.sipush 28289, 3) := by decide +kernel
theorem d_M_init_163 : decode c9_M_init 163 = .ok (.iastore, 1) := by decide +kernel
theorem d_M_init_164 : decode c9_M_init 164 = .ok (.aload_n 0, 1) := by decide +kernel
theorem d_M_init_165 : decode c9_M_init 165 = .ok (.getfield 13, 3) := by decide +kernel
theorem d_M_init_168 : decode c9_M_init 168 = .ok (.iconst 3, 1) := by decide +kernel
theorem d_M_init_169 : decode c9_M_init 169 = .ok (.sipush 26113, 3) := by decide +kernel
theorem d_M_init_172 : decode c9_M_init 172 = .ok (.iastore, 1) := by decide +kernel
theorem d_M_init_173 : decode c9_M_init 173 = .ok (.lconst 1, 1) := by decide +kernel
theorem d_M_init_174 : decode c9_M_init 174 = .ok (.lstore_n 2, 1) := by decide +kernel
theorem d_M_init_175 : decode c9_M_init 175 = .ok (.iconst 0, 1) := by decide +kernel
theorem d_M_init_176 : decode c9_M_init 176 = .ok (.istore 4, 2) := by decide +kernel
theorem d_M_init_178 : decode c9_M_init 178 = .ok (.iload 4, 2) := by decide +kernel
theorem d_M_init_180 : decode c9_M_init 180 = .ok (.iconst 4, 1) := by decide +kernel
theorem d_M_init_181 : decode c9_M_init 181 = .ok (.if_icmp .ge 28, 3) := by decide +kernel
theorem d_M_init_184 : decode c9_M_init 184 = .ok (.lload_n 2, 1) := by decide +kernel
theorem d_M_init_185 : decode c9_M_init 185 = .ok (.aload_n 0, 1) := by decide +kernel
theorem d_M_init_186 : decode c9_M_init 186 = .ok (.getfield 13, 3) := by decide +kernel
theorem d_M_init_189 : decode c9_M_init 189 = .ok (.iload 4, 2) := by decide +kernel
theorem d_M_init_191 : decode c9_M_init 191 = .ok (.iaload, 1) := by decide +kernel
theorem d_M_init_192 : decode c9_M_init 192 = .ok (.i2l, 1) := by decide +kernel
theorem d_M_init_193 : decode c9_M_init 193 = .ok (.lmul, 1) := by decide +kernel
theorem d_M_init_194 : decode c9_M_init 194 = .ok (.lstore_n 2, 1) := by decide +kernel
theorem d_M_init_195 : decode c9_M_init 195 = .ok (.aload_n 0, 1) := by decide +kernel
theorem d_M_init_196 : decode c9_M_init 196 = .ok (.getfield 17, 3) := by decide +kernel
theorem d_M_init_199 : decode c9_M_init 199 = .ok (.iload 4, 2) := by decide +kernel
theorem d_M_init_201 : decode c9_M_init 201 = .ok (.lload_n 2, 1) := by decide +kernel
theorem d_M_init_202 : decode c9_M_init 202 = .ok (.lastore, 1) := by decide +kernel
theorem d_M_init_203 : decode c9_M_init 203 = .ok (.iinc 4 1, 3) := by decide +kernel
theorem d_M_init_206 : decode c9_M_init 206 = .ok (.goto (-28), 3) := by decide +kernel
theorem d_M_init_209 : decode c9_M_init 209 = .ok (.iconst 0, 1) := by decide +kernel
theorem d_M_init_210 : decode c9_M_init 210 = .ok (.istore 4, 2) := by decide +kernel
theorem d_M_init_212 : decode c9_M_init 212 = .ok (.iload 4, 2) := by decide +kernel
theorem d_M_init_214 : decode c9_M_init 214 = .ok (.iconst 4, 1) := by decide +kernel
theorem d_M_init_215 : decode c9_M_init 215 = .ok (.if_icmp .ge 73, 3) := by decide +kernel
theorem d_M_init_218 : decode c9_M_init 218 = .ok (.lload_n 2, 1) := by decide +kernel
theorem d_M_init_219 : decode c9_M_init 219 = .ok (.aload_n 0, 1) := by decide +kernel
theorem d_M_init_220 : decode c9_M_init 220 = .ok (.getfield 13, 3) := by decide +kernel
theorem d_M_init_223 : decode c9_M_init 223 = .ok (.iload 4, 2) := by decide +kernel
theorem d_M_init_225 : decode c9_M_init 225 = .ok (.iaload, 1) := by decide +kernel
theorem d_M_init_226 : decode c9_M_init 226 = .ok (.i2l, 1) := by decide +kernel
theorem d_M_init_227 : decode c9_M_init 227 = .ok (.ldiv, 1) := by decide +kernel
theorem d_M_init_228 : decode c9_M_init 228 = .ok (.lstore 5, 2) := by decide +kernel
theorem d_M_init_230 : decode c9_M_init 230 = .ok (.lload 5, 2) := by decide +kernel
theorem d_M_init_232 : decode c9_M_init 232 = .ok (.lstore 7, 2) := by decide +kernel
theorem d_M_init_234 : decode c9_M_init 234 = .ok (.iconst 0, 1) := by decide +kernel
theorem d_M_init_235 : decode c9_M_init 235 = .ok (.istore 9, 2) := by decide +kernel
theorem d_M_init_237 : decode c9_M_init 237 = .ok (.iload 9, 2) := by decide +kernel
theorem d_M_init_239 : decode c9_M_init 239 = .ok (.ldc 63, 2) := by decide +kernel
theorem d_M_init_241 : decode c9_M_init 241 = .ok (.if_icmp .ge 32, 3) := by decide +kernel
theorem d_M_init_244 : decode c9_M_init 244 = .ok (.lload 7, 2) := by decide +kernel
theorem d_M_init_246 : decode c9_M_init 246 = .ok (.aload_n 0, 1) := by decide +kernel
theorem d_M_init_247 : decode c9_M_init 247 = .ok (.getfield 13, 3) := by decide +kernel
theorem d_M_init_250 : decode c9_M_init 250 = .ok (.iload 4, 2) := by decide +kernel
theorem d_M_init_252 : decode c9_M_init 252 = .ok (.iaload, 1) := by decide +kernel
theorem d_M_init_253 : decode c9_M_init 253 = .ok (.i2l, 1) := by decide +kernel
theorem d_M_init_254 : decode c9_M_init 254 = .ok (.lrem, 1) := by decide +kernel
theorem d_M_init_255 : decode c9_M_init 255 = .ok (.lconst 1, 1) := by decide +kernel
theorem d_M_init_256 : decode c9_M_init 256 = .ok (.lcmp, 1) := by decide +kernel
theorem d_M_init_257 : decode c9_M_init 257 = .ok (.ifCond .eq 16, 3) := by decide +kernel
theorem d_M_init_260 : decode c9_M_init 260 = .ok (.lload 7, 2) := by decide +kernel
theorem d_M_init_262 : decode c9_M_init 262 = .ok (.lload 5, 2) := by decide +kernel
theorem d_M_init_264 : decode c9_M_init 264 = .ok (.ladd, 1) := by decide +kernel
theorem d_M_init_265 : decode c9_M_init 265 = .ok (.lstore 7, 2) := by decide +kernel
theorem d_M_init_267 : decode c9_M_init 267 = .ok (.iinc 9 1, 3) := by decide +kernel
theorem d_M_init_270 : decode c9_M_init 270 = .ok (.goto (-33), 3) := by decide +kernel
theorem d_M_init_273 : decode c9_M_init 273 = .ok (.aload_n 0, 1) := by decide +kernel
theorem d_M_init_274 : decode c9_M_init 274 = .ok (.getfield 20, 3) := by decide +kernel
theorem d_M_init_277 : decode c9_M_init 277 = .ok (.iload 4, 2) := by decide +kernel
theorem d_M_init_279 : decode c9_M_init 279 = .ok (.lload 7, 2) := by decide +kernel
theorem d_M_init_281 : decode c9_M_init 281 = .ok (.lastore, 1) := by decide +kernel
theorem d_M_init_282 : decode c9_M_init 282 = .ok (.iinc 4 1, 3) := by decide +kernel
theorem d_M_init_285 : decode c9_M_init 285 = .ok (.goto (-73), 3) := by decide +kernel
theorem d_M_init_288 : decode c9_M_init 288 = .ok (.aload_n 0, 1) := by decide +kernel
theorem d_M_init_289 : decode c9_M_init 289 = .ok (.iload_n 1, 1) := by decide +kernel
theorem d_M_init_290 : decode c9_M_init 290 = .ok (.putfield 64, 3) := by decide +kernel
theorem d_M_init_293 : decode c9_M_init 293 = .ok (.aload_n 0, 1) := by decide +kernel
theorem d_M_init_294 : decode c9_M_init 294 = .ok (.invokevirtual 68, 3) := by decide +kernel
theorem d_M_init_297 : decode c9_M_init 297 = .ok (.iconst 0, 1) := by decide +kernel
theorem d_M_init_298 : decode c9_M_init 298 = .ok (.istore 4, 2) := by decide +kernel
theorem d_M_init_300 : decode c9_M_init 300 = .ok (.iload 4, 2) := by decide +kernel
theorem d_M_init_302 : decode c9_M_init 302 = .ok (.bipush 8, 2) := by decide +kernel
theorem d_M_init_304 : decode c9_M_init 304 = .ok (.if_icmp .ge 23, 3) := by decide +kernel
theorem d_M_init_307 : decode c9_M_init 307 = .ok (.aload_n 0, 1) := by decide +kernel
theorem d_M_init_308 : decode c9_M_init 308 = .ok (.getfield 23, 3) := by decide +kernel
theorem d_M_init_311 : decode c9_M_init 311 = .ok (.iload 4, 2) := by decide +kernel
theorem d_M_init_313 : decode c9_M_init 313 = .ok (.aload_n 0, 1) := by decide +kernel
theorem d_M_init_314 : decode c9_M_init 314 = .ok (.getfield 26, 3) := by decide +kernel
theorem d_M_init_317 : decode c9_M_init 317 = .ok (.iload 4, 2) := by decide +kernel
theorem d_M_init_319 : decode c9_M_init 319 = .ok (.iaload, 1) := by decide +kernel
theorem d_M_init_320 : decode c9_M_init 320 = .ok (.iastore, 1) := by decide +kernel
theorem d_M_init_321 : decode c9_M_init 321 = .ok (.iinc 4 1, 3) := by decide +kernel
theorem d_M_init_324 : decode c9_M_init 324 = .ok (.goto (-24), 3) := by decide +kernel
theorem d_M_init_327 : decode c9_M_init 327 = .ok (.iconst 0, 1) := by decide +kernel
theorem d_M_init_328 : decode c9_M_init 328 = .ok (.istore 4, 2) := by decide +kernel
theorem d_M_init_330 : decode c9_M_init 330 = .ok (.iload 4, 2) := by decide +kernel
theorem d_M_init_332 : decode c9_M_init 332 = .ok (.iconst 4, 1) := by decide +kernel
theorem d_M_init_333 : decode c9_M_init 333 = .ok (.if_icmp .ge 25, 3) := by decide +kernel
theorem d_M_init_336 : decode c9_M_init 336 = .ok (.aload_n 0, 1) := by decide +kernel
theorem d_M_init_337 : decode c9_M_init 337 = .ok (.iload 4, 2) := by decide +kernel
theorem d_M_init_339 : decode c9_M_init 339 = .ok (.invokevirtual 71, 3) := by decide +kernel
theorem d_M_init_342 : decode c9_M_init 342 = .ok (.aload_n 0, 1) := by decide +kernel
theorem d_M_init_343 : decode c9_M_init 343 = .ok (.invokevirtual 68, 3) := by decide +kernel
theorem d_M_init_346 : decode c9_M_init 346 = .ok (.aload_n 0, 1) := by decide +kernel
theorem d_M_init_347 : decode c9_M_init 347 = .ok (.iload 4, 2) := by decide +kernel
theorem d_M_init_349 : decode c9_M_init 349 = .ok (.invokevirtual 75, 3) := by decide +kernel
theorem d_M_init_352 : decode c9_M_init 352 = .ok (.iinc 4 1, 3) := by decide +kernel
theorem d_M_init_355 : decode c9_M_init 355 = .ok (.goto (-25), 3) := by decide +kernel
theorem d_M_init_358 : decode c9_M_init 358 = .ok (.return_, 1) := by decide +kernel
theorem d_M_drawSmall_0 : decode c9_M_drawSmall 0 = .ok (.iconst 0, 1) := by decide +kernel
theorem d_M_drawSmall_1 : decode c9_M_drawSmall 1 = .ok (.istore_n 1, 1) := by decide +kernel
theorem d_M_drawSmall_2 : decode c9_M_drawSmall 2 = .ok (.iload_n 1, 1) := by decide +kernel
theorem d_M_drawSmall_3 : decode c9_M_drawSmall 3 = .ok (.bipush 8, 2) := by decide +kernel
theorem d_M_drawSmall_5 : decode c9_M_drawSmall 5 = .ok (.if_icmp .ge 23, 3) := by decide +kernel
theorem d_M_drawSmall_8 : decode c9_M_drawSmall 8 = .ok (.aload_n 0, 1) := by decide +kernel
theorem d_M_drawSmall_9 : decode c9_M_drawSmall 9 = .ok (.getfield 26, 3) := by decide +kernel
theorem d_M_drawSmall_12 : decode c9_M_drawSmall 12 = .ok (.iload_n 1, 1) := by decide +kernel
theorem d_M_drawSmall_13 : decode c9_M_drawSmall 13 = .ok (.aload_n 0, 1) := by decide +kernel
theorem d_M_drawSmall_14 : decode c9_M_drawSmall 14 = .ok (.invokevirtual 80, 3) := by decide +kernel
theorem d_M_drawSmall_17 : decode c9_M_drawSmall 17 = .ok (.iconst 3, 1) := by decide +kernel
theorem d_M_drawSmall_18 : decode c9_M_drawSmall 18 = .ok (.irem, 1) := by decide +kernel
theorem d_M_drawSmall_19 : decode c9_M_drawSmall 19 = .ok (.iconst 1, 1) := by decide +kernel
theorem d_M_drawSmall_20 : decode c9_M_drawSmall 20 = .ok (.isub, 1) := by decide +kernel
theorem d_M_drawSmall_21 : decode c9_M_drawSmall 21 = .ok (.iastore, 1) := by decide +kernel
theorem d_M_drawSmall_22 : decode c9_M_drawSmall 22 = .ok (.iinc 1 1, 3) := by decide +kernel
theorem d_M_drawSmall_25 : decode c9_M_drawSmall 25 = .ok (.goto (-23), 3) := by decide +kernel
theorem d_M_drawSmall_28 : decode c9_M_drawSmall 28 = .ok (.return_, 1) := by decide +kernel
theorem d_M_draw_0 : decode c9_M_draw 0 = .ok (.aload_n 0, 1) := by decide +kernel
theorem d_M_draw_1 : decode c9_M_draw 1 = .ok (.aload_n 0, 1) := by decide +kernel
theorem d_M_draw_2 : decode c9_M_draw 2 = .ok (.getfield 64, 3) := by decide +kernel
theorem d_M_draw_5 : decode c9_M_draw 5 = .ok (.ldc 78, 2) := by decide +kernel
theorem d_M_draw_7 : decode c9_M_draw 7 = .ok (.imul, 1) := by decide +kernel
theorem d_M_draw_8 : decode c9_M_draw 8 = .ok (.ldc 79, 2) := by decide +kernel
theorem d_M_draw_10 : decode c9_M_draw 10 = .ok (.iadd, 1) := by decide +kernel
theorem d_M_draw_11 : decode c9_M_draw 11 = .ok (.putfield 64, 3) := by decide +kernel
theorem d_M_draw_14 : decode c9_M_draw 14 = .ok (.aload_n 0, 1) := by decide +kernel
theorem d_M_draw_15 : decode c9_M_draw 15 = .ok (.getfield 64, 3) := by decide +kernel
theorem d_M_draw_18 : decode c9_M_draw 18 = .ok (.bipush 8, 2) := by decide +kernel
theorem d_M_draw_20 : decode c9_M_draw 20 = .ok (.iushr, 1) := by decide +kernel
theorem d_M_draw_21 : decode c9_M_draw 21 = .ok (.ireturn, 1) := by decide +kernel
theorem d_M_drawUniform_0 : decode c9_M_drawUniform 0 = .ok (.iconst 0, 1) := by decide +kernel
theorem d_M_drawUniform_1 : decode c9_M_drawUniform 1 = .ok (.istore_n 2, 1) := by decide +kernel
theorem d_M_drawUniform_2 : decode c9_M_drawUniform 2 = .ok (.iload_n 2, 1) := by decide +kernel
theorem d_M_drawUniform_3 : decode c9_M_drawUniform 3 = .ok (.bipush 8, 2) := by decide +kernel
theorem d_M_drawUniform_5 : decode c9_M_drawUniform 5 = .ok (.if_icmp .ge 81, 3) := by decide +kernel
theorem d_M_drawUniform_8 : decode c9_M_drawUniform 8 = .ok (.lconst 0, 1) := by decide +kernel
theorem d_M_drawUniform_9 : decode c9_M_drawUniform 9 = .ok (.lstore_n 3, 1) := by decide +kernel
theorem d_M_drawUniform_10 : decode c9_M_drawUniform 10 = .ok (.iconst 0, 1) := by decide +kernel
theorem d_M_drawUniform_11 : decode c9_M_drawUniform 11 = .ok (.istore 5, 2) := by decide +kernel
theorem d_M_drawUniform_13 : decode c9_M_drawUniform 13 = .ok (.iload 5, 2) := by decide +kernel
theorem d_M_drawUniform_15 : decode c9_M_drawUniform 15 = .ok (.iconst 4, 1) := by decide +kernel
theorem d_M_drawUniform_16 : decode c9_M_drawUniform 16 = .ok (.if_icmp .ge 52, 3) := by decide +kernel
theorem d_M_drawUniform_19 : decode c9_M_drawUniform 19 = .ok (.aload_n 0, 1) := by decide +kernel
theorem d_M_drawUniform_20 : decode c9_M_drawUniform 20 = .ok (.invokevirtual 80, 3) := by decide +kernel
theorem d_M_drawUniform_23 : decode c9_M_drawUniform 23 = .ok (.aload_n 0, 1) := by decide +kernel
theorem d_M_drawUniform_24 : decode c9_M_drawUniform 24 = .ok (.getfield 13, 3) := by decide +kernel
theorem d_M_drawUniform_27 : decode c9_M_drawUniform 27 = .ok (.iload 5, 2) := by decide +kernel
theorem d_M_drawUniform_29 : decode c9_M_drawUniform 29 = .ok (.iaload, 1) := by decide +kernel
theorem d_M_drawUniform_30 : decode c9_M_drawUniform 30 = .ok (.irem, 1) := by decide +kernel
theorem d_M_drawUniform_31 : decode c9_M_drawUniform 31 = .ok (.istore 6, 2) := by decide +kernel
theorem d_M_drawUniform_33 : decode c9_M_drawUniform 33 = .ok (.lload_n 3, 1) := by decide +kernel
theorem d_M_drawUniform_34 : decode c9_M_drawUniform 34 = .ok (.aload_n 0, 1) := by decide +kernel
theorem d_M_drawUniform_35 : decode c9_M_drawUniform 35 = .ok (.getfield 20, 3) := by decide +kernel
theorem d_M_drawUniform_38 : decode c9_M_drawUniform 38 = .ok (.iload 5, 2) := by decide +kernel
theorem d_M_drawUniform_40 : decode c9_M_drawUniform 40 = .ok (.laload, 1) := by decide +kernel
theorem d_M_drawUniform_41 : decode c9_M_drawUniform 41 = .ok (.iload 6, 2) := by decide +kernel
theorem d_M_drawUniform_43 : decode c9_M_drawUniform 43 = .ok (.i2l, 1) := by decide +kernel
theorem d_M_drawUniform_44 : decode c9_M_drawUniform 44 = .ok (.aload_n 0, 1) := by decide +kernel
theorem d_M_drawUniform_45 : decode c9_M_drawUniform 45 = .ok (.getfield 17, 3) := by decide +kernel
theorem d_M_drawUniform_48 : decode c9_M_drawUniform 48 = .ok (.iconst 3, 1) := by decide +kernel
theorem d_M_drawUniform_49 : decode c9_M_drawUniform 49 = .ok (.laload, 1) := by decide +kernel
theorem d_M_drawUniform_50 : decode c9_M_drawUniform 50 = .ok (.invokestatic 84, 3) := by decide +kernel
theorem d_M_drawUniform_53 : decode c9_M_drawUniform 53 = .ok (.ladd, 1) := by decide +kernel
theorem d_M_drawUniform_54 : decode c9_M_drawUniform 54 = .ok (.aload_n 0, 1) := by decide +kernel
theorem d_M_drawUniform_55 : decode c9_M_drawUniform 55 = .ok (.getfield 17, 3) := by decide +kernel
theorem d_M_drawUniform_58 : decode c9_M_drawUniform 58 = .ok (.iconst 3, 1) := by decide +kernel
theorem d_M_drawUniform_59 : decode c9_M_drawUniform 59 = .ok (.laload, 1) := by decide +kernel
theorem d_M_drawUniform_60 : decode c9_M_drawUniform 60 = .ok (.lrem, 1) := by decide +kernel
theorem d_M_drawUniform_61 : decode c9_M_drawUniform 61 = .ok (.lstore_n 3, 1) := by decide +kernel
theorem d_M_drawUniform_62 : decode c9_M_drawUniform 62 = .ok (.iinc 5 1, 3) := by decide +kernel
theorem d_M_drawUniform_65 : decode c9_M_drawUniform 65 = .ok (.goto (-52), 3) := by decide +kernel
theorem d_M_drawUniform_68 : decode c9_M_drawUniform 68 = .ok (.aload_n 0, 1) := by decide +kernel
theorem d_M_drawUniform_69 : decode c9_M_drawUniform 69 = .ok (.getfield 7, 3) := by decide +kernel
theorem d_M_drawUniform_72 : decode c9_M_drawUniform 72 = .ok (.bipush 8, 2) := by decide +kernel
theorem d_M_drawUniform_74 : decode c9_M_drawUniform 74 = .ok (.iload_n 1, 1) := by decide +kernel
theorem d_M_drawUniform_75 : decode c9_M_drawUniform 75 = .ok (.imul, 1) := by decide +kernel
theorem d_M_drawUniform_76 : decode c9_M_drawUniform 76 = .ok (.iload_n 2, 1) := by decide +kernel
theorem d_M_drawUniform_77 : decode c9_M_drawUniform 77 = .ok (.iadd, 1) := by decide +kernel
theorem d_M_drawUniform_78 : decode c9_M_drawUniform 78 = .ok (.lload_n 3, 1) := by decide +kernel
theorem d_M_drawUniform_79 : decode c9_M_drawUniform 79 = .ok (.lastore, 1) := by decide +kernel
theorem d_M_drawUniform_80 : decode c9_M_drawUniform 80 = .ok (.iinc 2 1, 3) := by decide +kernel
theorem d_M_drawUniform_83 : decode c9_M_drawUniform 83 = .ok (.goto (-81), 3) := by decide +kernel
theorem d_M_drawUniform_86 : decode c9_M_drawUniform 86 = .ok (.return_, 1) := by decide +kernel
theorem d_M_times_0 : decode c9_M_times 0 = .ok (.lconst 0, 1) := by decide +kernel
theorem d_M_times_1 : decode c9_M_times 1 = .ok (.lstore 6, 2) := by decide +kernel
theorem d_M_times_3 : decode c9_M_times 3 = .ok (.lload_n 0, 1) := by decide +kernel
theorem d_M_times_4 : decode c9_M_times 4 = .ok (.lstore 8, 2) := by decide +kernel
theorem d_M_times_6 : decode c9_M_times 6 = .ok (.lload_n 2, 1) := by decide +kernel
theorem d_M_times_7 : decode c9_M_times 7 = .ok (.lstore 10, 2) := by decide +kernel
theorem d_M_times_9 : decode c9_M_times 9 = .ok (.iconst 0, 1) := by decide +kernel
theorem d_M_times_10 : decode c9_M_times 10 = .ok (.istore 12, 2) := by decide +kernel
theorem d_M_times_12 : decode c9_M_times 12 = .ok (.iload 12, 2) := by decide +kernel
theorem d_M_times_14 : decode c9_M_times 14 = .ok (.bipush 62, 2) := by decide +kernel
theorem d_M_times_16 : decode c9_M_times 16 = .ok (.if_icmp .ge 56, 3) := by decide +kernel
theorem d_M_times_19 : decode c9_M_times 19 = .ok (.lload 10, 2) := by decide +kernel
theorem d_M_times_21 : decode c9_M_times 21 = .ok (.lconst 0, 1) := by decide +kernel
theorem d_M_times_22 : decode c9_M_times 22 = .ok (.lcmp, 1) := by decide +kernel
theorem d_M_times_23 : decode c9_M_times 23 = .ok (.ifCond .le 49, 3) := by decide +kernel
theorem d_M_times_26 : decode c9_M_times 26 = .ok (.lload 10, 2) := by decide +kernel
theorem d_M_times_28 : decode c9_M_times 28 = .ok (.lconst 1, 1) := by decide +kernel
theorem d_M_times_29 : decode c9_M_times 29 = .ok (.land, 1) := by decide +kernel
theorem d_M_times_30 : decode c9_M_times 30 = .ok (.lconst 1, 1) := by decide +kernel
theorem d_M_times_31 : decode c9_M_times 31 = .ok (.lcmp, 1) := by decide +kernel
theorem d_M_times_32 : decode c9_M_times 32 = .ok (.ifCond .ne 14, 3) := by decide +kernel
theorem d_M_times_35 : decode c9_M_times 35 = .ok (.lload 6, 2) := by decide +kernel
theorem d_M_times_37 : decode c9_M_times 37 = .ok (.lload 8, 2) := by decide +kernel
theorem d_M_times_39 : decode c9_M_times 39 = .ok (.ladd, 1) := by decide +kernel
theorem d_M_times_40 : decode c9_M_times 40 = .ok (.lload 4, 2) := by decide +kernel
theorem d_M_times_42 : decode c9_M_times 42 = .ok (.lrem, 1) := by decide +kernel
theorem d_M_times_43 : decode c9_M_times 43 = .ok (.goto 5, 3) := by decide +kernel
theorem d_M_times_46 : decode c9_M_times 46 = .ok (.lload 6, 2) := by decide +kernel
theorem d_M_times_48 : decode c9_M_times 48 = .ok (.lstore 6, 2) := by decide +kernel
theorem d_M_times_50 : decode c9_M_times 50 = .ok (.lload 8, 2) := by decide +kernel
theorem d_M_times_52 : decode c9_M_times 52 = .ok (.lload 8, 2) := by decide +kernel
theorem d_M_times_54 : decode c9_M_times 54 = .ok (.ladd, 1) := by decide +kernel
theorem d_M_times_55 : decode c9_M_times 55 = .ok (.lload 4, 2) := by decide +kernel
theorem d_M_times_57 : decode c9_M_times 57 = .ok (.lrem, 1) := by decide +kernel
theorem d_M_times_58 : decode c9_M_times 58 = .ok (.lstore 8, 2) := by decide +kernel
theorem d_M_times_60 : decode c9_M_times 60 = .ok (.lload 10, 2) := by decide +kernel
theorem d_M_times_62 : decode c9_M_times 62 = .ok (.iconst 1, 1) := by decide +kernel
theorem d_M_times_63 : decode c9_M_times 63 = .ok (.lshr, 1) := by decide +kernel
theorem d_M_times_64 : decode c9_M_times 64 = .ok (.lstore 10, 2) := by decide +kernel
theorem d_M_times_66 : decode c9_M_times 66 = .ok (.iinc 12 1, 3) := by decide +kernel
theorem d_M_times_69 : decode c9_M_times 69 = .ok (.goto (-57), 3) := by decide +kernel
theorem d_M_times_72 : decode c9_M_times 72 = .ok (.lload 6, 2) := by decide +kernel
theorem d_M_times_74 : decode c9_M_times 74 = .ok (.lreturn, 1) := by decide +kernel
theorem d_M_makeB_0 : decode c9_M_makeB 0 = .ok (.iconst 0, 1) := by decide +kernel
theorem d_M_makeB_1 : decode c9_M_makeB 1 = .ok (.istore_n 2, 1) := by decide +kernel
theorem d_M_makeB_2 : decode c9_M_makeB 2 = .ok (.iload_n 2, 1) := by decide +kernel
theorem d_M_makeB_3 : decode c9_M_makeB 3 = .ok (.bipush 8, 2) := by decide +kernel
theorem d_M_makeB_5 : decode c9_M_makeB 5 = .ok (.if_icmp .ge 171, 3) := by decide +kernel
theorem d_M_makeB_8 : decode c9_M_makeB 8 = .ok (.iconst 0, 1) := by decide +kernel
theorem d_M_makeB_9 : decode c9_M_makeB 9 = .ok (.istore_n 3, 1) := by decide +kernel
theorem d_M_makeB_10 : decode c9_M_makeB 10 = .ok (.iconst 0, 1) := by decide +kernel
theorem d_M_makeB_11 : decode c9_M_makeB 11 = .ok (.istore 4, 2) := by decide +kernel
theorem d_M_makeB_13 : decode c9_M_makeB 13 = .ok (.iload 4, 2) := by decide +kernel
theorem d_M_makeB_15 : decode c9_M_makeB 15 = .ok (.bipush 8, 2) := by decide +kernel
theorem d_M_makeB_17 : decode c9_M_makeB 17 = .ok (.if_icmp .ge 64, 3) := by decide +kernel
theorem d_M_makeB_20 : decode c9_M_makeB 20 = .ok (.iload_n 2, 1) := by decide +kernel
theorem d_M_makeB_21 : decode c9_M_makeB 21 = .ok (.iload 4, 2) := by decide +kernel
theorem d_M_makeB_23 : decode c9_M_makeB 23 = .ok (.isub, 1) := by decide +kernel
theorem d_M_makeB_24 : decode c9_M_makeB 24 = .ok (.bipush 7, 2) := by decide +kernel
theorem d_M_makeB_26 : decode c9_M_makeB 26 = .ok (.iand, 1) := by decide +kernel
theorem d_M_makeB_27 : decode c9_M_makeB 27 = .ok (.istore 5, 2) := by decide +kernel
theorem d_M_makeB_29 : decode c9_M_makeB 29 = .ok (.iload_n 3, 1) := by decide +kernel
theorem d_M_makeB_30 : decode c9_M_makeB 30 = .ok (.iload 4, 2) := by decide +kernel
theorem d_M_makeB_32 : decode c9_M_makeB 32 = .ok (.iload 5, 2) := by decide +kernel
theorem d_M_makeB_34 : decode c9_M_makeB 34 = .ok (.iadd, 1) := by decide +kernel
theorem d_M_makeB_35 : decode c9_M_makeB 35 = .ok (.iload_n 2, 1) := by decide +kernel
theorem d_M_makeB_36 : decode c9_M_makeB 36 = .ok (.if_icmp .ne 21, 3) := by decide +kernel
theorem d_M_makeB_39 : decode c9_M_makeB 39 = .ok (.aload_n 0, 1) := by decide +kernel
theorem d_M_makeB_40 : decode c9_M_makeB 40 = .ok (.getfield 23, 3) := by decide +kernel
theorem d_M_makeB_43 : decode c9_M_makeB 43 = .ok (.iload 4, 2) := by decide +kernel
theorem d_M_makeB_45 : decode c9_M_makeB 45 = .ok (.iaload, 1) := by decide +kernel
theorem d_M_makeB_46 : decode c9_M_makeB 46 = .ok (.aload_n 0, 1) := by decide +kernel
theorem d_M_makeB_47 : decode c9_M_makeB 47 = .ok (.getfield 23, 3) := by decide +kernel
theorem d_M_makeB_50 : decode c9_M_makeB 50 = .ok (.iload 5, 2) := by decide +kernel
theorem d_M_makeB_52 : decode c9_M_makeB 52 = .ok (.iaload, 1) := by decide +kernel
theorem d_M_makeB_53 : decode c9_M_makeB 53 = .ok (.imul, 1) := by decide +kernel
theorem d_M_makeB_54 : decode c9_M_makeB 54 = .ok (.goto 19, 3) := by decide +kernel
theorem d_M_makeB_57 : decode c9_M_makeB 57 = .ok (.aload_n 0, 1) := by decide +kernel
theorem d_M_makeB_58 : decode c9_M_makeB 58 = .ok (.getfield 23, 3) := by decide +kernel
theorem d_M_makeB_61 : decode c9_M_makeB 61 = .ok (.iload 4, 2) := by decide +kernel
theorem d_M_makeB_63 : decode c9_M_makeB 63 = .ok (.iaload, 1) := by decide +kernel
theorem d_M_makeB_64 : decode c9_M_makeB 64 = .ok (.ineg, 1) := by decide +kernel
theorem d_M_makeB_65 : decode c9_M_makeB 65 = .ok (.aload_n 0, 1) := by decide +kernel
theorem d_M_makeB_66 : decode c9_M_makeB 66 = .ok (.getfield 23, 3) := by decide +kernel
theorem d_M_makeB_69 : decode c9_M_makeB 69 = .ok (.iload 5, 2) := by decide +kernel
theorem d_M_makeB_71 : decode c9_M_makeB 71 = .ok (.iaload, 1) := by decide +kernel
theorem d_M_makeB_72 : decode c9_M_makeB 72 = .ok (.imul, 1) := by decide +kernel
theorem d_M_makeB_73 : decode c9_M_makeB 73 = .ok (.iadd, 1) := by decide +kernel
theorem d_M_makeB_74 : decode c9_M_makeB 74 = .ok (.istore_n 3, 1) := by decide +kernel
theorem d_M_makeB_75 : decode c9_M_makeB 75 = .ok (.iinc 4 1, 3) := by decide +kernel
theorem d_M_makeB_78 : decode c9_M_makeB 78 = .ok (.goto (-65), 3) := by decide +kernel
theorem d_M_makeB_81 : decode c9_M_makeB 81 = .ok (.iload_n 3, 1) := by decide +kernel
theorem d_M_makeB_82 : decode c9_M_makeB 82 = .ok (.i2l, 1) := by decide +kernel
theorem d_M_makeB_83 : decode c9_M_makeB 83 = .ok (.aload_n 0, 1) := by decide +kernel
theorem d_M_makeB_84 : decode c9_M_makeB 84 = .ok (.getfield 17, 3) := by decide +kernel
theorem d_M_makeB_87 : decode c9_M_makeB 87 = .ok (.iconst 3, 1) := by decide +kernel
theorem d_M_makeB_88 : decode c9_M_makeB 88 = .ok (.laload, 1) := by decide +kernel
theorem d_M_makeB_89 : decode c9_M_makeB 89 = .ok (.invokestatic 88, 3) := by decide +kernel
theorem d_M_makeB_92 : decode c9_M_makeB 92 = .ok (.lstore 4, 2) := by decide +kernel
theorem d_M_makeB_94 : decode c9_M_makeB 94 = .ok (.aload_n 0, 1) := by decide +kernel
theorem d_M_makeB_95 : decode c9_M_makeB 95 = .ok (.getfield 20, 3) := by decide +kernel
theorem d_M_makeB_98 : decode c9_M_makeB 98 = .ok (.iload_n 1, 1) := by decide +kernel
theorem d_M_makeB_99 : decode c9_M_makeB 99 = .ok (.laload, 1) := by decide +kernel
theorem d_M_makeB_100 : decode c9_M_makeB 100 = .ok (.lload 4, 2) := by decide +kernel
theorem d_M_makeB_102 : decode c9_M_makeB 102 = .ok (.aload_n 0, 1) := by decide +kernel
theorem d_M_makeB_103 : decode c9_M_makeB 103 = .ok (.getfield 17, 3) := by decide +kernel
theorem d_M_makeB_106 : decode c9_M_makeB 106 = .ok (.iconst 3, 1) := by decide +kernel
theorem d_M_makeB_107 : decode c9_M_makeB 107 = .ok (.laload, 1) := by decide +kernel
theorem d_M_makeB_108 : decode c9_M_makeB 108 = .ok (.invokestatic 84, 3) := by decide +kernel
theorem d_M_makeB_111 : decode c9_M_makeB 111 = .ok (.bipush 17, 2) := by decide +kernel
theorem d_M_makeB_113 : decode c9_M_makeB 113 = .ok (.aload_n 0, 1) := by decide +kernel
theorem d_M_makeB_114 : decode c9_M_makeB 114 = .ok (.getfield 26, 3) := by decide +kernel
theorem d_M_makeB_117 : decode c9_M_makeB 117 = .ok (.iload_n 2, 1) := by decide +kernel
theorem d_M_makeB_118 : decode c9_M_makeB 118 = .ok (.iaload, 1) := by decide +kernel
theorem d_M_makeB_119 : decode c9_M_makeB 119 = .ok (.imul, 1) := by decide +kernel
theorem d_M_makeB_120 : decode c9_M_makeB 120 = .ok (.i2l, 1) := by decide +kernel
theorem d_M_makeB_121 : decode c9_M_makeB 121 = .ok (.aload_n 0, 1) := by decide +kernel
theorem d_M_makeB_122 : decode c9_M_makeB 122 = .ok (.getfield 17, 3) := by decide +kernel
theorem d_M_makeB_125 : decode c9_M_makeB 125 = .ok (.iconst 3, 1) := by decide +kernel
theorem d_M_makeB_126 : decode c9_M_makeB 126 = .ok (.laload, 1) := by decide +kernel
theorem d_M_makeB_127 : decode c9_M_makeB 127 = .ok (.invokestatic 88, 3) := by decide +kernel
theorem d_M_makeB_130 : decode c9_M_makeB 130 = .ok (.ladd, 1) := by decide +kernel
theorem d_M_makeB_131 : decode c9_M_makeB 131 = .ok (.lstore 6, 2) := by decide +kernel
theorem d_M_makeB_133 : decode c9_M_makeB 133 = .ok (.aload_n 0, 1) := by decide +kernel
theorem d_M_makeB_134 : decode c9_M_makeB 134 = .ok (.getfield 7, 3) := by decide +kernel
theorem d_M_makeB_137 : decode c9_M_makeB 137 = .ok (.bipush 8, 2) := by decide +kernel
theorem d_M_makeB_139 : decode c9_M_makeB 139 = .ok (.iconst 4, 1) := by decide +kernel
theorem d_M_makeB_140 : decode c9_M_makeB 140 = .ok (.iload_n 1, 1) := by decide +kernel
theorem d_M_makeB_141 : decode c9_M_makeB 141 = .ok (.iadd, 1) := by decide +kernel
theorem d_M_makeB_142 : decode c9_M_makeB 142 = .ok (.imul, 1) := by decide +kernel
theorem d_M_makeB_143 : decode c9_M_makeB 143 = .ok (.iload_n 2, 1) := by decide +kernel
theorem d_M_makeB_144 : decode c9_M_makeB 144 = .ok (.iadd, 1) := by decide +kernel
theorem d_M_makeB_145 : decode c9_M_makeB 145 = .ok (.lload 6, 2) := by decide +kernel
theorem d_M_makeB_147 : decode c9_M_makeB 147 = .ok (.aload_n 0, 1) := by decide +kernel
theorem d_M_makeB_148 : decode c9_M_makeB 148 = .ok (.iload_n 1, 1) := by decide +kernel
theorem d_M_makeB_149 : decode c9_M_makeB 149 = .ok (.iload_n 2, 1) := by decide +kernel
theorem d_M_makeB_150 : decode c9_M_makeB 150 = .ok (.aload_n 0, 1) := by decide +kernel
theorem d_M_makeB_151 : decode c9_M_makeB 151 = .ok (.getfield 17, 3) := by decide +kernel
theorem d_M_makeB_154 : decode c9_M_makeB 154 = .ok (.iconst 3, 1) := by decide +kernel
theorem d_M_makeB_155 : decode c9_M_makeB 155 = .ok (.laload, 1) := by decide +kernel
theorem d_M_makeB_156 : decode c9_M_makeB 156 = .ok (.invokevirtual 92, 3) := by decide +kernel
theorem d_M_makeB_159 : decode c9_M_makeB 159 = .ok (.lsub, 1) := by decide +kernel
theorem d_M_makeB_160 : decode c9_M_makeB 160 = .ok (.aload_n 0, 1) := by decide +kernel
theorem d_M_makeB_161 : decode c9_M_makeB 161 = .ok (.getfield 17, 3) := by decide +kernel
theorem d_M_makeB_164 : decode c9_M_makeB 164 = .ok (.iconst 3, 1) := by decide +kernel
theorem d_M_makeB_165 : decode c9_M_makeB 165 = .ok (.laload, 1) := by decide +kernel
theorem d_M_makeB_166 : decode c9_M_makeB 166 = .ok (.invokestatic 88, 3) := by decide +kernel
theorem d_M_makeB_169 : decode c9_M_makeB 169 = .ok (.lastore, 1) := by decide +kernel
theorem d_M_makeB_170 : decode c9_M_makeB 170 = .ok (.iinc 2 1, 3) := by decide +kernel
theorem d_M_makeB_173 : decode c9_M_makeB 173 = .ok (.goto (-171), 3) := by decide +kernel
theorem d_M_makeB_176 : decode c9_M_makeB 176 = .ok (.return_, 1) := by decide +kernel
theorem d_M_modulo_0 : decode c9_M_modulo 0 = .ok (.lload_n 0, 1) := by decide +kernel
theorem d_M_modulo_1 : decode c9_M_modulo 1 = .ok (.lload_n 2, 1) := by decide +kernel
theorem d_M_modulo_2 : decode c9_M_modulo 2 = .ok (.lrem, 1) := by decide +kernel
theorem d_M_modulo_3 : decode c9_M_modulo 3 = .ok (.lstore 4, 2) := by decide +kernel
theorem d_M_modulo_5 : decode c9_M_modulo 5 = .ok (.lload 4, 2) := by decide +kernel
theorem d_M_modulo_7 : decode c9_M_modulo 7 = .ok (.lconst 0, 1) := by decide +kernel
theorem d_M_modulo_8 : decode c9_M_modulo 8 = .ok (.lcmp, 1) := by decide +kernel
theorem d_M_modulo_9 : decode c9_M_modulo 9 = .ok (.ifCond .ge 10, 3) := by decide +kernel
theorem d_M_modulo_12 : decode c9_M_modulo 12 = .ok (.lload 4, 2) := by decide +kernel
theorem d_M_modulo_14 : decode c9_M_modulo 14 = .ok (.lload_n 2, 1) := by decide +kernel
theorem d_M_modulo_15 : decode c9_M_modulo 15 = .ok (.ladd, 1) := by decide +kernel
theorem d_M_modulo_16 : decode c9_M_modulo 16 = .ok (.goto 5, 3) := by decide +kernel
theorem d_M_modulo_19 : decode c9_M_modulo 19 = .ok (.lload 4, 2) := by decide +kernel
theorem d_M_modulo_21 : decode c9_M_modulo 21 = .ok (.lreturn, 1) := by decide +kernel
theorem d_M_withSecret_0 : decode c9_M_withSecret 0 = .ok (.lconst 0, 1) := by decide +kernel
theorem d_M_withSecret_1 : decode c9_M_withSecret 1 = .ok (.lstore 5, 2) := by decide +kernel
theorem d_M_withSecret_3 : decode c9_M_withSecret 3 = .ok (.iconst 0, 1) := by decide +kernel
theorem d_M_withSecret_4 : decode c9_M_withSecret 4 = .ok (.istore 7, 2) := by decide +kernel
theorem d_M_withSecret_6 : decode c9_M_withSecret 6 = .ok (.iload 7, 2) := by decide +kernel
theorem d_M_withSecret_8 : decode c9_M_withSecret 8 = .ok (.bipush 8, 2) := by decide +kernel
theorem d_M_withSecret_10 : decode c9_M_withSecret 10 = .ok (.if_icmp .ge 72, 3) := by decide +kernel
theorem d_M_withSecret_13 : decode c9_M_withSecret 13 = .ok (.iload_n 2, 1) := by decide +kernel
theorem d_M_withSecret_14 : decode c9_M_withSecret 14 = .ok (.iload 7, 2) := by decide +kernel
theorem d_M_withSecret_16 : decode c9_M_withSecret 16 = .ok (.isub, 1) := by decide +kernel
theorem d_M_withSecret_17 : decode c9_M_withSecret 17 = .ok (.bipush 7, 2) := by decide +kernel
theorem d_M_withSecret_19 : decode c9_M_withSecret 19 = .ok (.iand, 1) := by decide +kernel
theorem d_M_withSecret_20 : decode c9_M_withSecret 20 = .ok (.istore 8, 2) := by decide +kernel
theorem d_M_withSecret_22 : decode c9_M_withSecret 22 = .ok (.iload 7, 2) := by decide +kernel
theorem d_M_withSecret_24 : decode c9_M_withSecret 24 = .ok (.iload 8, 2) := by decide +kernel
theorem d_M_withSecret_26 : decode c9_M_withSecret 26 = .ok (.iadd, 1) := by decide +kernel
theorem d_M_withSecret_27 : decode c9_M_withSecret 27 = .ok (.iload_n 2, 1) := by decide +kernel
theorem d_M_withSecret_28 : decode c9_M_withSecret 28 = .ok (.if_icmp .ne 13, 3) := by decide +kernel
theorem d_M_withSecret_31 : decode c9_M_withSecret 31 = .ok (.aload_n 0, 1) := by decide +kernel
theorem d_M_withSecret_32 : decode c9_M_withSecret 32 = .ok (.getfield 23, 3) := by decide +kernel
theorem d_M_withSecret_35 : decode c9_M_withSecret 35 = .ok (.iload 8, 2) := by decide +kernel
theorem d_M_withSecret_37 : decode c9_M_withSecret 37 = .ok (.iaload, 1) := by decide +kernel
theorem d_M_withSecret_38 : decode c9_M_withSecret 38 = .ok (.goto 11, 3) := by decide +kernel
theorem d_M_withSecret_41 : decode c9_M_withSecret 41 = .ok (.aload_n 0, 1) := by decide +kernel
theorem d_M_withSecret_42 : decode c9_M_withSecret 42 = .ok (.getfield 23, 3) := by decide +kernel
theorem d_M_withSecret_45 : decode c9_M_withSecret 45 = .ok (.iload 8, 2) := by decide +kernel
theorem d_M_withSecret_47 : decode c9_M_withSecret 47 = .ok (.iaload, 1) := by decide +kernel
theorem d_M_withSecret_48 : decode c9_M_withSecret 48 = .ok (.ineg, 1) := by decide +kernel
theorem d_M_withSecret_49 : decode c9_M_withSecret 49 = .ok (.istore 9, 2) := by decide +kernel
theorem d_M_withSecret_51 : decode c9_M_withSecret 51 = .ok (.lload 5, 2) := by decide +kernel
theorem d_M_withSecret_53 : decode c9_M_withSecret 53 = .ok (.iload 9, 2) := by decide +kernel
theorem d_M_withSecret_55 : decode c9_M_withSecret 55 = .ok (.i2l, 1) := by decide +kernel
theorem d_M_withSecret_56 : decode c9_M_withSecret 56 = .ok (.aload_n 0, 1) := by decide +kernel
theorem d_M_withSecret_57 : decode c9_M_withSecret 57 = .ok (.getfield 7, 3) := by decide +kernel
theorem d_M_withSecret_60 : decode c9_M_withSecret 60 = .ok (.bipush 8, 2) := by decide +kernel
theorem d_M_withSecret_62 : decode c9_M_withSecret 62 = .ok (.iload_n 1, 1) := by decide +kernel
theorem d_M_withSecret_63 : decode c9_M_withSecret 63 = .ok (.imul, 1) := by decide +kernel
theorem d_M_withSecret_64 : decode c9_M_withSecret 64 = .ok (.iload 7, 2) := by decide +kernel
theorem d_M_withSecret_66 : decode c9_M_withSecret 66 = .ok (.iadd, 1) := by decide +kernel
theorem d_M_withSecret_67 : decode c9_M_withSecret 67 = .ok (.laload, 1) := by decide +kernel
theorem d_M_withSecret_68 : decode c9_M_withSecret 68 = .ok (.lmul, 1) := by decide +kernel
theorem d_M_withSecret_69 : decode c9_M_withSecret 69 = .ok (.ladd, 1) := by decide +kernel
theorem d_M_withSecret_70 : decode c9_M_withSecret 70 = .ok (.lload_n 3, 1) := by decide +kernel
theorem d_M_withSecret_71 : decode c9_M_withSecret 71 = .ok (.invokestatic 88, 3) := by decide +kernel
theorem d_M_withSecret_74 : decode c9_M_withSecret 74 = .ok (.lstore 5, 2) := by decide +kernel
theorem d_M_withSecret_76 : decode c9_M_withSecret 76 = .ok (.iinc 7 1, 3) := by decide +kernel
theorem d_M_withSecret_79 : decode c9_M_withSecret 79 = .ok (.goto (-73), 3) := by decide +kernel
theorem d_M_withSecret_82 : decode c9_M_withSecret 82 = .ok (.lload 5, 2) := by decide +kernel
theorem d_M_withSecret_84 : decode c9_M_withSecret 84 = .ok (.lreturn, 1) := by decide +kernel
theorem d_M_put_0 : decode c9_M_put 0 = .ok (.iload_n 1, 1) := by decide +kernel
theorem d_M_put_1 : decode c9_M_put 1 = .ok (.ifCond .lt 9, 3) := by decide +kernel
theorem d_M_put_4 : decode c9_M_put 4 = .ok (.iload_n 1, 1) := by decide +kernel
theorem d_M_put_5 : decode c9_M_put 5 = .ok (.bipush 7, 2) := by decide +kernel
theorem d_M_put_7 : decode c9_M_put 7 = .ok (.if_icmp .le 5, 3) := by decide +kernel
theorem d_M_put_10 : decode c9_M_put 10 = .ok (.iconst 0, 1) := by decide +kernel
theorem d_M_put_11 : decode c9_M_put 11 = .ok (.ireturn, 1) := by decide +kernel
theorem d_M_put_12 : decode c9_M_put 12 = .ok (.aload_n 0, 1) := by decide +kernel
theorem d_M_put_13 : decode c9_M_put 13 = .ok (.getfield 29, 3) := by decide +kernel
theorem d_M_put_16 : decode c9_M_put 16 = .ok (.iload_n 1, 1) := by decide +kernel
theorem d_M_put_17 : decode c9_M_put 17 = .ok (.iload_n 2, 1) := by decide +kernel
theorem d_M_put_18 : decode c9_M_put 18 = .ok (.i2l, 1) := by decide +kernel
theorem d_M_put_19 : decode c9_M_put 19 = .ok (.ldc2_w 96, 3) := by decide +kernel
theorem d_M_put_22 : decode c9_M_put 22 = .ok (.invokestatic 88, 3) := by decide +kernel
theorem d_M_put_25 : decode c9_M_put 25 = .ok (.l2i, 1) := by decide +kernel
theorem d_M_put_26 : decode c9_M_put 26 = .ok (.iastore, 1) := by decide +kernel
theorem d_M_put_27 : decode c9_M_put 27 = .ok (.iconst 1, 1) := by decide +kernel
theorem d_M_put_28 : decode c9_M_put 28 = .ok (.ireturn, 1) := by decide +kernel
theorem d_M_input_0 : decode c9_M_input 0 = .ok (.aload_n 0, 1) := by decide +kernel
theorem d_M_input_1 : decode c9_M_input 1 = .ok (.getfield 98, 3) := by decide +kernel
theorem d_M_input_4 : decode c9_M_input 4 = .ok (.bipush 24, 2) := by decide +kernel
theorem d_M_input_6 : decode c9_M_input 6 = .ok (.if_icmp .ne 7, 3) := by decide +kernel
theorem d_M_input_9 : decode c9_M_input 9 = .ok (.iconst (-1), 1) := by decide +kernel
theorem d_M_input_10 : decode c9_M_input 10 = .ok (.goto 10, 3) := by decide +kernel
theorem d_M_input_13 : decode c9_M_input 13 = .ok (.aload_n 0, 1) := by decide +kernel
theorem d_M_input_14 : decode c9_M_input 14 = .ok (.iconst 0, 1) := by decide +kernel
theorem d_M_input_15 : decode c9_M_input 15 = .ok (.iload_n 1, 1) := by decide +kernel
theorem d_M_input_16 : decode c9_M_input 16 = .ok (.iconst 0, 1) := by decide +kernel
theorem d_M_input_17 : decode c9_M_input 17 = .ok (.invokevirtual 109, 3) := by decide +kernel
theorem d_M_input_20 : decode c9_M_input 20 = .ok (.ireturn, 1) := by decide +kernel
theorem d_M_add_0 : decode c9_M_add 0 = .ok (.aload_n 0, 1) := by decide +kernel
theorem d_M_add_1 : decode c9_M_add 1 = .ok (.getfield 32, 3) := by decide +kernel
theorem d_M_add_4 : decode c9_M_add 4 = .ok (.aload_n 0, 1) := by decide +kernel
theorem d_M_add_5 : decode c9_M_add 5 = .ok (.getfield 98, 3) := by decide +kernel
theorem d_M_add_8 : decode c9_M_add 8 = .ok (.iload_n 1, 1) := by decide +kernel
theorem d_M_add_9 : decode c9_M_add 9 = .ok (.iastore, 1) := by decide +kernel
theorem d_M_add_10 : decode c9_M_add 10 = .ok (.aload_n 0, 1) := by decide +kernel
theorem d_M_add_11 : decode c9_M_add 11 = .ok (.getfield 35, 3) := by decide +kernel
theorem d_M_add_14 : decode c9_M_add 14 = .ok (.aload_n 0, 1) := by decide +kernel
theorem d_M_add_15 : decode c9_M_add 15 = .ok (.getfield 98, 3) := by decide +kernel
theorem d_M_add_18 : decode c9_M_add 18 = .ok (.iload_n 2, 1) := by decide +kernel
theorem d_M_add_19 : decode c9_M_add 19 = .ok (.iastore, 1) := by decide +kernel
theorem d_M_add_20 : decode c9_M_add 20 = .ok (.aload_n 0, 1) := by decide +kernel
theorem d_M_add_21 : decode c9_M_add 21 = .ok (.getfield 38, 3) := by decide +kernel
theorem d_M_add_24 : decode c9_M_add 24 = .ok (.aload_n 0, 1) := by decide +kernel
theorem d_M_add_25 : decode c9_M_add 25 = .ok (.getfield 98, 3) := by decide +kernel
theorem d_M_add_28 : decode c9_M_add 28 = .ok (.iload_n 3, 1) := by decide +kernel
theorem d_M_add_29 : decode c9_M_add 29 = .ok (.iastore, 1) := by decide +kernel
theorem d_M_add_30 : decode c9_M_add 30 = .ok (.aload_n 0, 1) := by decide +kernel
theorem d_M_add_31 : decode c9_M_add 31 = .ok (.getfield 44, 3) := by decide +kernel
theorem d_M_add_34 : decode c9_M_add 34 = .ok (.aload_n 0, 1) := by decide +kernel
theorem d_M_add_35 : decode c9_M_add 35 = .ok (.getfield 98, 3) := by decide +kernel
theorem d_M_add_38 : decode c9_M_add 38 = .ok (.iconst 0, 1) := by decide +kernel
theorem d_M_add_39 : decode c9_M_add 39 = .ok (.bastore, 1) := by decide +kernel
theorem d_M_add_40 : decode c9_M_add 40 = .ok (.iconst 0, 1) := by decide +kernel
theorem d_M_add_41 : decode c9_M_add 41 = .ok (.istore 4, 2) := by decide +kernel
theorem d_M_add_43 : decode c9_M_add 43 = .ok (.iload 4, 2) := by decide +kernel
theorem d_M_add_45 : decode c9_M_add 45 = .ok (.bipush 8, 2) := by decide +kernel
theorem d_M_add_47 : decode c9_M_add 47 = .ok (.if_icmp .ge 41, 3) := by decide +kernel
theorem d_M_add_50 : decode c9_M_add 50 = .ok (.aload_n 0, 1) := by decide +kernel
theorem d_M_add_51 : decode c9_M_add 51 = .ok (.getfield 41, 3) := by decide +kernel
theorem d_M_add_54 : decode c9_M_add 54 = .ok (.bipush 8, 2) := by decide +kernel
theorem d_M_add_56 : decode c9_M_add 56 = .ok (.aload_n 0, 1) := by decide +kernel
theorem d_M_add_57 : decode c9_M_add 57 = .ok (.getfield 98, 3) := by decide +kernel
theorem d_M_add_60 : decode c9_M_add 60 = .ok (.imul, 1) := by decide +kernel
theorem d_M_add_61 : decode c9_M_add 61 = .ok (.iload 4, 2) := by decide +kernel
theorem d_M_add_63 : decode c9_M_add 63 = .ok (.iadd, 1) := by decide +kernel
theorem d_M_add_64 : decode c9_M_add 64 = .ok (.aload_n 0, 1) := by decide +kernel
theorem d_M_add_65 : decode c9_M_add 65 = .ok (.iload_n 1, 1) := by decide +kernel
theorem d_M_add_66 : decode c9_M_add 66 = .ok (.iload_n 2, 1) := by decide +kernel
theorem d_M_add_67 : decode c9_M_add 67 = .ok (.iload_n 3, 1) := by decide +kernel
theorem d_M_add_68 : decode c9_M_add 68 = .ok (.iload 4, 2) := by decide +kernel
theorem d_M_add_70 : decode c9_M_add 70 = .ok (.invokevirtual 101, 3) := by decide +kernel
theorem d_M_add_73 : decode c9_M_add 73 = .ok (.i2l, 1) := by decide +kernel
theorem d_M_add_74 : decode c9_M_add 74 = .ok (.ldc2_w 96, 3) := by decide +kernel
theorem d_M_add_77 : decode c9_M_add 77 = .ok (.invokestatic 88, 3) := by decide +kernel
theorem d_M_add_80 : decode c9_M_add 80 = .ok (.l2i, 1) := by decide +kernel
theorem d_M_add_81 : decode c9_M_add 81 = .ok (.iastore, 1) := by decide +kernel
theorem d_M_add_82 : decode c9_M_add 82 = .ok (.iinc 4 1, 3) := by decide +kernel
theorem d_M_add_85 : decode c9_M_add 85 = .ok (.goto (-42), 3) := by decide +kernel
theorem d_M_add_88 : decode c9_M_add 88 = .ok (.aload_n 0, 1) := by decide +kernel
theorem d_M_add_89 : decode c9_M_add 89 = .ok (.dup, 1) := by decide +kernel
theorem d_M_add_90 : decode c9_M_add 90 = .ok (.getfield 98, 3) := by decide +kernel
theorem d_M_add_93 : decode c9_M_add 93 = .ok (.iconst 1, 1) := by decide +kernel
theorem d_M_add_94 : decode c9_M_add 94 = .ok (.iadd, 1) := by decide +kernel
theorem d_M_add_95 : decode c9_M_add 95 = .ok (.putfield 98, 3) := by decide +kernel
theorem d_M_add_98 : decode c9_M_add 98 = .ok (.aload_n 0, 1) := by decide +kernel
theorem d_M_add_99 : decode c9_M_add 99 = .ok (.getfield 98, 3) := by decide +kernel
theorem d_M_add_102 : decode c9_M_add 102 = .ok (.iconst 1, 1) := by decide +kernel
theorem d_M_add_103 : decode c9_M_add 103 = .ok (.isub, 1) := by decide +kernel
theorem d_M_add_104 : decode c9_M_add 104 = .ok (.ireturn, 1) := by decide +kernel
theorem d_M_plainOf_0 : decode c9_M_plainOf 0 = .ok (.iload_n 1, 1) := by decide +kernel
theorem d_M_plainOf_1 : decode c9_M_plainOf 1 = .ok (.ifCond .ne 11, 3) := by decide +kernel
theorem d_M_plainOf_4 : decode c9_M_plainOf 4 = .ok (.aload_n 0, 1) := by decide +kernel
theorem d_M_plainOf_5 : decode c9_M_plainOf 5 = .ok (.getfield 29, 3) := by decide +kernel
theorem d_M_plainOf_8 : decode c9_M_plainOf 8 = .ok (.iload 4, 2) := by decide +kernel
theorem d_M_plainOf_10 : decode c9_M_plainOf 10 = .ok (.iaload, 1) := by decide +kernel
theorem d_M_plainOf_11 : decode c9_M_plainOf 11 = .ok (.ireturn, 1) := by decide +kernel
theorem d_M_plainOf_12 : decode c9_M_plainOf 12 = .ok (.iload_n 1, 1) := by decide +kernel
theorem d_M_plainOf_13 : decode c9_M_plainOf 13 = .ok (.iconst 1, 1) := by decide +kernel
theorem d_M_plainOf_14 : decode c9_M_plainOf 14 = .ok (.if_icmp .ne 29, 3) := by decide +kernel
theorem d_M_plainOf_17 : decode c9_M_plainOf 17 = .ok (.aload_n 0, 1) := by decide +kernel
theorem d_M_plainOf_18 : decode c9_M_plainOf 18 = .ok (.getfield 41, 3) := by decide +kernel
theorem d_M_plainOf_21 : decode c9_M_plainOf 21 = .ok (.bipush 8, 2) := by decide +kernel
theorem d_M_plainOf_23 : decode c9_M_plainOf 23 = .ok (.iload_n 2, 1) := by decide +kernel
theorem d_M_plainOf_24 : decode c9_M_plainOf 24 = .ok (.imul, 1) := by decide +kernel
theorem d_M_plainOf_25 : decode c9_M_plainOf 25 = .ok (.iload 4, 2) := by decide +kernel
theorem d_M_plainOf_27 : decode c9_M_plainOf 27 = .ok (.iadd, 1) := by decide +kernel
theorem d_M_plainOf_28 : decode c9_M_plainOf 28 = .ok (.iaload, 1) := by decide +kernel
theorem d_M_plainOf_29 : decode c9_M_plainOf 29 = .ok (.aload_n 0, 1) := by decide +kernel
theorem d_M_plainOf_30 : decode c9_M_plainOf 30 = .ok (.getfield 41, 3) := by decide +kernel
theorem d_M_plainOf_33 : decode c9_M_plainOf 33 = .ok (.bipush 8, 2) := by decide +kernel
theorem d_M_plainOf_35 : decode c9_M_plainOf 35 = .ok (.iload_n 3, 1) := by decide +kernel
theorem d_M_plainOf_36 : decode c9_M_plainOf 36 = .ok (.imul, 1) := by decide +kernel
theorem d_M_plainOf_37 : decode c9_M_plainOf 37 = .ok (.iload 4, 2) := by decide +kernel
theorem d_M_plainOf_39 : decode c9_M_plainOf 39 = .ok (.iadd, 1) := by decide +kernel
theorem d_M_plainOf_40 : decode c9_M_plainOf 40 = .ok (.iaload, 1) := by decide +kernel
theorem d_M_plainOf_41 : decode c9_M_plainOf 41 = .ok (.iadd, 1) := by decide +kernel
theorem d_M_plainOf_42 : decode c9_M_plainOf 42 = .ok (.ireturn, 1) := by decide +kernel
theorem d_M_plainOf_43 : decode c9_M_plainOf 43 = .ok (.iload_n 1, 1) := by decide +kernel
theorem d_M_plainOf_44 : decode c9_M_plainOf 44 = .ok (.iconst 2, 1) := by decide +kernel
theorem d_M_plainOf_45 : decode c9_M_plainOf 45 = .ok (.if_icmp .ne 29, 3) := by decide +kernel
theorem d_M_plainOf_48 : decode c9_M_plainOf 48 = .ok (.aload_n 0, 1) := by decide +kernel
theorem d_M_plainOf_49 : decode c9_M_plainOf 49 = .ok (.getfield 41, 3) := by decide +kernel
theorem d_M_plainOf_52 : decode c9_M_plainOf 52 = .ok (.bipush 8, 2) := by decide +kernel
theorem d_M_plainOf_54 : decode c9_M_plainOf 54 = .ok (.iload_n 2, 1) := by decide +kernel
theorem d_M_plainOf_55 : decode c9_M_plainOf 55 = .ok (.imul, 1) := by decide +kernel
theorem d_M_plainOf_56 : decode c9_M_plainOf 56 = .ok (.iload 4, 2) := by decide +kernel
theorem d_M_plainOf_58 : decode c9_M_plainOf 58 = .ok (.iadd, 1) := by decide +kernel
theorem d_M_plainOf_59 : decode c9_M_plainOf 59 = .ok (.iaload, 1) := by decide +kernel
theorem d_M_plainOf_60 : decode c9_M_plainOf 60 = .ok (.aload_n 0, 1) := by decide +kernel
theorem d_M_plainOf_61 : decode c9_M_plainOf 61 = .ok (.getfield 41, 3) := by decide +kernel
theorem d_M_plainOf_64 : decode c9_M_plainOf 64 = .ok (.bipush 8, 2) := by decide +kernel
theorem d_M_plainOf_66 : decode c9_M_plainOf 66 = .ok (.iload_n 3, 1) := by decide +kernel
theorem d_M_plainOf_67 : decode c9_M_plainOf 67 = .ok (.imul, 1) := by decide +kernel
theorem d_M_plainOf_68 : decode c9_M_plainOf 68 = .ok (.iload 4, 2) := by decide +kernel
theorem d_M_plainOf_70 : decode c9_M_plainOf 70 = .ok (.iadd, 1) := by decide +kernel
theorem d_M_plainOf_71 : decode c9_M_plainOf 71 = .ok (.iaload, 1) := by decide +kernel
theorem d_M_plainOf_72 : decode c9_M_plainOf 72 = .ok (.isub, 1) := by decide +kernel
theorem d_M_plainOf_73 : decode c9_M_plainOf 73 = .ok (.ireturn, 1) := by decide +kernel
theorem d_M_plainOf_74 : decode c9_M_plainOf 74 = .ok (.iload_n 1, 1) := by decide +kernel
theorem d_M_plainOf_75 : decode c9_M_plainOf 75 = .ok (.iconst 4, 1) := by decide +kernel
theorem d_M_plainOf_76 : decode c9_M_plainOf 76 = .ok (.if_icmp .ne 28, 3) := by decide +kernel
theorem d_M_plainOf_79 : decode c9_M_plainOf 79 = .ok (.iload_n 3, 1) := by decide +kernel
theorem d_M_plainOf_80 : decode c9_M_plainOf 80 = .ok (.iload 4, 2) := by decide +kernel
theorem d_M_plainOf_82 : decode c9_M_plainOf 82 = .ok (.invokestatic 105, 3) := by decide +kernel
theorem d_M_plainOf_85 : decode c9_M_plainOf 85 = .ok (.aload_n 0, 1) := by decide +kernel
theorem d_M_plainOf_86 : decode c9_M_plainOf 86 = .ok (.getfield 41, 3) := by decide +kernel
theorem d_M_plainOf_89 : decode c9_M_plainOf 89 = .ok (.bipush 8, 2) := by decide +kernel
theorem d_M_plainOf_91 : decode c9_M_plainOf 91 = .ok (.iload_n 2, 1) := by decide +kernel
theorem d_M_plainOf_92 : decode c9_M_plainOf 92 = .ok (.imul, 1) := by decide +kernel
theorem d_M_plainOf_93 : decode c9_M_plainOf 93 = .ok (.iload 4, 2) := by decide +kernel
theorem d_M_plainOf_95 : decode c9_M_plainOf 95 = .ok (.iload_n 3, 1) := by decide +kernel
theorem d_M_plainOf_96 : decode c9_M_plainOf 96 = .ok (.isub, 1) := by decide +kernel
theorem d_M_plainOf_97 : decode c9_M_plainOf 97 = .ok (.bipush 7, 2) := by decide +kernel
theorem d_M_plainOf_99 : decode c9_M_plainOf 99 = .ok (.iand, 1) := by decide +kernel
theorem d_M_plainOf_100 : decode c9_M_plainOf 100 = .ok (.iadd, 1) := by decide +kernel
theorem d_M_plainOf_101 : decode c9_M_plainOf 101 = .ok (.iaload, 1) := by decide +kernel
theorem d_M_plainOf_102 : decode c9_M_plainOf 102 = .ok (.imul, 1) := by decide +kernel
theorem d_M_plainOf_103 : decode c9_M_plainOf 103 = .ok (.ireturn, 1) := by decide +kernel
theorem d_M_plainOf_104 : decode c9_M_plainOf 104 = .ok (.iload_n 1, 1) := by decide +kernel
theorem d_M_plainOf_105 : decode c9_M_plainOf 105 = .ok (.iconst 5, 1) := by decide +kernel
theorem d_M_plainOf_106 : decode c9_M_plainOf 106 = .ok (.if_icmp .ne 16, 3) := by decide +kernel
theorem d_M_plainOf_109 : decode c9_M_plainOf 109 = .ok (.aload_n 0, 1) := by decide +kernel
theorem d_M_plainOf_110 : decode c9_M_plainOf 110 = .ok (.getfield 41, 3) := by decide +kernel
theorem d_M_plainOf_113 : decode c9_M_plainOf 113 = .ok (.bipush 8, 2) := by decide +kernel
theorem d_M_plainOf_115 : decode c9_M_plainOf 115 = .ok (.iload_n 2, 1) := by decide +kernel
theorem d_M_plainOf_116 : decode c9_M_plainOf 116 = .ok (.imul, 1) := by decide +kernel
theorem d_M_plainOf_117 : decode c9_M_plainOf 117 = .ok (.iload 4, 2) := by decide +kernel
theorem d_M_plainOf_119 : decode c9_M_plainOf 119 = .ok (.iadd, 1) := by decide +kernel
theorem d_M_plainOf_120 : decode c9_M_plainOf 120 = .ok (.iaload, 1) := by decide +kernel
theorem d_M_plainOf_121 : decode c9_M_plainOf 121 = .ok (.ireturn, 1) := by decide +kernel
theorem d_M_plainOf_122 : decode c9_M_plainOf 122 = .ok (.iconst 0, 1) := by decide +kernel
theorem d_M_plainOf_123 : decode c9_M_plainOf 123 = .ok (.istore 5, 2) := by decide +kernel
theorem d_M_plainOf_125 : decode c9_M_plainOf 125 = .ok (.iconst 0, 1) := by decide +kernel
theorem d_M_plainOf_126 : decode c9_M_plainOf 126 = .ok (.istore 6, 2) := by decide +kernel
theorem d_M_plainOf_128 : decode c9_M_plainOf 128 = .ok (.iload 6, 2) := by decide +kernel
theorem d_M_plainOf_130 : decode c9_M_plainOf 130 = .ok (.bipush 8, 2) := by decide +kernel
theorem d_M_plainOf_132 : decode c9_M_plainOf 132 = .ok (.if_icmp .ge 64, 3) := by decide +kernel
theorem d_M_plainOf_135 : decode c9_M_plainOf 135 = .ok (.aload_n 0, 1) := by decide +kernel
theorem d_M_plainOf_136 : decode c9_M_plainOf 136 = .ok (.getfield 41, 3) := by decide +kernel
theorem d_M_plainOf_139 : decode c9_M_plainOf 139 = .ok (.bipush 8, 2) := by decide +kernel
theorem d_M_plainOf_141 : decode c9_M_plainOf 141 = .ok (.iload_n 2, 1) := by decide +kernel
theorem d_M_plainOf_142 : decode c9_M_plainOf 142 = .ok (.imul, 1) := by decide +kernel
theorem d_M_plainOf_143 : decode c9_M_plainOf 143 = .ok (.iload 6, 2) := by decide +kernel
theorem d_M_plainOf_145 : decode c9_M_plainOf 145 = .ok (.iadd, 1) := by decide +kernel
theorem d_M_plainOf_146 : decode c9_M_plainOf 146 = .ok (.iaload, 1) := by decide +kernel
theorem d_M_plainOf_147 : decode c9_M_plainOf 147 = .ok (.aload_n 0, 1) := by decide +kernel
theorem d_M_plainOf_148 : decode c9_M_plainOf 148 = .ok (.getfield 41, 3) := by decide +kernel
theorem d_M_plainOf_151 : decode c9_M_plainOf 151 = .ok (.bipush 8, 2) := by decide +kernel
theorem d_M_plainOf_153 : decode c9_M_plainOf 153 = .ok (.iload_n 3, 1) := by decide +kernel
theorem d_M_plainOf_154 : decode c9_M_plainOf 154 = .ok (.imul, 1) := by decide +kernel
theorem d_M_plainOf_155 : decode c9_M_plainOf 155 = .ok (.iload 4, 2) := by decide +kernel
theorem d_M_plainOf_157 : decode c9_M_plainOf 157 = .ok (.iload 6, 2) := by decide +kernel
theorem d_M_plainOf_159 : decode c9_M_plainOf 159 = .ok (.isub, 1) := by decide +kernel
theorem d_M_plainOf_160 : decode c9_M_plainOf 160 = .ok (.bipush 7, 2) := by decide +kernel
theorem d_M_plainOf_162 : decode c9_M_plainOf 162 = .ok (.iand, 1) := by decide +kernel
theorem d_M_plainOf_163 : decode c9_M_plainOf 163 = .ok (.iadd, 1) := by decide +kernel
theorem d_M_plainOf_164 : decode c9_M_plainOf 164 = .ok (.iaload, 1) := by decide +kernel
theorem d_M_plainOf_165 : decode c9_M_plainOf 165 = .ok (.imul, 1) := by decide +kernel
theorem d_M_plainOf_166 : decode c9_M_plainOf 166 = .ok (.istore 7, 2) := by decide +kernel
theorem d_M_plainOf_168 : decode c9_M_plainOf 168 = .ok (.iload 6, 2) := by decide +kernel
theorem d_M_plainOf_170 : decode c9_M_plainOf 170 = .ok (.iload 4, 2) := by decide +kernel
theorem d_M_plainOf_172 : decode c9_M_plainOf 172 = .ok (.if_icmp .gt 11, 3) := by decide +kernel
theorem d_M_plainOf_175 : decode c9_M_plainOf 175 = .ok (.iload 5, 2) := by decide +kernel
theorem d_M_plainOf_177 : decode c9_M_plainOf 177 = .ok (.iload 7, 2) := by decide +kernel
theorem d_M_plainOf_179 : decode c9_M_plainOf 179 = .ok (.iadd, 1) := by decide +kernel
theorem d_M_plainOf_180 : decode c9_M_plainOf 180 = .ok (.goto 8, 3) := by decide +kernel
theorem d_M_plainOf_183 : decode c9_M_plainOf 183 = .ok (.iload 5, 2) := by decide +kernel
theorem d_M_plainOf_185 : decode c9_M_plainOf 185 = .ok (.iload 7, 2) := by decide +kernel
theorem d_M_plainOf_187 : decode c9_M_plainOf 187 = .ok (.isub, 1) := by decide +kernel
theorem d_M_plainOf_188 : decode c9_M_plainOf 188 = .ok (.istore 5, 2) := by decide +kernel
theorem d_M_plainOf_190 : decode c9_M_plainOf 190 = .ok (.iinc 6 1, 3) := by decide +kernel
theorem d_M_plainOf_193 : decode c9_M_plainOf 193 = .ok (.goto (-65), 3) := by decide +kernel
theorem d_M_plainOf_196 : decode c9_M_plainOf 196 = .ok (.iload 5, 2) := by decide +kernel
theorem d_M_plainOf_198 : decode c9_M_plainOf 198 = .ok (.ireturn, 1) := by decide +kernel
theorem d_M_sign_0 : decode c9_M_sign 0 = .ok (.iload_n 1, 1) := by decide +kernel
theorem d_M_sign_1 : decode c9_M_sign 1 = .ok (.iload_n 0, 1) := by decide +kernel
theorem d_M_sign_2 : decode c9_M_sign 2 = .ok (.isub, 1) := by decide +kernel
theorem d_M_sign_3 : decode c9_M_sign 3 = .ok (.bipush 7, 2) := by decide +kernel
theorem d_M_sign_5 : decode c9_M_sign 5 = .ok (.iand, 1) := by decide +kernel
theorem d_M_sign_6 : decode c9_M_sign 6 = .ok (.istore_n 2, 1) := by decide +kernel
theorem d_M_sign_7 : decode c9_M_sign 7 = .ok (.iload_n 2, 1) := by decide +kernel
theorem d_M_sign_8 : decode c9_M_sign 8 = .ok (.iload_n 0, 1) := by decide +kernel
theorem d_M_sign_9 : decode c9_M_sign 9 = .ok (.iadd, 1) := by decide +kernel
theorem d_M_sign_10 : decode c9_M_sign 10 = .ok (.iconst 3, 1) := by decide +kernel
theorem d_M_sign_11 : decode c9_M_sign 11 = .ok (.ishr, 1) := by decide +kernel
theorem d_M_sign_12 : decode c9_M_sign 12 = .ok (.iconst 1, 1) := by decide +kernel
theorem d_M_sign_13 : decode c9_M_sign 13 = .ok (.iand, 1) := by decide +kernel
theorem d_M_sign_14 : decode c9_M_sign 14 = .ok (.ifCond .ne 7, 3) := by decide +kernel
theorem d_M_sign_17 : decode c9_M_sign 17 = .ok (.iconst 1, 1) := by decide +kernel
theorem d_M_sign_18 : decode c9_M_sign 18 = .ok (.goto 4, 3) := by decide +kernel
theorem d_M_sign_21 : decode c9_M_sign 21 = .ok (.iconst (-1), 1) := by decide +kernel
theorem d_M_sign_22 : decode c9_M_sign 22 = .ok (.ireturn, 1) := by decide +kernel
theorem d_M_sum_0 : decode c9_M_sum 0 = .ok (.aload_n 0, 1) := by decide +kernel
theorem d_M_sum_1 : decode c9_M_sum 1 = .ok (.iconst 1, 1) := by decide +kernel
theorem d_M_sum_2 : decode c9_M_sum 2 = .ok (.iload_n 1, 1) := by decide +kernel
theorem d_M_sum_3 : decode c9_M_sum 3 = .ok (.iload_n 2, 1) := by decide +kernel
theorem d_M_sum_4 : decode c9_M_sum 4 = .ok (.invokevirtual 117, 3) := by decide +kernel
theorem d_M_sum_7 : decode c9_M_sum 7 = .ok (.ireturn, 1) := by decide +kernel
theorem d_M_pair_0 : decode c9_M_pair 0 = .ok (.aload_n 0, 1) := by decide +kernel
theorem d_M_pair_1 : decode c9_M_pair 1 = .ok (.iload_n 2, 1) := by decide +kernel
theorem d_M_pair_2 : decode c9_M_pair 2 = .ok (.invokevirtual 113, 3) := by decide +kernel
theorem d_M_pair_5 : decode c9_M_pair 5 = .ok (.ifCond .eq 20, 3) := by decide +kernel
theorem d_M_pair_8 : decode c9_M_pair 8 = .ok (.aload_n 0, 1) := by decide +kernel
theorem d_M_pair_9 : decode c9_M_pair 9 = .ok (.iload_n 3, 1) := by decide +kernel
theorem d_M_pair_10 : decode c9_M_pair 10 = .ok (.invokevirtual 113, 3) := by decide +kernel
theorem d_M_pair_13 : decode c9_M_pair 13 = .ok (.ifCond .eq 12, 3) := by decide +kernel
theorem d_M_pair_16 : decode c9_M_pair 16 = .ok (.aload_n 0, 1) := by decide +kernel
theorem d_M_pair_17 : decode c9_M_pair 17 = .ok (.getfield 98, 3) := by decide +kernel
theorem d_M_pair_20 : decode c9_M_pair 20 = .ok (.bipush 24, 2) := by decide +kernel
theorem d_M_pair_22 : decode c9_M_pair 22 = .ok (.if_icmp .ne 7, 3) := by decide +kernel
theorem d_M_pair_25 : decode c9_M_pair 25 = .ok (.iconst (-1), 1) := by decide +kernel
theorem d_M_pair_26 : decode c9_M_pair 26 = .ok (.goto 10, 3) := by decide +kernel
theorem d_M_pair_29 : decode c9_M_pair 29 = .ok (.aload_n 0, 1) := by decide +kernel
theorem d_M_pair_30 : decode c9_M_pair 30 = .ok (.iload_n 1, 1) := by decide +kernel
theorem d_M_pair_31 : decode c9_M_pair 31 = .ok (.iload_n 2, 1) := by decide +kernel
theorem d_M_pair_32 : decode c9_M_pair 32 = .ok (.iload_n 3, 1) := by decide +kernel
theorem d_M_pair_33 : decode c9_M_pair 33 = .ok (.invokevirtual 109, 3) := by decide +kernel
theorem d_M_pair_36 : decode c9_M_pair 36 = .ok (.ireturn, 1) := by decide +kernel
theorem d_M_isGate_0 : decode c9_M_isGate 0 = .ok (.iload_n 1, 1) := by decide +kernel
theorem d_M_isGate_1 : decode c9_M_isGate 1 = .ok (.ifCond .lt 15, 3) := by decide +kernel
theorem d_M_isGate_4 : decode c9_M_isGate 4 = .ok (.iload_n 1, 1) := by decide +kernel
theorem d_M_isGate_5 : decode c9_M_isGate 5 = .ok (.aload_n 0, 1) := by decide +kernel
theorem d_M_isGate_6 : decode c9_M_isGate 6 = .ok (.getfield 98, 3) := by decide +kernel
theorem d_M_isGate_9 : decode c9_M_isGate 9 = .ok (.if_icmp .ge 7, 3) := by decide +kernel
theorem d_M_isGate_12 : decode c9_M_isGate 12 = .ok (.iconst 1, 1) := by decide +kernel
theorem d_M_isGate_13 : decode c9_M_isGate 13 = .ok (.goto 4, 3) := by decide +kernel
theorem d_M_isGate_16 : decode c9_M_isGate 16 = .ok (.iconst 0, 1) := by decide +kernel
theorem d_M_isGate_17 : decode c9_M_isGate 17 = .ok (.ireturn, 1) := by decide +kernel
theorem d_M_difference_0 : decode c9_M_difference 0 = .ok (.aload_n 0, 1) := by decide +kernel
theorem d_M_difference_1 : decode c9_M_difference 1 = .ok (.iconst 2, 1) := by decide +kernel
theorem d_M_difference_2 : decode c9_M_difference 2 = .ok (.iload_n 1, 1) := by decide +kernel
theorem d_M_difference_3 : decode c9_M_difference 3 = .ok (.iload_n 2, 1) := by decide +kernel
theorem d_M_difference_4 : decode c9_M_difference 4 = .ok (.invokevirtual 117, 3) := by decide +kernel
theorem d_M_difference_7 : decode c9_M_difference 7 = .ok (.ireturn, 1) := by decide +kernel
theorem d_M_product_0 : decode c9_M_product 0 = .ok (.aload_n 0, 1) := by decide +kernel
theorem d_M_product_1 : decode c9_M_product 1 = .ok (.iconst 3, 1) := by decide +kernel
theorem d_M_product_2 : decode c9_M_product 2 = .ok (.iload_n 1, 1) := by decide +kernel
theorem d_M_product_3 : decode c9_M_product 3 = .ok (.iload_n 2, 1) := by decide +kernel
theorem d_M_product_4 : decode c9_M_product 4 = .ok (.invokevirtual 117, 3) := by decide +kernel
theorem d_M_product_7 : decode c9_M_product 7 = .ok (.ireturn, 1) := by decide +kernel
theorem d_M_shift_0 : decode c9_M_shift 0 = .ok (.aload_n 0, 1) := by decide +kernel
theorem d_M_shift_1 : decode c9_M_shift 1 = .ok (.iload_n 1, 1) := by decide +kernel
theorem d_M_shift_2 : decode c9_M_shift 2 = .ok (.invokevirtual 113, 3) := by decide +kernel
theorem d_M_shift_5 : decode c9_M_shift 5 = .ok (.ifCond .eq 22, 3) := by decide +kernel
theorem d_M_shift_8 : decode c9_M_shift 8 = .ok (.iload_n 2, 1) := by decide +kernel
theorem d_M_shift_9 : decode c9_M_shift 9 = .ok (.ifCond .lt 18, 3) := by decide +kernel
theorem d_M_shift_12 : decode c9_M_shift 12 = .ok (.iload_n 2, 1) := by decide +kernel
theorem d_M_shift_13 : decode c9_M_shift 13 = .ok (.bipush 15, 2) := by decide +kernel
theorem d_M_shift_15 : decode c9_M_shift 15 = .ok (.if_icmp .gt 12, 3) := by decide +kernel
theorem d_M_shift_18 : decode c9_M_shift 18 = .ok (.aload_n 0, 1) := by decide +kernel
theorem d_M_shift_19 : decode c9_M_shift 19 = .ok (.getfield 98, 3) := by decide +kernel
theorem d_M_shift_22 : decode c9_M_shift 22 = .ok (.bipush 24, 2) := by decide +kernel
theorem d_M_shift_24 : decode c9_M_shift 24 = .ok (.if_icmp .ne 7, 3) := by decide +kernel
theorem d_M_shift_27 : decode c9_M_shift 27 = .ok (.iconst (-1), 1) := by decide +kernel
theorem d_M_shift_28 : decode c9_M_shift 28 = .ok (.goto 10, 3) := by decide +kernel
theorem d_M_shift_31 : decode c9_M_shift 31 = .ok (.aload_n 0, 1) := by decide +kernel
theorem d_M_shift_32 : decode c9_M_shift 32 = .ok (.iconst 4, 1) := by decide +kernel
theorem d_M_shift_33 : decode c9_M_shift 33 = .ok (.iload_n 1, 1) := by decide +kernel
theorem d_M_shift_34 : decode c9_M_shift 34 = .ok (.iload_n 2, 1) := by decide +kernel
theorem d_M_shift_35 : decode c9_M_shift 35 = .ok (.invokevirtual 109, 3) := by decide +kernel
theorem d_M_shift_38 : decode c9_M_shift 38 = .ok (.ireturn, 1) := by decide +kernel
theorem d_M_lowered_0 : decode c9_M_lowered 0 = .ok (.aload_n 0, 1) := by decide +kernel
theorem d_M_lowered_1 : decode c9_M_lowered 1 = .ok (.iload_n 1, 1) := by decide +kernel
theorem d_M_lowered_2 : decode c9_M_lowered 2 = .ok (.invokevirtual 113, 3) := by decide +kernel
theorem d_M_lowered_5 : decode c9_M_lowered 5 = .ok (.ifCond .eq 12, 3) := by decide +kernel
theorem d_M_lowered_8 : decode c9_M_lowered 8 = .ok (.aload_n 0, 1) := by decide +kernel
theorem d_M_lowered_9 : decode c9_M_lowered 9 = .ok (.getfield 98, 3) := by decide +kernel
theorem d_M_lowered_12 : decode c9_M_lowered 12 = .ok (.bipush 24, 2) := by decide +kernel
theorem d_M_lowered_14 : decode c9_M_lowered 14 = .ok (.if_icmp .ne 7, 3) := by decide +kernel
theorem d_M_lowered_17 : decode c9_M_lowered 17 = .ok (.iconst (-1), 1) := by decide +kernel
theorem d_M_lowered_18 : decode c9_M_lowered 18 = .ok (.goto 10, 3) := by decide +kernel
theorem d_M_lowered_21 : decode c9_M_lowered 21 = .ok (.aload_n 0, 1) := by decide +kernel
theorem d_M_lowered_22 : decode c9_M_lowered 22 = .ok (.iconst 5, 1) := by decide +kernel
theorem d_M_lowered_23 : decode c9_M_lowered 23 = .ok (.iload_n 1, 1) := by decide +kernel
theorem d_M_lowered_24 : decode c9_M_lowered 24 = .ok (.iconst 0, 1) := by decide +kernel
theorem d_M_lowered_25 : decode c9_M_lowered 25 = .ok (.invokevirtual 109, 3) := by decide +kernel
theorem d_M_lowered_28 : decode c9_M_lowered 28 = .ok (.ireturn, 1) := by decide +kernel
theorem d_M_count_0 : decode c9_M_count 0 = .ok (.aload_n 0, 1) := by decide +kernel
theorem d_M_count_1 : decode c9_M_count 1 = .ok (.getfield 98, 3) := by decide +kernel
theorem d_M_count_4 : decode c9_M_count 4 = .ok (.ireturn, 1) := by decide +kernel
theorem d_M_cut_0 : decode c9_M_cut 0 = .ok (.aload_n 0, 1) := by decide +kernel
theorem d_M_cut_1 : decode c9_M_cut 1 = .ok (.iload_n 1, 1) := by decide +kernel
theorem d_M_cut_2 : decode c9_M_cut 2 = .ok (.invokevirtual 113, 3) := by decide +kernel
theorem d_M_cut_5 : decode c9_M_cut 5 = .ok (.ifCond .ne 5, 3) := by decide +kernel
theorem d_M_cut_8 : decode c9_M_cut 8 = .ok (.iconst 0, 1) := by decide +kernel
theorem d_M_cut_9 : decode c9_M_cut 9 = .ok (.ireturn, 1) := by decide +kernel
theorem d_M_cut_10 : decode c9_M_cut 10 = .ok (.aload_n 0, 1) := by decide +kernel
theorem d_M_cut_11 : decode c9_M_cut 11 = .ok (.iload_n 1, 1) := by decide +kernel
theorem d_M_cut_12 : decode c9_M_cut 12 = .ok (.putfield 98, 3) := by decide +kernel
theorem d_M_cut_15 : decode c9_M_cut 15 = .ok (.iconst 1, 1) := by decide +kernel
theorem d_M_cut_16 : decode c9_M_cut 16 = .ok (.ireturn, 1) := by decide +kernel
theorem d_M_run_0 : decode c9_M_run 0 = .ok (.iconst 0, 1) := by decide +kernel
theorem d_M_run_1 : decode c9_M_run 1 = .ok (.istore_n 1, 1) := by decide +kernel
theorem d_M_run_2 : decode c9_M_run 2 = .ok (.iload_n 1, 1) := by decide +kernel
theorem d_M_run_3 : decode c9_M_run 3 = .ok (.aload_n 0, 1) := by decide +kernel
theorem d_M_run_4 : decode c9_M_run 4 = .ok (.getfield 98, 3) := by decide +kernel
theorem d_M_run_7 : decode c9_M_run 7 = .ok (.if_icmp .ge 28, 3) := by decide +kernel
theorem d_M_run_10 : decode c9_M_run 10 = .ok (.aload_n 0, 1) := by decide +kernel
theorem d_M_run_11 : decode c9_M_run 11 = .ok (.getfield 44, 3) := by decide +kernel
theorem d_M_run_14 : decode c9_M_run 14 = .ok (.iload_n 1, 1) := by decide +kernel
theorem d_M_run_15 : decode c9_M_run 15 = .ok (.baload, 1) := by decide +kernel
theorem d_M_run_16 : decode c9_M_run 16 = .ok (.ifCond .ne 13, 3) := by decide +kernel
theorem d_M_run_19 : decode c9_M_run 19 = .ok (.aload_n 0, 1) := by decide +kernel
theorem d_M_run_20 : decode c9_M_run 20 = .ok (.iload_n 1, 1) := by decide +kernel
theorem d_M_run_21 : decode c9_M_run 21 = .ok (.invokevirtual 166, 3) := by decide +kernel
theorem d_M_run_24 : decode c9_M_run 24 = .ok (.ifCond .ne 5, 3) := by decide +kernel
theorem d_M_run_27 : decode c9_M_run 27 = .ok (.iload_n 1, 1) := by decide +kernel
theorem d_M_run_28 : decode c9_M_run 28 = .ok (.ireturn, 1) := by decide +kernel
theorem d_M_run_29 : decode c9_M_run 29 = .ok (.iinc 1 1, 3) := by decide +kernel
theorem d_M_run_32 : decode c9_M_run 32 = .ok (.goto (-30), 3) := by decide +kernel
theorem d_M_run_35 : decode c9_M_run 35 = .ok (.iconst (-1), 1) := by decide +kernel
theorem d_M_run_36 : decode c9_M_run 36 = .ok (.ireturn, 1) := by decide +kernel
theorem d_M_value_0 : decode c9_M_value 0 = .ok (.aload_n 0, 1) := by decide +kernel
theorem d_M_value_1 : decode c9_M_value 1 = .ok (.getfield 32, 3) := by decide +kernel
theorem d_M_value_4 : decode c9_M_value 4 = .ok (.iload_n 1, 1) := by decide +kernel
theorem d_M_value_5 : decode c9_M_value 5 = .ok (.iaload, 1) := by decide +kernel
theorem d_M_value_6 : decode c9_M_value 6 = .ok (.ifCond .ne 9, 3) := by decide +kernel
theorem d_M_value_9 : decode c9_M_value 9 = .ok (.aload_n 0, 1) := by decide +kernel
theorem d_M_value_10 : decode c9_M_value 10 = .ok (.iload_n 1, 1) := by decide +kernel
theorem d_M_value_11 : decode c9_M_value 11 = .ok (.invokevirtual 139, 3) := by decide +kernel
theorem d_M_value_14 : decode c9_M_value 14 = .ok (.ireturn, 1) := by decide +kernel
theorem d_M_value_15 : decode c9_M_value 15 = .ok (.aload_n 0, 1) := by decide +kernel
theorem d_M_value_16 : decode c9_M_value 16 = .ok (.getfield 32, 3) := by decide +kernel
theorem d_M_value_19 : decode c9_M_value 19 = .ok (.iload_n 1, 1) := by decide +kernel
theorem d_M_value_20 : decode c9_M_value 20 = .ok (.iaload, 1) := by decide +kernel
theorem d_M_value_21 : decode c9_M_value 21 = .ok (.iconst 3, 1) := by decide +kernel
theorem d_M_value_22 : decode c9_M_value 22 = .ok (.if_icmp .ne 9, 3) := by decide +kernel
theorem d_M_value_25 : decode c9_M_value 25 = .ok (.aload_n 0, 1) := by decide +kernel
theorem d_M_value_26 : decode c9_M_value 26 = .ok (.iload_n 1, 1) := by decide +kernel
theorem d_M_value_27 : decode c9_M_value 27 = .ok (.invokevirtual 142, 3) := by decide +kernel
theorem d_M_value_30 : decode c9_M_value 30 = .ok (.ireturn, 1) := by decide +kernel
theorem d_M_value_31 : decode c9_M_value 31 = .ok (.aload_n 0, 1) := by decide +kernel
theorem d_M_value_32 : decode c9_M_value 32 = .ok (.getfield 32, 3) := by decide +kernel
theorem d_M_value_35 : decode c9_M_value 35 = .ok (.iload_n 1, 1) := by decide +kernel
theorem d_M_value_36 : decode c9_M_value 36 = .ok (.iaload, 1) := by decide +kernel
theorem d_M_value_37 : decode c9_M_value 37 = .ok (.iconst 1, 1) := by decide +kernel
theorem d_M_value_38 : decode c9_M_value 38 = .ok (.if_icmp .eq 13, 3) := by decide +kernel
theorem d_M_value_41 : decode c9_M_value 41 = .ok (.aload_n 0, 1) := by decide +kernel
theorem d_M_value_42 : decode c9_M_value 42 = .ok (.getfield 32, 3) := by decide +kernel
theorem d_M_value_45 : decode c9_M_value 45 = .ok (.iload_n 1, 1) := by decide +kernel
theorem d_M_value_46 : decode c9_M_value 46 = .ok (.iaload, 1) := by decide +kernel
theorem d_M_value_47 : decode c9_M_value 47 = .ok (.iconst 2, 1) := by decide +kernel
theorem d_M_value_48 : decode c9_M_value 48 = .ok (.if_icmp .ne 24, 3) := by decide +kernel
theorem d_M_value_51 : decode c9_M_value 51 = .ok (.aload_n 0, 1) := by decide +kernel
theorem d_M_value_52 : decode c9_M_value 52 = .ok (.iload_n 1, 1) := by decide +kernel
theorem d_M_value_53 : decode c9_M_value 53 = .ok (.aload_n 0, 1) := by decide +kernel
theorem d_M_value_54 : decode c9_M_value 54 = .ok (.getfield 32, 3) := by decide +kernel
theorem d_M_value_57 : decode c9_M_value 57 = .ok (.iload_n 1, 1) := by decide +kernel
theorem d_M_value_58 : decode c9_M_value 58 = .ok (.iaload, 1) := by decide +kernel
theorem d_M_value_59 : decode c9_M_value 59 = .ok (.iconst 1, 1) := by decide +kernel
theorem d_M_value_60 : decode c9_M_value 60 = .ok (.if_icmp .ne 7, 3) := by decide +kernel
theorem d_M_value_63 : decode c9_M_value 63 = .ok (.iconst 1, 1) := by decide +kernel
theorem d_M_value_64 : decode c9_M_value 64 = .ok (.goto 4, 3) := by decide +kernel
theorem d_M_value_67 : decode c9_M_value 67 = .ok (.iconst (-1), 1) := by decide +kernel
theorem d_M_value_68 : decode c9_M_value 68 = .ok (.invokevirtual 145, 3) := by decide +kernel
theorem d_M_value_71 : decode c9_M_value 71 = .ok (.ireturn, 1) := by decide +kernel
theorem d_M_value_72 : decode c9_M_value 72 = .ok (.aload_n 0, 1) := by decide +kernel
theorem d_M_value_73 : decode c9_M_value 73 = .ok (.iconst 0, 1) := by decide +kernel
theorem d_M_value_74 : decode c9_M_value 74 = .ok (.aload_n 0, 1) := by decide +kernel
theorem d_M_value_75 : decode c9_M_value 75 = .ok (.getfield 35, 3) := by decide +kernel
theorem d_M_value_78 : decode c9_M_value 78 = .ok (.iload_n 1, 1) := by decide +kernel
theorem d_M_value_79 : decode c9_M_value 79 = .ok (.iaload, 1) := by decide +kernel
theorem d_M_value_80 : decode c9_M_value 80 = .ok (.invokevirtual 132, 3) := by decide +kernel
theorem d_M_value_83 : decode c9_M_value 83 = .ok (.aload_n 0, 1) := by decide +kernel
theorem d_M_value_84 : decode c9_M_value 84 = .ok (.getfield 32, 3) := by decide +kernel
theorem d_M_value_87 : decode c9_M_value 87 = .ok (.iload_n 1, 1) := by decide +kernel
theorem d_M_value_88 : decode c9_M_value 88 = .ok (.iaload, 1) := by decide +kernel
theorem d_M_value_89 : decode c9_M_value 89 = .ok (.iconst 5, 1) := by decide +kernel
theorem d_M_value_90 : decode c9_M_value 90 = .ok (.if_icmp .ne 13, 3) := by decide +kernel
theorem d_M_value_93 : decode c9_M_value 93 = .ok (.aload_n 0, 1) := by decide +kernel
theorem d_M_value_94 : decode c9_M_value 94 = .ok (.iconst 0, 1) := by decide +kernel
theorem d_M_value_95 : decode c9_M_value 95 = .ok (.invokevirtual 136, 3) := by decide +kernel
theorem d_M_value_98 : decode c9_M_value 98 = .ok (.ifCond .ne 5, 3) := by decide +kernel
theorem d_M_value_101 : decode c9_M_value 101 = .ok (.iconst 0, 1) := by decide +kernel
theorem d_M_value_102 : decode c9_M_value 102 = .ok (.ireturn, 1) := by decide +kernel
theorem d_M_value_103 : decode c9_M_value 103 = .ok (.aload_n 0, 1) := by decide +kernel
theorem d_M_value_104 : decode c9_M_value 104 = .ok (.getfield 32, 3) := by decide +kernel
theorem d_M_value_107 : decode c9_M_value 107 = .ok (.iload_n 1, 1) := by decide +kernel
theorem d_M_value_108 : decode c9_M_value 108 = .ok (.iaload, 1) := by decide +kernel
theorem d_M_value_109 : decode c9_M_value 109 = .ok (.iconst 4, 1) := by decide +kernel
theorem d_M_value_110 : decode c9_M_value 110 = .ok (.if_icmp .ne 12, 3) := by decide +kernel
theorem d_M_value_113 : decode c9_M_value 113 = .ok (.aload_n 0, 1) := by decide +kernel
theorem d_M_value_114 : decode c9_M_value 114 = .ok (.getfield 38, 3) := by decide +kernel
theorem d_M_value_117 : decode c9_M_value 117 = .ok (.iload_n 1, 1) := by decide +kernel
theorem d_M_value_118 : decode c9_M_value 118 = .ok (.iaload, 1) := by decide +kernel
theorem d_M_value_119 : decode c9_M_value 119 = .ok (.goto 4, 3) := by decide +kernel
theorem d_M_value_122 : decode c9_M_value 122 = .ok (.iconst 0, 1) := by decide +kernel
theorem d_M_value_123 : decode c9_M_value 123 = .ok (.istore_n 2, 1) := by decide +kernel
theorem d_M_value_124 : decode c9_M_value 124 = .ok (.aload_n 0, 1) := by decide +kernel
theorem d_M_value_125 : decode c9_M_value 125 = .ok (.getfield 54, 3) := by decide +kernel
theorem d_M_value_128 : decode c9_M_value 128 = .ok (.iconst 0, 1) := by decide +kernel
theorem d_M_value_129 : decode c9_M_value 129 = .ok (.iaload, 1) := by decide +kernel
theorem d_M_value_130 : decode c9_M_value 130 = .ok (.istore_n 3, 1) := by decide +kernel
theorem d_M_value_131 : decode c9_M_value 131 = .ok (.iconst 0, 1) := by decide +kernel
theorem d_M_value_132 : decode c9_M_value 132 = .ok (.istore 4, 2) := by decide +kernel
theorem d_M_value_134 : decode c9_M_value 134 = .ok (.iload 4, 2) := by decide +kernel
theorem d_M_value_136 : decode c9_M_value 136 = .ok (.iconst 2, 1) := by decide +kernel
theorem d_M_value_137 : decode c9_M_value 137 = .ok (.if_icmp .ge 87, 3) := by decide +kernel
theorem d_M_value_140 : decode c9_M_value 140 = .ok (.iconst 0, 1) := by decide +kernel
theorem d_M_value_141 : decode c9_M_value 141 = .ok (.istore 5, 2) := by decide +kernel
theorem d_M_value_143 : decode c9_M_value 143 = .ok (.iload 5, 2) := by decide +kernel
theorem d_M_value_145 : decode c9_M_value 145 = .ok (.bipush 8, 2) := by decide +kernel
theorem d_M_value_147 : decode c9_M_value 147 = .ok (.if_icmp .ge 71, 3) := by decide +kernel
theorem d_M_value_150 : decode c9_M_value 150 = .ok (.iload_n 2, 1) := by decide +kernel
theorem d_M_value_151 : decode c9_M_value 151 = .ok (.iload 5, 2) := by decide +kernel
theorem d_M_value_153 : decode c9_M_value 153 = .ok (.invokestatic 105, 3) := by decide +kernel
theorem d_M_value_156 : decode c9_M_value 156 = .ok (.i2l, 1) := by decide +kernel
theorem d_M_value_157 : decode c9_M_value 157 = .ok (.aload_n 0, 1) := by decide +kernel
theorem d_M_value_158 : decode c9_M_value 158 = .ok (.getfield 7, 3) := by decide +kernel
theorem d_M_value_161 : decode c9_M_value 161 = .ok (.bipush 8, 2) := by decide +kernel
theorem d_M_value_163 : decode c9_M_value 163 = .ok (.bipush 56, 2) := by decide +kernel
theorem d_M_value_165 : decode c9_M_value 165 = .ok (.iload 4, 2) := by decide +kernel
theorem d_M_value_167 : decode c9_M_value 167 = .ok (.iadd, 1) := by decide +kernel
theorem d_M_value_168 : decode c9_M_value 168 = .ok (.imul, 1) := by decide +kernel
theorem d_M_value_169 : decode c9_M_value 169 = .ok (.iload 5, 2) := by decide +kernel
theorem d_M_value_171 : decode c9_M_value 171 = .ok (.iload_n 2, 1) := by decide +kernel
theorem d_M_value_172 : decode c9_M_value 172 = .ok (.isub, 1) := by decide +kernel
theorem d_M_value_173 : decode c9_M_value 173 = .ok (.bipush 7, 2) := by decide +kernel
theorem d_M_value_175 : decode c9_M_value 175 = .ok (.iand, 1) := by decide +kernel
theorem d_M_value_176 : decode c9_M_value 176 = .ok (.iadd, 1) := by decide +kernel
theorem d_M_value_177 : decode c9_M_value 177 = .ok (.laload, 1) := by decide +kernel
theorem d_M_value_178 : decode c9_M_value 178 = .ok (.lmul, 1) := by decide +kernel
theorem d_M_value_179 : decode c9_M_value 179 = .ok (.lstore 6, 2) := by decide +kernel
theorem d_M_value_181 : decode c9_M_value 181 = .ok (.aload_n 0, 1) := by decide +kernel
theorem d_M_value_182 : decode c9_M_value 182 = .ok (.getfield 7, 3) := by decide +kernel
theorem d_M_value_185 : decode c9_M_value 185 = .ok (.bipush 8, 2) := by decide +kernel
theorem d_M_value_187 : decode c9_M_value 187 = .ok (.bipush 8, 2) := by decide +kernel
theorem d_M_value_189 : decode c9_M_value 189 = .ok (.iconst 2, 1) := by decide +kernel
theorem d_M_value_190 : decode c9_M_value 190 = .ok (.iload_n 1, 1) := by decide +kernel
theorem d_M_value_191 : decode c9_M_value 191 = .ok (.imul, 1) := by decide +kernel
theorem d_M_value_192 : decode c9_M_value 192 = .ok (.iadd, 1) := by decide +kernel
theorem d_M_value_193 : decode c9_M_value 193 = .ok (.iload 4, 2) := by decide +kernel
theorem d_M_value_195 : decode c9_M_value 195 = .ok (.iadd, 1) := by decide +kernel
theorem d_M_value_196 : decode c9_M_value 196 = .ok (.imul, 1) := by decide +kernel
theorem d_M_value_197 : decode c9_M_value 197 = .ok (.iload 5, 2) := by decide +kernel
theorem d_M_value_199 : decode c9_M_value 199 = .ok (.iadd, 1) := by decide +kernel
theorem d_M_value_200 : decode c9_M_value 200 = .ok (.lload 6, 2) := by decide +kernel
theorem d_M_value_202 : decode c9_M_value 202 = .ok (.aload_n 0, 1) := by decide +kernel
theorem d_M_value_203 : decode c9_M_value 203 = .ok (.getfield 17, 3) := by decide +kernel
theorem d_M_value_206 : decode c9_M_value 206 = .ok (.iload_n 3, 1) := by decide +kernel
theorem d_M_value_207 : decode c9_M_value 207 = .ok (.laload, 1) := by decide +kernel
theorem d_M_value_208 : decode c9_M_value 208 = .ok (.invokestatic 88, 3) := by decide +kernel
theorem d_M_value_211 : decode c9_M_value 211 = .ok (.lastore, 1) := by decide +kernel
theorem d_M_value_212 : decode c9_M_value 212 = .ok (.iinc 5 1, 3) := by decide +kernel
theorem d_M_value_215 : decode c9_M_value 215 = .ok (.goto (-72), 3) := by decide +kernel
theorem d_M_value_218 : decode c9_M_value 218 = .ok (.iinc 4 1, 3) := by decide +kernel
theorem d_M_value_221 : decode c9_M_value 221 = .ok (.goto (-87), 3) := by decide +kernel
theorem d_M_value_224 : decode c9_M_value 224 = .ok (.aload_n 0, 1) := by decide +kernel
theorem d_M_value_225 : decode c9_M_value 225 = .ok (.iload_n 1, 1) := by decide +kernel
theorem d_M_value_226 : decode c9_M_value 226 = .ok (.iload_n 3, 1) := by decide +kernel
theorem d_M_value_227 : decode c9_M_value 227 = .ok (.aload_n 0, 1) := by decide +kernel
theorem d_M_value_228 : decode c9_M_value 228 = .ok (.getfield 57, 3) := by decide +kernel
theorem d_M_value_231 : decode c9_M_value 231 = .ok (.iconst 0, 1) := by decide +kernel
theorem d_M_value_232 : decode c9_M_value 232 = .ok (.laload, 1) := by decide +kernel
theorem d_M_value_233 : decode c9_M_value 233 = .ok (.invokevirtual 149, 3) := by decide +kernel
theorem d_M_value_236 : decode c9_M_value 236 = .ok (.ireturn, 1) := by decide +kernel
theorem d_M_encrypt_0 : decode c9_M_encrypt 0 = .ok (.aload_n 0, 1) := by decide +kernel
theorem d_M_encrypt_1 : decode c9_M_encrypt 1 = .ok (.aload_n 0, 1) := by decide +kernel
theorem d_M_encrypt_2 : decode c9_M_encrypt 2 = .ok (.getfield 35, 3) := by decide +kernel
theorem d_M_encrypt_5 : decode c9_M_encrypt 5 = .ok (.iload_n 1, 1) := by decide +kernel
theorem d_M_encrypt_6 : decode c9_M_encrypt 6 = .ok (.iaload, 1) := by decide +kernel
theorem d_M_encrypt_7 : decode c9_M_encrypt 7 = .ok (.putfield 64, 3) := by decide +kernel
theorem d_M_encrypt_10 : decode c9_M_encrypt 10 = .ok (.bipush 8, 2) := by decide +kernel
theorem d_M_encrypt_12 : decode c9_M_encrypt 12 = .ok (.iconst 2, 1) := by decide +kernel
theorem d_M_encrypt_13 : decode c9_M_encrypt 13 = .ok (.iload_n 1, 1) := by decide +kernel
theorem d_M_encrypt_14 : decode c9_M_encrypt 14 = .ok (.imul, 1) := by decide +kernel
theorem d_M_encrypt_15 : decode c9_M_encrypt 15 = .ok (.iadd, 1) := by decide +kernel
theorem d_M_encrypt_16 : decode c9_M_encrypt 16 = .ok (.iconst 1, 1) := by decide +kernel
theorem d_M_encrypt_17 : decode c9_M_encrypt 17 = .ok (.iadd, 1) := by decide +kernel
theorem d_M_encrypt_18 : decode c9_M_encrypt 18 = .ok (.istore_n 2, 1) := by decide +kernel
theorem d_M_encrypt_19 : decode c9_M_encrypt 19 = .ok (.aload_n 0, 1) := by decide +kernel
theorem d_M_encrypt_20 : decode c9_M_encrypt 20 = .ok (.iload_n 2, 1) := by decide +kernel
theorem d_M_encrypt_21 : decode c9_M_encrypt 21 = .ok (.invokevirtual 71, 3) := by decide +kernel
theorem d_M_encrypt_24 : decode c9_M_encrypt 24 = .ok (.aload_n 0, 1) := by decide +kernel
theorem d_M_encrypt_25 : decode c9_M_encrypt 25 = .ok (.invokevirtual 68, 3) := by decide +kernel
theorem d_M_encrypt_28 : decode c9_M_encrypt 28 = .ok (.iconst 0, 1) := by decide +kernel
theorem d_M_encrypt_29 : decode c9_M_encrypt 29 = .ok (.istore_n 3, 1) := by decide +kernel
theorem d_M_encrypt_30 : decode c9_M_encrypt 30 = .ok (.iload_n 3, 1) := by decide +kernel
theorem d_M_encrypt_31 : decode c9_M_encrypt 31 = .ok (.bipush 8, 2) := by decide +kernel
theorem d_M_encrypt_33 : decode c9_M_encrypt 33 = .ok (.if_icmp .ge 70, 3) := by decide +kernel
theorem d_M_encrypt_36 : decode c9_M_encrypt 36 = .ok (.aload_n 0, 1) := by decide +kernel
theorem d_M_encrypt_37 : decode c9_M_encrypt 37 = .ok (.getfield 41, 3) := by decide +kernel
theorem d_M_encrypt_40 : decode c9_M_encrypt 40 = .ok (.bipush 8, 2) := by decide +kernel
theorem d_M_encrypt_42 : decode c9_M_encrypt 42 = .ok (.iload_n 1, 1) := by decide +kernel
theorem d_M_encrypt_43 : decode c9_M_encrypt 43 = .ok (.imul, 1) := by decide +kernel
theorem d_M_encrypt_44 : decode c9_M_encrypt 44 = .ok (.iload_n 3, 1) := by decide +kernel
theorem d_M_encrypt_45 : decode c9_M_encrypt 45 = .ok (.iadd, 1) := by decide +kernel
theorem d_M_encrypt_46 : decode c9_M_encrypt 46 = .ok (.iaload, 1) := by decide +kernel
theorem d_M_encrypt_47 : decode c9_M_encrypt 47 = .ok (.bipush 17, 2) := by decide +kernel
theorem d_M_encrypt_49 : decode c9_M_encrypt 49 = .ok (.aload_n 0, 1) := by decide +kernel
theorem d_M_encrypt_50 : decode c9_M_encrypt 50 = .ok (.getfield 26, 3) := by decide +kernel
theorem d_M_encrypt_53 : decode c9_M_encrypt 53 = .ok (.iload_n 3, 1) := by decide +kernel
theorem d_M_encrypt_54 : decode c9_M_encrypt 54 = .ok (.iaload, 1) := by decide +kernel
theorem d_M_encrypt_55 : decode c9_M_encrypt 55 = .ok (.imul, 1) := by decide +kernel
theorem d_M_encrypt_56 : decode c9_M_encrypt 56 = .ok (.iadd, 1) := by decide +kernel
theorem d_M_encrypt_57 : decode c9_M_encrypt 57 = .ok (.i2l, 1) := by decide +kernel
theorem d_M_encrypt_58 : decode c9_M_encrypt 58 = .ok (.aload_n 0, 1) := by decide +kernel
theorem d_M_encrypt_59 : decode c9_M_encrypt 59 = .ok (.iload_n 2, 1) := by decide +kernel
theorem d_M_encrypt_60 : decode c9_M_encrypt 60 = .ok (.iload_n 3, 1) := by decide +kernel
theorem d_M_encrypt_61 : decode c9_M_encrypt 61 = .ok (.aload_n 0, 1) := by decide +kernel
theorem d_M_encrypt_62 : decode c9_M_encrypt 62 = .ok (.getfield 17, 3) := by decide +kernel
theorem d_M_encrypt_65 : decode c9_M_encrypt 65 = .ok (.iconst 3, 1) := by decide +kernel
theorem d_M_encrypt_66 : decode c9_M_encrypt 66 = .ok (.laload, 1) := by decide +kernel
theorem d_M_encrypt_67 : decode c9_M_encrypt 67 = .ok (.invokevirtual 92, 3) := by decide +kernel
theorem d_M_encrypt_70 : decode c9_M_encrypt 70 = .ok (.lsub, 1) := by decide +kernel
theorem d_M_encrypt_71 : decode c9_M_encrypt 71 = .ok (.lstore 4, 2) := by decide +kernel
theorem d_M_encrypt_73 : decode c9_M_encrypt 73 = .ok (.aload_n 0, 1) := by decide +kernel
theorem d_M_encrypt_74 : decode c9_M_encrypt 74 = .ok (.getfield 7, 3) := by decide +kernel
theorem d_M_encrypt_77 : decode c9_M_encrypt 77 = .ok (.bipush 8, 2) := by decide +kernel
theorem d_M_encrypt_79 : decode c9_M_encrypt 79 = .ok (.iload_n 2, 1) := by decide +kernel
theorem d_M_encrypt_80 : decode c9_M_encrypt 80 = .ok (.iconst 1, 1) := by decide +kernel
theorem d_M_encrypt_81 : decode c9_M_encrypt 81 = .ok (.isub, 1) := by decide +kernel
theorem d_M_encrypt_82 : decode c9_M_encrypt 82 = .ok (.imul, 1) := by decide +kernel
theorem d_M_encrypt_83 : decode c9_M_encrypt 83 = .ok (.iload_n 3, 1) := by decide +kernel
theorem d_M_encrypt_84 : decode c9_M_encrypt 84 = .ok (.iadd, 1) := by decide +kernel
theorem d_M_encrypt_85 : decode c9_M_encrypt 85 = .ok (.lload 4, 2) := by decide +kernel
theorem d_M_encrypt_87 : decode c9_M_encrypt 87 = .ok (.aload_n 0, 1) := by decide +kernel
theorem d_M_encrypt_88 : decode c9_M_encrypt 88 = .ok (.getfield 17, 3) := by decide +kernel
theorem d_M_encrypt_91 : decode c9_M_encrypt 91 = .ok (.iconst 3, 1) := by decide +kernel
theorem d_M_encrypt_92 : decode c9_M_encrypt 92 = .ok (.laload, 1) := by decide +kernel
theorem d_M_encrypt_93 : decode c9_M_encrypt 93 = .ok (.invokestatic 88, 3) := by decide +kernel
theorem d_M_encrypt_96 : decode c9_M_encrypt 96 = .ok (.lastore, 1) := by decide +kernel
theorem d_M_encrypt_97 : decode c9_M_encrypt 97 = .ok (.iinc 3 1, 3) := by decide +kernel
theorem d_M_encrypt_100 : decode c9_M_encrypt 100 = .ok (.goto (-70), 3) := by decide +kernel
theorem d_M_encrypt_103 : decode c9_M_encrypt 103 = .ok (.aload_n 0, 1) := by decide +kernel
theorem d_M_encrypt_104 : decode c9_M_encrypt 104 = .ok (.iload_n 1, 1) := by decide +kernel
theorem d_M_encrypt_105 : decode c9_M_encrypt 105 = .ok (.iconst 3, 1) := by decide +kernel
theorem d_M_encrypt_106 : decode c9_M_encrypt 106 = .ok (.ldc2_w 153, 3) := by decide +kernel
theorem d_M_encrypt_109 : decode c9_M_encrypt 109 = .ok (.invokevirtual 149, 3) := by decide +kernel
theorem d_M_encrypt_112 : decode c9_M_encrypt 112 = .ok (.ireturn, 1) := by decide +kernel
theorem d_M_keep_0 : decode c9_M_keep 0 = .ok (.aload_n 0, 1) := by decide +kernel
theorem d_M_keep_1 : decode c9_M_keep 1 = .ok (.getfield 48, 3) := by decide +kernel
theorem d_M_keep_4 : decode c9_M_keep 4 = .ok (.iload_n 1, 1) := by decide +kernel
theorem d_M_keep_5 : decode c9_M_keep 5 = .ok (.iload_n 2, 1) := by decide +kernel
theorem d_M_keep_6 : decode c9_M_keep 6 = .ok (.iastore, 1) := by decide +kernel
theorem d_M_keep_7 : decode c9_M_keep 7 = .ok (.aload_n 0, 1) := by decide +kernel
theorem d_M_keep_8 : decode c9_M_keep 8 = .ok (.getfield 51, 3) := by decide +kernel
theorem d_M_keep_11 : decode c9_M_keep 11 = .ok (.iload_n 1, 1) := by decide +kernel
theorem d_M_keep_12 : decode c9_M_keep 12 = .ok (.lload_n 3, 1) := by decide +kernel
theorem d_M_keep_13 : decode c9_M_keep 13 = .ok (.lastore, 1) := by decide +kernel
theorem d_M_keep_14 : decode c9_M_keep 14 = .ok (.aload_n 0, 1) := by decide +kernel
theorem d_M_keep_15 : decode c9_M_keep 15 = .ok (.getfield 44, 3) := by decide +kernel
theorem d_M_keep_18 : decode c9_M_keep 18 = .ok (.iload_n 1, 1) := by decide +kernel
theorem d_M_keep_19 : decode c9_M_keep 19 = .ok (.aload_n 0, 1) := by decide +kernel
theorem d_M_keep_20 : decode c9_M_keep 20 = .ok (.lload_n 3, 1) := by decide +kernel
theorem d_M_keep_21 : decode c9_M_keep 21 = .ok (.iload_n 2, 1) := by decide +kernel
theorem d_M_keep_22 : decode c9_M_keep 22 = .ok (.invokevirtual 128, 3) := by decide +kernel
theorem d_M_keep_25 : decode c9_M_keep 25 = .ok (.ifCond .ne 7, 3) := by decide +kernel
theorem d_M_keep_28 : decode c9_M_keep 28 = .ok (.iconst 1, 1) := by decide +kernel
theorem d_M_keep_29 : decode c9_M_keep 29 = .ok (.goto 4, 3) := by decide +kernel
theorem d_M_keep_32 : decode c9_M_keep 32 = .ok (.iconst 0, 1) := by decide +kernel
theorem d_M_keep_33 : decode c9_M_keep 33 = .ok (.bastore, 1) := by decide +kernel
theorem d_M_keep_34 : decode c9_M_keep 34 = .ok (.aload_n 0, 1) := by decide +kernel
theorem d_M_keep_35 : decode c9_M_keep 35 = .ok (.getfield 44, 3) := by decide +kernel
theorem d_M_keep_38 : decode c9_M_keep 38 = .ok (.iload_n 1, 1) := by decide +kernel
theorem d_M_keep_39 : decode c9_M_keep 39 = .ok (.baload, 1) := by decide +kernel
theorem d_M_keep_40 : decode c9_M_keep 40 = .ok (.ireturn, 1) := by decide +kernel
theorem d_M_tooGreat_0 : decode c9_M_tooGreat 0 = .ok (.lload_n 1, 1) := by decide +kernel
theorem d_M_tooGreat_1 : decode c9_M_tooGreat 1 = .ok (.aload_n 0, 1) := by decide +kernel
theorem d_M_tooGreat_2 : decode c9_M_tooGreat 2 = .ok (.getfield 17, 3) := by decide +kernel
theorem d_M_tooGreat_5 : decode c9_M_tooGreat 5 = .ok (.iload_n 3, 1) := by decide +kernel
theorem d_M_tooGreat_6 : decode c9_M_tooGreat 6 = .ok (.laload, 1) := by decide +kernel
theorem d_M_tooGreat_7 : decode c9_M_tooGreat 7 = .ok (.lconst 1, 1) := by decide +kernel
theorem d_M_tooGreat_8 : decode c9_M_tooGreat 8 = .ok (.lsub, 1) := by decide +kernel
theorem d_M_tooGreat_9 : decode c9_M_tooGreat 9 = .ok (.ldc2_w 120, 3) := by decide +kernel
theorem d_M_tooGreat_12 : decode c9_M_tooGreat 12 = .ok (.ldiv, 1) := by decide +kernel
theorem d_M_tooGreat_13 : decode c9_M_tooGreat 13 = .ok (.lcmp, 1) := by decide +kernel
theorem d_M_tooGreat_14 : decode c9_M_tooGreat 14 = .ok (.ifCond .le 7, 3) := by decide +kernel
theorem d_M_tooGreat_17 : decode c9_M_tooGreat 17 = .ok (.iconst 1, 1) := by decide +kernel
theorem d_M_tooGreat_18 : decode c9_M_tooGreat 18 = .ok (.goto 4, 3) := by decide +kernel
theorem d_M_tooGreat_21 : decode c9_M_tooGreat 21 = .ok (.iconst 0, 1) := by decide +kernel
theorem d_M_tooGreat_22 : decode c9_M_tooGreat 22 = .ok (.ireturn, 1) := by decide +kernel
theorem d_M_multiply_0 : decode c9_M_multiply 0 = .ok (.aload_n 0, 1) := by decide +kernel
theorem d_M_multiply_1 : decode c9_M_multiply 1 = .ok (.aload_n 0, 1) := by decide +kernel
theorem d_M_multiply_2 : decode c9_M_multiply 2 = .ok (.getfield 35, 3) := by decide +kernel
theorem d_M_multiply_5 : decode c9_M_multiply 5 = .ok (.iload_n 1, 1) := by decide +kernel
theorem d_M_multiply_6 : decode c9_M_multiply 6 = .ok (.iaload, 1) := by decide +kernel
theorem d_M_multiply_7 : decode c9_M_multiply 7 = .ok (.aload_n 0, 1) := by decide +kernel
theorem d_M_multiply_8 : decode c9_M_multiply 8 = .ok (.getfield 38, 3) := by decide +kernel
theorem d_M_multiply_11 : decode c9_M_multiply 11 = .ok (.iload_n 1, 1) := by decide +kernel
theorem d_M_multiply_12 : decode c9_M_multiply 12 = .ok (.iaload, 1) := by decide +kernel
theorem d_M_multiply_13 : decode c9_M_multiply 13 = .ok (.invokevirtual 155, 3) := by decide +kernel
theorem d_M_multiply_16 : decode c9_M_multiply 16 = .ok (.istore_n 2, 1) := by decide +kernel
theorem d_M_multiply_17 : decode c9_M_multiply 17 = .ok (.iconst 0, 1) := by decide +kernel
theorem d_M_multiply_18 : decode c9_M_multiply 18 = .ok (.istore_n 3, 1) := by decide +kernel
theorem d_M_multiply_19 : decode c9_M_multiply 19 = .ok (.iload_n 3, 1) := by decide +kernel
theorem d_M_multiply_20 : decode c9_M_multiply 20 = .ok (.iconst 4, 1) := by decide +kernel
theorem d_M_multiply_21 : decode c9_M_multiply 21 = .ok (.if_icmp .ge 72, 3) := by decide +kernel
theorem d_M_multiply_24 : decode c9_M_multiply 24 = .ok (.iload_n 2, 1) := by decide +kernel
theorem d_M_multiply_25 : decode c9_M_multiply 25 = .ok (.ifCond .eq 68, 3) := by decide +kernel
theorem d_M_multiply_28 : decode c9_M_multiply 28 = .ok (.aload_n 0, 1) := by decide +kernel
theorem d_M_multiply_29 : decode c9_M_multiply 29 = .ok (.getfield 54, 3) := by decide +kernel
theorem d_M_multiply_32 : decode c9_M_multiply 32 = .ok (.iconst 0, 1) := by decide +kernel
theorem d_M_multiply_33 : decode c9_M_multiply 33 = .ok (.iaload, 1) := by decide +kernel
theorem d_M_multiply_34 : decode c9_M_multiply 34 = .ok (.ifCond .le 59, 3) := by decide +kernel
theorem d_M_multiply_37 : decode c9_M_multiply 37 = .ok (.aload_n 0, 1) := by decide +kernel
theorem d_M_multiply_38 : decode c9_M_multiply 38 = .ok (.getfield 57, 3) := by decide +kernel
theorem d_M_multiply_41 : decode c9_M_multiply 41 = .ok (.iconst 0, 1) := by decide +kernel
theorem d_M_multiply_42 : decode c9_M_multiply 42 = .ok (.laload, 1) := by decide +kernel
theorem d_M_multiply_43 : decode c9_M_multiply 43 = .ok (.ldc2_w 158, 3) := by decide +kernel
theorem d_M_multiply_46 : decode c9_M_multiply 46 = .ok (.lcmp, 1) := by decide +kernel
theorem d_M_multiply_47 : decode c9_M_multiply 47 = .ok (.ifCond .gt 16, 3) := by decide +kernel
theorem d_M_multiply_50 : decode c9_M_multiply 50 = .ok (.aload_n 0, 1) := by decide +kernel
theorem d_M_multiply_51 : decode c9_M_multiply 51 = .ok (.getfield 57, 3) := by decide +kernel
theorem d_M_multiply_54 : decode c9_M_multiply 54 = .ok (.iconst 1, 1) := by decide +kernel
theorem d_M_multiply_55 : decode c9_M_multiply 55 = .ok (.laload, 1) := by decide +kernel
theorem d_M_multiply_56 : decode c9_M_multiply 56 = .ok (.ldc2_w 158, 3) := by decide +kernel
theorem d_M_multiply_59 : decode c9_M_multiply 59 = .ok (.lcmp, 1) := by decide +kernel
theorem d_M_multiply_60 : decode c9_M_multiply 60 = .ok (.ifCond .le 33, 3) := by decide +kernel
theorem d_M_multiply_63 : decode c9_M_multiply 63 = .ok (.aload_n 0, 1) := by decide +kernel
theorem d_M_multiply_64 : decode c9_M_multiply 64 = .ok (.iconst 0, 1) := by decide +kernel
theorem d_M_multiply_65 : decode c9_M_multiply 65 = .ok (.invokevirtual 136, 3) := by decide +kernel
theorem d_M_multiply_68 : decode c9_M_multiply 68 = .ok (.istore_n 2, 1) := by decide +kernel
theorem d_M_multiply_69 : decode c9_M_multiply 69 = .ok (.aload_n 0, 1) := by decide +kernel
theorem d_M_multiply_70 : decode c9_M_multiply 70 = .ok (.iconst 1, 1) := by decide +kernel
theorem d_M_multiply_71 : decode c9_M_multiply 71 = .ok (.invokevirtual 136, 3) := by decide +kernel
theorem d_M_multiply_74 : decode c9_M_multiply 74 = .ok (.ifCond .eq 11, 3) := by decide +kernel
theorem d_M_multiply_77 : decode c9_M_multiply 77 = .ok (.iload_n 2, 1) := by decide +kernel
theorem d_M_multiply_78 : decode c9_M_multiply 78 = .ok (.ifCond .eq 7, 3) := by decide +kernel
theorem d_M_multiply_81 : decode c9_M_multiply 81 = .ok (.iconst 1, 1) := by decide +kernel
theorem d_M_multiply_82 : decode c9_M_multiply 82 = .ok (.goto 4, 3) := by decide +kernel
theorem d_M_multiply_85 : decode c9_M_multiply 85 = .ok (.iconst 0, 1) := by decide +kernel
theorem d_M_multiply_86 : decode c9_M_multiply 86 = .ok (.istore_n 2, 1) := by decide +kernel
theorem d_M_multiply_87 : decode c9_M_multiply 87 = .ok (.iinc 3 1, 3) := by decide +kernel
theorem d_M_multiply_90 : decode c9_M_multiply 90 = .ok (.goto (-71), 3) := by decide +kernel
theorem d_M_multiply_93 : decode c9_M_multiply 93 = .ok (.iload_n 2, 1) := by decide +kernel
theorem d_M_multiply_94 : decode c9_M_multiply 94 = .ok (.ifCond .ne 5, 3) := by decide +kernel
theorem d_M_multiply_97 : decode c9_M_multiply 97 = .ok (.iconst 0, 1) := by decide +kernel
theorem d_M_multiply_98 : decode c9_M_multiply 98 = .ok (.ireturn, 1) := by decide +kernel
theorem d_M_multiply_99 : decode c9_M_multiply 99 = .ok (.aload_n 0, 1) := by decide +kernel
theorem d_M_multiply_100 : decode c9_M_multiply 100 = .ok (.getfield 54, 3) := by decide +kernel
theorem d_M_multiply_103 : decode c9_M_multiply 103 = .ok (.iconst 0, 1) := by decide +kernel
theorem d_M_multiply_104 : decode c9_M_multiply 104 = .ok (.iaload, 1) := by decide +kernel
theorem d_M_multiply_105 : decode c9_M_multiply 105 = .ok (.istore_n 3, 1) := by decide +kernel
theorem d_M_multiply_106 : decode c9_M_multiply 106 = .ok (.aload_n 0, 1) := by decide +kernel
theorem d_M_multiply_107 : decode c9_M_multiply 107 = .ok (.getfield 17, 3) := by decide +kernel
theorem d_M_multiply_110 : decode c9_M_multiply 110 = .ok (.iload_n 3, 1) := by decide +kernel
theorem d_M_multiply_111 : decode c9_M_multiply 111 = .ok (.laload, 1) := by decide +kernel
theorem d_M_multiply_112 : decode c9_M_multiply 112 = .ok (.lstore 4, 2) := by decide +kernel
theorem d_M_multiply_114 : decode c9_M_multiply 114 = .ok (.iconst 0, 1) := by decide +kernel
theorem d_M_multiply_115 : decode c9_M_multiply 115 = .ok (.istore 6, 2) := by decide +kernel
theorem d_M_multiply_117 : decode c9_M_multiply 117 = .ok (.iload 6, 2) := by decide +kernel
theorem d_M_multiply_119 : decode c9_M_multiply 119 = .ok (.bipush 24, 2) := by decide +kernel
theorem d_M_multiply_121 : decode c9_M_multiply 121 = .ok (.if_icmp .ge 21, 3) := by decide +kernel
theorem d_M_multiply_124 : decode c9_M_multiply 124 = .ok (.aload_n 0, 1) := by decide +kernel
theorem d_M_multiply_125 : decode c9_M_multiply 125 = .ok (.getfield 7, 3) := by decide +kernel
theorem d_M_multiply_128 : decode c9_M_multiply 128 = .ok (.sipush 480, 3) := by decide +kernel
theorem d_M_multiply_131 : decode c9_M_multiply 131 = .ok (.iload 6, 2) := by decide +kernel
theorem d_M_multiply_133 : decode c9_M_multiply 133 = .ok (.iadd, 1) := by decide +kernel
theorem d_M_multiply_134 : decode c9_M_multiply 134 = .ok (.lconst 0, 1) := by decide +kernel
theorem d_M_multiply_135 : decode c9_M_multiply 135 = .ok (.lastore, 1) := by decide +kernel
theorem d_M_multiply_136 : decode c9_M_multiply 136 = .ok (.iinc 6 1, 3) := by decide +kernel
theorem d_M_multiply_139 : decode c9_M_multiply 139 = .ok (.goto (-22), 3) := by decide +kernel
theorem d_M_multiply_142 : decode c9_M_multiply 142 = .ok (.aload_n 0, 1) := by decide +kernel
theorem d_M_multiply_143 : decode c9_M_multiply 143 = .ok (.bipush 60, 2) := by decide +kernel
theorem d_M_multiply_145 : decode c9_M_multiply 145 = .ok (.bipush 56, 2) := by decide +kernel
theorem d_M_multiply_147 : decode c9_M_multiply 147 = .ok (.bipush 58, 2) := by decide +kernel
theorem d_M_multiply_149 : decode c9_M_multiply 149 = .ok (.lload 4, 2) := by decide +kernel
theorem d_M_multiply_151 : decode c9_M_multiply 151 = .ok (.invokevirtual 160, 3) := by decide +kernel
theorem d_M_multiply_154 : decode c9_M_multiply 154 = .ok (.aload_n 0, 1) := by decide +kernel
theorem d_M_multiply_155 : decode c9_M_multiply 155 = .ok (.bipush 61, 2) := by decide +kernel
theorem d_M_multiply_157 : decode c9_M_multiply 157 = .ok (.bipush 56, 2) := by decide +kernel
theorem d_M_multiply_159 : decode c9_M_multiply 159 = .ok (.bipush 59, 2) := by decide +kernel
theorem d_M_multiply_161 : decode c9_M_multiply 161 = .ok (.lload 4, 2) := by decide +kernel
theorem d_M_multiply_163 : decode c9_M_multiply 163 = .ok (.invokevirtual 160, 3) := by decide +kernel
theorem d_M_multiply_166 : decode c9_M_multiply 166 = .ok (.aload_n 0, 1) := by decide +kernel
theorem d_M_multiply_167 : decode c9_M_multiply 167 = .ok (.bipush 61, 2) := by decide +kernel
theorem d_M_multiply_169 : decode c9_M_multiply 169 = .ok (.bipush 57, 2) := by decide +kernel
theorem d_M_multiply_171 : decode c9_M_multiply 171 = .ok (.bipush 58, 2) := by decide +kernel
theorem d_M_multiply_173 : decode c9_M_multiply 173 = .ok (.lload 4, 2) := by decide +kernel
theorem d_M_multiply_175 : decode c9_M_multiply 175 = .ok (.invokevirtual 160, 3) := by decide +kernel
theorem d_M_multiply_178 : decode c9_M_multiply 178 = .ok (.aload_n 0, 1) := by decide +kernel
theorem d_M_multiply_179 : decode c9_M_multiply 179 = .ok (.bipush 62, 2) := by decide +kernel
theorem d_M_multiply_181 : decode c9_M_multiply 181 = .ok (.bipush 57, 2) := by decide +kernel
theorem d_M_multiply_183 : decode c9_M_multiply 183 = .ok (.bipush 59, 2) := by decide +kernel
theorem d_M_multiply_185 : decode c9_M_multiply 185 = .ok (.lload 4, 2) := by decide +kernel
theorem d_M_multiply_187 : decode c9_M_multiply 187 = .ok (.invokevirtual 160, 3) := by decide +kernel
theorem d_M_multiply_190 : decode c9_M_multiply 190 = .ok (.ldc2_w 124, 3) := by decide +kernel
theorem d_M_multiply_193 : decode c9_M_multiply 193 = .ok (.aload_n 0, 1) := by decide +kernel
theorem d_M_multiply_194 : decode c9_M_multiply 194 = .ok (.getfield 57, 3) := by decide +kernel
theorem d_M_multiply_197 : decode c9_M_multiply 197 = .ok (.iconst 0, 1) := by decide +kernel
theorem d_M_multiply_198 : decode c9_M_multiply 198 = .ok (.laload, 1) := by decide +kernel
theorem d_M_multiply_199 : decode c9_M_multiply 199 = .ok (.lmul, 1) := by decide +kernel
theorem d_M_multiply_200 : decode c9_M_multiply 200 = .ok (.aload_n 0, 1) := by decide +kernel
theorem d_M_multiply_201 : decode c9_M_multiply 201 = .ok (.getfield 57, 3) := by decide +kernel
theorem d_M_multiply_204 : decode c9_M_multiply 204 = .ok (.iconst 1, 1) := by decide +kernel
theorem d_M_multiply_205 : decode c9_M_multiply 205 = .ok (.laload, 1) := by decide +kernel
theorem d_M_multiply_206 : decode c9_M_multiply 206 = .ok (.lmul, 1) := by decide +kernel
theorem d_M_multiply_207 : decode c9_M_multiply 207 = .ok (.lstore 6, 2) := by decide +kernel
theorem d_M_multiply_209 : decode c9_M_multiply 209 = .ok (.iconst 0, 1) := by decide +kernel
theorem d_M_multiply_210 : decode c9_M_multiply 210 = .ok (.istore 8, 2) := by decide +kernel
theorem d_M_multiply_212 : decode c9_M_multiply 212 = .ok (.iload 8, 2) := by decide +kernel
theorem d_M_multiply_214 : decode c9_M_multiply 214 = .ok (.iload_n 3, 1) := by decide +kernel
theorem d_M_multiply_215 : decode c9_M_multiply 215 = .ok (.if_icmp .gt 101, 3) := by decide +kernel
theorem d_M_multiply_218 : decode c9_M_multiply 218 = .ok (.iconst 0, 1) := by decide +kernel
theorem d_M_multiply_219 : decode c9_M_multiply 219 = .ok (.istore 9, 2) := by decide +kernel
theorem d_M_multiply_221 : decode c9_M_multiply 221 = .ok (.iload 9, 2) := by decide +kernel
theorem d_M_multiply_223 : decode c9_M_multiply 223 = .ok (.bipush 8, 2) := by decide +kernel
theorem d_M_multiply_225 : decode c9_M_multiply 225 = .ok (.if_icmp .ge 40, 3) := by decide +kernel
theorem d_M_multiply_228 : decode c9_M_multiply 228 = .ok (.aload_n 0, 1) := by decide +kernel
theorem d_M_multiply_229 : decode c9_M_multiply 229 = .ok (.getfield 7, 3) := by decide +kernel
theorem d_M_multiply_232 : decode c9_M_multiply 232 = .ok (.sipush 504, 3) := by decide +kernel
theorem d_M_multiply_235 : decode c9_M_multiply 235 = .ok (.iload 9, 2) := by decide +kernel
theorem d_M_multiply_237 : decode c9_M_multiply 237 = .ok (.iadd, 1) := by decide +kernel
theorem d_M_multiply_238 : decode c9_M_multiply 238 = .ok (.aload_n 0, 1) := by decide +kernel
theorem d_M_multiply_239 : decode c9_M_multiply 239 = .ok (.getfield 7, 3) := by decide +kernel
theorem d_M_multiply_242 : decode c9_M_multiply 242 = .ok (.sipush 496, 3) := by decide +kernel
theorem d_M_multiply_245 : decode c9_M_multiply 245 = .ok (.iload 9, 2) := by decide +kernel
theorem d_M_multiply_247 : decode c9_M_multiply 247 = .ok (.iadd, 1) := by decide +kernel
theorem d_M_multiply_248 : decode c9_M_multiply 248 = .ok (.laload, 1) := by decide +kernel
theorem d_M_multiply_249 : decode c9_M_multiply 249 = .ok (.aload_n 0, 1) := by decide +kernel
theorem d_M_multiply_250 : decode c9_M_multiply 250 = .ok (.getfield 13, 3) := by decide +kernel
theorem d_M_multiply_253 : decode c9_M_multiply 253 = .ok (.iload 8, 2) := by decide +kernel
theorem d_M_multiply_255 : decode c9_M_multiply 255 = .ok (.iaload, 1) := by decide +kernel
theorem d_M_multiply_256 : decode c9_M_multiply 256 = .ok (.i2l, 1) := by decide +kernel
theorem d_M_multiply_257 : decode c9_M_multiply 257 = .ok (.lrem, 1) := by decide +kernel
theorem d_M_multiply_258 : decode c9_M_multiply 258 = .ok (.lastore, 1) := by decide +kernel
theorem d_M_multiply_259 : decode c9_M_multiply 259 = .ok (.iinc 9 1, 3) := by decide +kernel
theorem d_M_multiply_262 : decode c9_M_multiply 262 = .ok (.goto (-41), 3) := by decide +kernel
theorem d_M_multiply_265 : decode c9_M_multiply 265 = .ok (.aload_n 0, 1) := by decide +kernel
theorem d_M_multiply_266 : decode c9_M_multiply 266 = .ok (.bipush 60, 2) := by decide +kernel
theorem d_M_multiply_268 : decode c9_M_multiply 268 = .ok (.bipush 63, 2) := by decide +kernel
theorem d_M_multiply_270 : decode c9_M_multiply 270 = .ok (.iconst 4, 1) := by decide +kernel
theorem d_M_multiply_271 : decode c9_M_multiply 271 = .ok (.iload 8, 2) := by decide +kernel
theorem d_M_multiply_273 : decode c9_M_multiply 273 = .ok (.iadd, 1) := by decide +kernel
theorem d_M_multiply_274 : decode c9_M_multiply 274 = .ok (.lload 4, 2) := by decide +kernel
theorem d_M_multiply_276 : decode c9_M_multiply 276 = .ok (.invokevirtual 160, 3) := by decide +kernel
theorem d_M_multiply_279 : decode c9_M_multiply 279 = .ok (.aload_n 0, 1) := by decide +kernel
theorem d_M_multiply_280 : decode c9_M_multiply 280 = .ok (.bipush 61, 2) := by decide +kernel
theorem d_M_multiply_282 : decode c9_M_multiply 282 = .ok (.bipush 63, 2) := by decide +kernel
theorem d_M_multiply_284 : decode c9_M_multiply 284 = .ok (.iload 8, 2) := by decide +kernel
theorem d_M_multiply_286 : decode c9_M_multiply 286 = .ok (.lload 4, 2) := by decide +kernel
theorem d_M_multiply_288 : decode c9_M_multiply 288 = .ok (.invokevirtual 160, 3) := by decide +kernel
theorem d_M_multiply_291 : decode c9_M_multiply 291 = .ok (.lload 6, 2) := by decide +kernel
theorem d_M_multiply_293 : decode c9_M_multiply 293 = .ok (.ldc2_w 164, 3) := by decide +kernel
theorem d_M_multiply_296 : decode c9_M_multiply 296 = .ok (.aload_n 0, 1) := by decide +kernel
theorem d_M_multiply_297 : decode c9_M_multiply 297 = .ok (.getfield 13, 3) := by decide +kernel
theorem d_M_multiply_300 : decode c9_M_multiply 300 = .ok (.iload 8, 2) := by decide +kernel
theorem d_M_multiply_302 : decode c9_M_multiply 302 = .ok (.iaload, 1) := by decide +kernel
theorem d_M_multiply_303 : decode c9_M_multiply 303 = .ok (.iconst 1, 1) := by decide +kernel
theorem d_M_multiply_304 : decode c9_M_multiply 304 = .ok (.isub, 1) := by decide +kernel
theorem d_M_multiply_305 : decode c9_M_multiply 305 = .ok (.i2l, 1) := by decide +kernel
theorem d_M_multiply_306 : decode c9_M_multiply 306 = .ok (.lmul, 1) := by decide +kernel
theorem d_M_multiply_307 : decode c9_M_multiply 307 = .ok (.ladd, 1) := by decide +kernel
theorem d_M_multiply_308 : decode c9_M_multiply 308 = .ok (.lstore 6, 2) := by decide +kernel
theorem d_M_multiply_310 : decode c9_M_multiply 310 = .ok (.iinc 8 1, 3) := by decide +kernel
theorem d_M_multiply_313 : decode c9_M_multiply 313 = .ok (.goto (-101), 3) := by decide +kernel
theorem d_M_multiply_316 : decode c9_M_multiply 316 = .ok (.iconst 0, 1) := by decide +kernel
theorem d_M_multiply_317 : decode c9_M_multiply 317 = .ok (.istore 8, 2) := by decide +kernel
theorem d_M_multiply_319 : decode c9_M_multiply 319 = .ok (.iload 8, 2) := by decide +kernel
theorem d_M_multiply_321 : decode c9_M_multiply 321 = .ok (.bipush 16, 2) := by decide +kernel
theorem d_M_multiply_323 : decode c9_M_multiply 323 = .ok (.if_icmp .ge 37, 3) := by decide +kernel
theorem d_M_multiply_326 : decode c9_M_multiply 326 = .ok (.aload_n 0, 1) := by decide +kernel
theorem d_M_multiply_327 : decode c9_M_multiply 327 = .ok (.getfield 7, 3) := by decide +kernel
theorem d_M_multiply_330 : decode c9_M_multiply 330 = .ok (.bipush 8, 2) := by decide +kernel
theorem d_M_multiply_332 : decode c9_M_multiply 332 = .ok (.bipush 8, 2) := by decide +kernel
theorem d_M_multiply_334 : decode c9_M_multiply 334 = .ok (.iconst 2, 1) := by decide +kernel
theorem d_M_multiply_335 : decode c9_M_multiply 335 = .ok (.iload_n 1, 1) := by decide +kernel
theorem d_M_multiply_336 : decode c9_M_multiply 336 = .ok (.imul, 1) := by decide +kernel
theorem d_M_multiply_337 : decode c9_M_multiply 337 = .ok (.iadd, 1) := by decide +kernel
theorem d_M_multiply_338 : decode c9_M_multiply 338 = .ok (.imul, 1) := by decide +kernel
theorem d_M_multiply_339 : decode c9_M_multiply 339 = .ok (.iload 8, 2) := by decide +kernel
theorem d_M_multiply_341 : decode c9_M_multiply 341 = .ok (.iadd, 1) := by decide +kernel
theorem d_M_multiply_342 : decode c9_M_multiply 342 = .ok (.aload_n 0, 1) := by decide +kernel
theorem d_M_multiply_343 : decode c9_M_multiply 343 = .ok (.getfield 7, 3) := by decide +kernel
theorem d_M_multiply_346 : decode c9_M_multiply 346 = .ok (.sipush 480, 3) := by decide +kernel
theorem d_M_multiply_349 : decode c9_M_multiply 349 = .ok (.iload 8, 2) := by decide +kernel
theorem d_M_multiply_351 : decode c9_M_multiply 351 = .ok (.iadd, 1) := by decide +kernel
theorem d_M_multiply_352 : decode c9_M_multiply 352 = .ok (.laload, 1) := by decide +kernel
theorem d_M_multiply_353 : decode c9_M_multiply 353 = .ok (.lastore, 1) := by decide +kernel
theorem d_M_multiply_354 : decode c9_M_multiply 354 = .ok (.iinc 8 1, 3) := by decide +kernel
theorem d_M_multiply_357 : decode c9_M_multiply 357 = .ok (.goto (-38), 3) := by decide +kernel
theorem d_M_multiply_360 : decode c9_M_multiply 360 = .ok (.aload_n 0, 1) := by decide +kernel
theorem d_M_multiply_361 : decode c9_M_multiply 361 = .ok (.iload_n 1, 1) := by decide +kernel
theorem d_M_multiply_362 : decode c9_M_multiply 362 = .ok (.iload_n 3, 1) := by decide +kernel
theorem d_M_multiply_363 : decode c9_M_multiply 363 = .ok (.lload 6, 2) := by decide +kernel
theorem d_M_multiply_365 : decode c9_M_multiply 365 = .ok (.invokevirtual 149, 3) := by decide +kernel
theorem d_M_multiply_368 : decode c9_M_multiply 368 = .ok (.ireturn, 1) := by decide +kernel
theorem d_M_level2_0 : decode c9_M_level2 0 = .ok (.aload_n 0, 1) := by decide +kernel
theorem d_M_level2_1 : decode c9_M_level2 1 = .ok (.iconst 0, 1) := by decide +kernel
theorem d_M_level2_2 : decode c9_M_level2 2 = .ok (.iload_n 1, 1) := by decide +kernel
theorem d_M_level2_3 : decode c9_M_level2 3 = .ok (.invokevirtual 132, 3) := by decide +kernel
theorem d_M_level2_6 : decode c9_M_level2 6 = .ok (.aload_n 0, 1) := by decide +kernel
theorem d_M_level2_7 : decode c9_M_level2 7 = .ok (.iconst 1, 1) := by decide +kernel
theorem d_M_level2_8 : decode c9_M_level2 8 = .ok (.iload_n 2, 1) := by decide +kernel
theorem d_M_level2_9 : decode c9_M_level2 9 = .ok (.invokevirtual 132, 3) := by decide +kernel
theorem d_M_level2_12 : decode c9_M_level2 12 = .ok (.iconst 1, 1) := by decide +kernel
theorem d_M_level2_13 : decode c9_M_level2 13 = .ok (.istore_n 3, 1) := by decide +kernel
theorem d_M_level2_14 : decode c9_M_level2 14 = .ok (.iconst 0, 1) := by decide +kernel
theorem d_M_level2_15 : decode c9_M_level2 15 = .ok (.istore 4, 2) := by decide +kernel
theorem d_M_level2_17 : decode c9_M_level2 17 = .ok (.iload 4, 2) := by decide +kernel
theorem d_M_level2_19 : decode c9_M_level2 19 = .ok (.iconst 4, 1) := by decide +kernel
theorem d_M_level2_20 : decode c9_M_level2 20 = .ok (.if_icmp .ge 53, 3) := by decide +kernel
theorem d_M_level2_23 : decode c9_M_level2 23 = .ok (.iload_n 3, 1) := by decide +kernel
theorem d_M_level2_24 : decode c9_M_level2 24 = .ok (.ifCond .eq 49, 3) := by decide +kernel
theorem d_M_level2_27 : decode c9_M_level2 27 = .ok (.aload_n 0, 1) := by decide +kernel
theorem d_M_level2_28 : decode c9_M_level2 28 = .ok (.getfield 54, 3) := by decide +kernel
theorem d_M_level2_31 : decode c9_M_level2 31 = .ok (.iconst 0, 1) := by decide +kernel
theorem d_M_level2_32 : decode c9_M_level2 32 = .ok (.iaload, 1) := by decide +kernel
theorem d_M_level2_33 : decode c9_M_level2 33 = .ok (.aload_n 0, 1) := by decide +kernel
theorem d_M_level2_34 : decode c9_M_level2 34 = .ok (.getfield 54, 3) := by decide +kernel
theorem d_M_level2_37 : decode c9_M_level2 37 = .ok (.iconst 1, 1) := by decide +kernel
theorem d_M_level2_38 : decode c9_M_level2 38 = .ok (.iaload, 1) := by decide +kernel
theorem d_M_level2_39 : decode c9_M_level2 39 = .ok (.if_icmp .eq 34, 3) := by decide +kernel
theorem d_M_level2_42 : decode c9_M_level2 42 = .ok (.aload_n 0, 1) := by decide +kernel
theorem d_M_level2_43 : decode c9_M_level2 43 = .ok (.aload_n 0, 1) := by decide +kernel
theorem d_M_level2_44 : decode c9_M_level2 44 = .ok (.getfield 54, 3) := by decide +kernel
theorem d_M_level2_47 : decode c9_M_level2 47 = .ok (.iconst 0, 1) := by decide +kernel
theorem d_M_level2_48 : decode c9_M_level2 48 = .ok (.iaload, 1) := by decide +kernel
theorem d_M_level2_49 : decode c9_M_level2 49 = .ok (.aload_n 0, 1) := by decide +kernel
theorem d_M_level2_50 : decode c9_M_level2 50 = .ok (.getfield 54, 3) := by decide +kernel
theorem d_M_level2_53 : decode c9_M_level2 53 = .ok (.iconst 1, 1) := by decide +kernel
theorem d_M_level2_54 : decode c9_M_level2 54 = .ok (.iaload, 1) := by decide +kernel
theorem d_M_level2_55 : decode c9_M_level2 55 = .ok (.if_icmp .le 7, 3) := by decide +kernel
theorem d_M_level2_58 : decode c9_M_level2 58 = .ok (.iconst 0, 1) := by decide +kernel
theorem d_M_level2_59 : decode c9_M_level2 59 = .ok (.goto 4, 3) := by decide +kernel
theorem d_M_level2_62 : decode c9_M_level2 62 = .ok (.iconst 1, 1) := by decide +kernel
theorem d_M_level2_63 : decode c9_M_level2 63 = .ok (.invokevirtual 136, 3) := by decide +kernel
theorem d_M_level2_66 : decode c9_M_level2 66 = .ok (.istore_n 3, 1) := by decide +kernel
theorem d_M_level2_67 : decode c9_M_level2 67 = .ok (.iinc 4 1, 3) := by decide +kernel
theorem d_M_level2_70 : decode c9_M_level2 70 = .ok (.goto (-53), 3) := by decide +kernel
theorem d_M_level2_73 : decode c9_M_level2 73 = .ok (.iload_n 3, 1) := by decide +kernel
theorem d_M_level2_74 : decode c9_M_level2 74 = .ok (.ireturn, 1) := by decide +kernel
theorem d_M_load_0 : decode c9_M_load 0 = .ok (.aload_n 0, 1) := by decide +kernel
theorem d_M_load_1 : decode c9_M_load 1 = .ok (.getfield 54, 3) := by decide +kernel
theorem d_M_load_4 : decode c9_M_load 4 = .ok (.iload_n 1, 1) := by decide +kernel
theorem d_M_load_5 : decode c9_M_load 5 = .ok (.aload_n 0, 1) := by decide +kernel
theorem d_M_load_6 : decode c9_M_load 6 = .ok (.getfield 48, 3) := by decide +kernel
theorem d_M_load_9 : decode c9_M_load 9 = .ok (.iload_n 2, 1) := by decide +kernel
theorem d_M_load_10 : decode c9_M_load 10 = .ok (.iaload, 1) := by decide +kernel
theorem d_M_load_11 : decode c9_M_load 11 = .ok (.iastore, 1) := by decide +kernel
theorem d_M_load_12 : decode c9_M_load 12 = .ok (.aload_n 0, 1) := by decide +kernel
theorem d_M_load_13 : decode c9_M_load 13 = .ok (.getfield 57, 3) := by decide +kernel
theorem d_M_load_16 : decode c9_M_load 16 = .ok (.iload_n 1, 1) := by decide +kernel
theorem d_M_load_17 : decode c9_M_load 17 = .ok (.aload_n 0, 1) := by decide +kernel
theorem d_M_load_18 : decode c9_M_load 18 = .ok (.getfield 51, 3) := by decide +kernel
theorem d_M_load_21 : decode c9_M_load 21 = .ok (.iload_n 2, 1) := by decide +kernel
theorem d_M_load_22 : decode c9_M_load 22 = .ok (.laload, 1) := by decide +kernel
theorem d_M_load_23 : decode c9_M_load 23 = .ok (.lastore, 1) := by decide +kernel
theorem d_M_load_24 : decode c9_M_load 24 = .ok (.iconst 0, 1) := by decide +kernel
theorem d_M_load_25 : decode c9_M_load 25 = .ok (.istore_n 3, 1) := by decide +kernel
theorem d_M_load_26 : decode c9_M_load 26 = .ok (.iload_n 3, 1) := by decide +kernel
theorem d_M_load_27 : decode c9_M_load 27 = .ok (.bipush 16, 2) := by decide +kernel
theorem d_M_load_29 : decode c9_M_load 29 = .ok (.if_icmp .ge 41, 3) := by decide +kernel
theorem d_M_load_32 : decode c9_M_load 32 = .ok (.aload_n 0, 1) := by decide +kernel
theorem d_M_load_33 : decode c9_M_load 33 = .ok (.getfield 7, 3) := by decide +kernel
theorem d_M_load_36 : decode c9_M_load 36 = .ok (.bipush 8, 2) := by decide +kernel
theorem d_M_load_38 : decode c9_M_load 38 = .ok (.bipush 56, 2) := by decide +kernel
theorem d_M_load_40 : decode c9_M_load 40 = .ok (.iconst 2, 1) := by decide +kernel
theorem d_M_load_41 : decode c9_M_load 41 = .ok (.iload_n 1, 1) := by decide +kernel
theorem d_M_load_42 : decode c9_M_load 42 = .ok (.imul, 1) := by decide +kernel
theorem d_M_load_43 : decode c9_M_load 43 = .ok (.iadd, 1) := by decide +kernel
theorem d_M_load_44 : decode c9_M_load 44 = .ok (.imul, 1) := by decide +kernel
theorem d_M_load_45 : decode c9_M_load 45 = .ok (.iload_n 3, 1) := by decide +kernel
theorem d_M_load_46 : decode c9_M_load 46 = .ok (.iadd, 1) := by decide +kernel
theorem d_M_load_47 : decode c9_M_load 47 = .ok (.aload_n 0, 1) := by decide +kernel
theorem d_M_load_48 : decode c9_M_load 48 = .ok (.getfield 7, 3) := by decide +kernel
theorem d_M_load_51 : decode c9_M_load 51 = .ok (.bipush 8, 2) := by decide +kernel
theorem d_M_load_53 : decode c9_M_load 53 = .ok (.bipush 8, 2) := by decide +kernel
theorem d_M_load_55 : decode c9_M_load 55 = .ok (.iconst 2, 1) := by decide +kernel
theorem d_M_load_56 : decode c9_M_load 56 = .ok (.iload_n 2, 1) := by decide +kernel
theorem d_M_load_57 : decode c9_M_load 57 = .ok (.imul, 1) := by decide +kernel
theorem d_M_load_58 : decode c9_M_load 58 = .ok (.iadd, 1) := by decide +kernel
theorem d_M_load_59 : decode c9_M_load 59 = .ok (.imul, 1) := by decide +kernel
theorem d_M_load_60 : decode c9_M_load 60 = .ok (.iload_n 3, 1) := by decide +kernel
theorem d_M_load_61 : decode c9_M_load 61 = .ok (.iadd, 1) := by decide +kernel
theorem d_M_load_62 : decode c9_M_load 62 = .ok (.laload, 1) := by decide +kernel
theorem d_M_load_63 : decode c9_M_load 63 = .ok (.lastore, 1) := by decide +kernel
theorem d_M_load_64 : decode c9_M_load 64 = .ok (.iinc 3 1, 3) := by decide +kernel
theorem d_M_load_67 : decode c9_M_load 67 = .ok (.goto (-41), 3) := by decide +kernel
theorem d_M_load_70 : decode c9_M_load 70 = .ok (.return_, 1) := by decide +kernel
theorem d_M_lower_0 : decode c9_M_lower 0 = .ok (.aload_n 0, 1) := by decide +kernel
theorem d_M_lower_1 : decode c9_M_lower 1 = .ok (.getfield 54, 3) := by decide +kernel
theorem d_M_lower_4 : decode c9_M_lower 4 = .ok (.iload_n 1, 1) := by decide +kernel
theorem d_M_lower_5 : decode c9_M_lower 5 = .ok (.iaload, 1) := by decide +kernel
theorem d_M_lower_6 : decode c9_M_lower 6 = .ok (.istore_n 2, 1) := by decide +kernel
theorem d_M_lower_7 : decode c9_M_lower 7 = .ok (.iload_n 2, 1) := by decide +kernel
theorem d_M_lower_8 : decode c9_M_lower 8 = .ok (.ifCond .ne 5, 3) := by decide +kernel
theorem d_M_lower_11 : decode c9_M_lower 11 = .ok (.iconst 0, 1) := by decide +kernel
theorem d_M_lower_12 : decode c9_M_lower 12 = .ok (.ireturn, 1) := by decide +kernel
theorem d_M_lower_13 : decode c9_M_lower 13 = .ok (.aload_n 0, 1) := by decide +kernel
theorem d_M_lower_14 : decode c9_M_lower 14 = .ok (.getfield 13, 3) := by decide +kernel
theorem d_M_lower_17 : decode c9_M_lower 17 = .ok (.iload_n 2, 1) := by decide +kernel
theorem d_M_lower_18 : decode c9_M_lower 18 = .ok (.iaload, 1) := by decide +kernel
theorem d_M_lower_19 : decode c9_M_lower 19 = .ok (.istore_n 3, 1) := by decide +kernel
theorem d_M_lower_20 : decode c9_M_lower 20 = .ok (.iconst 0, 1) := by decide +kernel
theorem d_M_lower_21 : decode c9_M_lower 21 = .ok (.istore 4, 2) := by decide +kernel
theorem d_M_lower_23 : decode c9_M_lower 23 = .ok (.iload 4, 2) := by decide +kernel
theorem d_M_lower_25 : decode c9_M_lower 25 = .ok (.bipush 16, 2) := by decide +kernel
theorem d_M_lower_27 : decode c9_M_lower 27 = .ok (.if_icmp .ge 132, 3) := by decide +kernel
theorem d_M_lower_30 : decode c9_M_lower 30 = .ok (.bipush 8, 2) := by decide +kernel
theorem d_M_lower_32 : decode c9_M_lower 32 = .ok (.bipush 56, 2) := by decide +kernel
theorem d_M_lower_34 : decode c9_M_lower 34 = .ok (.iconst 2, 1) := by decide +kernel
theorem d_M_lower_35 : decode c9_M_lower 35 = .ok (.iload_n 1, 1) := by decide +kernel
theorem d_M_lower_36 : decode c9_M_lower 36 = .ok (.imul, 1) := by decide +kernel
theorem d_M_lower_37 : decode c9_M_lower 37 = .ok (.iadd, 1) := by decide +kernel
theorem d_M_lower_38 : decode c9_M_lower 38 = .ok (.imul, 1) := by decide +kernel
theorem d_M_lower_39 : decode c9_M_lower 39 = .ok (.iload 4, 2) := by decide +kernel
theorem d_M_lower_41 : decode c9_M_lower 41 = .ok (.iadd, 1) := by decide +kernel
theorem d_M_lower_42 : decode c9_M_lower 42 = .ok (.istore 5, 2) := by decide +kernel
theorem d_M_lower_44 : decode c9_M_lower 44 = .ok (.aload_n 0, 1) := by decide +kernel
theorem d_M_lower_45 : decode c9_M_lower 45 = .ok (.getfield 7, 3) := by decide +kernel
theorem d_M_lower_48 : decode c9_M_lower 48 = .ok (.iload 5, 2) := by decide +kernel
theorem d_M_lower_50 : decode c9_M_lower 50 = .ok (.laload, 1) := by decide +kernel
theorem d_M_lower_51 : decode c9_M_lower 51 = .ok (.lstore 6, 2) := by decide +kernel
theorem d_M_lower_53 : decode c9_M_lower 53 = .ok (.lload 6, 2) := by decide +kernel
theorem d_M_lower_55 : decode c9_M_lower 55 = .ok (.iload_n 3, 1) := by decide +kernel
theorem d_M_lower_56 : decode c9_M_lower 56 = .ok (.i2l, 1) := by decide +kernel
theorem d_M_lower_57 : decode c9_M_lower 57 = .ok (.lrem, 1) := by decide +kernel
theorem d_M_lower_58 : decode c9_M_lower 58 = .ok (.lstore 8, 2) := by decide +kernel
theorem d_M_lower_60 : decode c9_M_lower 60 = .ok (.lload 8, 2) := by decide +kernel
theorem d_M_lower_62 : decode c9_M_lower 62 = .ok (.iload_n 3, 1) := by decide +kernel
theorem d_M_lower_63 : decode c9_M_lower 63 = .ok (.iconst 1, 1) := by decide +kernel
theorem d_M_lower_64 : decode c9_M_lower 64 = .ok (.isub, 1) := by decide +kernel
theorem d_M_lower_65 : decode c9_M_lower 65 = .ok (.iconst 2, 1) := by decide +kernel
theorem d_M_lower_66 : decode c9_M_lower 66 = .ok (.idiv, 1) := by decide +kernel
theorem d_M_lower_67 : decode c9_M_lower 67 = .ok (.i2l, 1) := by decide +kernel
theorem d_M_lower_68 : decode c9_M_lower 68 = .ok (.lcmp, 1) := by decide +kernel
theorem d_M_lower_69 : decode c9_M_lower 69 = .ok (.ifCond .le 11, 3) := by decide +kernel
theorem d_M_lower_72 : decode c9_M_lower 72 = .ok (.lload 8, 2) := by decide +kernel
theorem d_M_lower_74 : decode c9_M_lower 74 = .ok (.iload_n 3, 1) := by decide +kernel
theorem d_M_lower_75 : decode c9_M_lower 75 = .ok (.i2l, 1) := by decide +kernel
theorem d_M_lower_76 : decode c9_M_lower 76 = .ok (.lsub, 1) := by decide +kernel
theorem d_M_lower_77 : decode c9_M_lower 77 = .ok (.goto 5, 3) := by decide +kernel
theorem d_M_lower_80 : decode c9_M_lower 80 = .ok (.lload 8, 2) := by decide +kernel
theorem d_M_lower_82 : decode c9_M_lower 82 = .ok (.lstore 8, 2) := by decide +kernel
theorem d_M_lower_84 : decode c9_M_lower 84 = .ok (.ldc2_w 122, 3) := by decide +kernel
theorem d_M_lower_87 : decode c9_M_lower 87 = .ok (.lstore 10, 2) := by decide +kernel
theorem d_M_lower_89 : decode c9_M_lower 89 = .ok (.lload 10, 2) := by decide +kernel
theorem d_M_lower_91 : decode c9_M_lower 91 = .ok (.ldc2_w 124, 3) := by decide +kernel
theorem d_M_lower_94 : decode c9_M_lower 94 = .ok (.lcmp, 1) := by decide +kernel
theorem d_M_lower_95 : decode c9_M_lower 95 = .ok (.ifCond .ge 26, 3) := by decide +kernel
theorem d_M_lower_98 : decode c9_M_lower 98 = .ok (.lload 8, 2) := by decide +kernel
theorem d_M_lower_100 : decode c9_M_lower 100 = .ok (.lload 10, 2) := by decide +kernel
theorem d_M_lower_102 : decode c9_M_lower 102 = .ok (.ladd, 1) := by decide +kernel
theorem d_M_lower_103 : decode c9_M_lower 103 = .ok (.ldc2_w 96, 3) := by decide +kernel
theorem d_M_lower_106 : decode c9_M_lower 106 = .ok (.lrem, 1) := by decide +kernel
theorem d_M_lower_107 : decode c9_M_lower 107 = .ok (.lconst 0, 1) := by decide +kernel
theorem d_M_lower_108 : decode c9_M_lower 108 = .ok (.lcmp, 1) := by decide +kernel
theorem d_M_lower_109 : decode c9_M_lower 109 = .ok (.ifCond .eq 12, 3) := by decide +kernel
theorem d_M_lower_112 : decode c9_M_lower 112 = .ok (.lload 10, 2) := by decide +kernel
theorem d_M_lower_114 : decode c9_M_lower 114 = .ok (.lconst 1, 1) := by decide +kernel
theorem d_M_lower_115 : decode c9_M_lower 115 = .ok (.ladd, 1) := by decide +kernel
theorem d_M_lower_116 : decode c9_M_lower 116 = .ok (.lstore 10, 2) := by decide +kernel
theorem d_M_lower_118 : decode c9_M_lower 118 = .ok (.goto (-29), 3) := by decide +kernel
theorem d_M_lower_121 : decode c9_M_lower 121 = .ok (.aload_n 0, 1) := by decide +kernel
theorem d_M_lower_122 : decode c9_M_lower 122 = .ok (.getfield 7, 3) := by decide +kernel
theorem d_M_lower_125 : decode c9_M_lower 125 = .ok (.iload 5, 2) := by decide +kernel
theorem d_M_lower_127 : decode c9_M_lower 127 = .ok (.lload 6, 2) := by decide +kernel
theorem d_M_lower_129 : decode c9_M_lower 129 = .ok (.lload 8, 2) := by decide +kernel
theorem d_M_lower_131 : decode c9_M_lower 131 = .ok (.lsub, 1) := by decide +kernel
theorem d_M_lower_132 : decode c9_M_lower 132 = .ok (.lload 10, 2) := by decide +kernel
theorem d_M_lower_134 : decode c9_M_lower 134 = .ok (.iload_n 3, 1) := by decide +kernel
theorem d_M_lower_135 : decode c9_M_lower 135 = .ok (.i2l, 1) := by decide +kernel
theorem d_M_lower_136 : decode c9_M_lower 136 = .ok (.lmul, 1) := by decide +kernel
theorem d_M_lower_137 : decode c9_M_lower 137 = .ok (.lsub, 1) := by decide +kernel
theorem d_M_lower_138 : decode c9_M_lower 138 = .ok (.iload_n 3, 1) := by decide +kernel
theorem d_M_lower_139 : decode c9_M_lower 139 = .ok (.i2l, 1) := by decide +kernel
theorem d_M_lower_140 : decode c9_M_lower 140 = .ok (.ldiv, 1) := by decide +kernel
theorem d_M_lower_141 : decode c9_M_lower 141 = .ok (.aload_n 0, 1) := by decide +kernel
theorem d_M_lower_142 : decode c9_M_lower 142 = .ok (.getfield 17, 3) := by decide +kernel
theorem d_M_lower_145 : decode c9_M_lower 145 = .ok (.iload_n 2, 1) := by decide +kernel
theorem d_M_lower_146 : decode c9_M_lower 146 = .ok (.iconst 1, 1) := by decide +kernel
theorem d_M_lower_147 : decode c9_M_lower 147 = .ok (.isub, 1) := by decide +kernel
theorem d_M_lower_148 : decode c9_M_lower 148 = .ok (.laload, 1) := by decide +kernel
theorem d_M_lower_149 : decode c9_M_lower 149 = .ok (.invokestatic 88, 3) := by decide +kernel
theorem d_M_lower_152 : decode c9_M_lower 152 = .ok (.lastore, 1) := by decide +kernel
theorem d_M_lower_153 : decode c9_M_lower 153 = .ok (.iinc 4 1, 3) := by decide +kernel
theorem d_M_lower_156 : decode c9_M_lower 156 = .ok (.goto (-133), 3) := by decide +kernel
theorem d_M_lower_159 : decode c9_M_lower 159 = .ok (.aload_n 0, 1) := by decide +kernel
theorem d_M_lower_160 : decode c9_M_lower 160 = .ok (.getfield 57, 3) := by decide +kernel
theorem d_M_lower_163 : decode c9_M_lower 163 = .ok (.iload_n 1, 1) := by decide +kernel
theorem d_M_lower_164 : decode c9_M_lower 164 = .ok (.aload_n 0, 1) := by decide +kernel
theorem d_M_lower_165 : decode c9_M_lower 165 = .ok (.getfield 57, 3) := by decide +kernel
theorem d_M_lower_168 : decode c9_M_lower 168 = .ok (.iload_n 1, 1) := by decide +kernel
theorem d_M_lower_169 : decode c9_M_lower 169 = .ok (.laload, 1) := by decide +kernel
theorem d_M_lower_170 : decode c9_M_lower 170 = .ok (.iload_n 3, 1) := by decide +kernel
theorem d_M_lower_171 : decode c9_M_lower 171 = .ok (.i2l, 1) := by decide +kernel
theorem d_M_lower_172 : decode c9_M_lower 172 = .ok (.ldiv, 1) := by decide +kernel
theorem d_M_lower_173 : decode c9_M_lower 173 = .ok (.ldc2_w 126, 3) := by decide +kernel
theorem d_M_lower_176 : decode c9_M_lower 176 = .ok (.ladd, 1) := by decide +kernel
theorem d_M_lower_177 : decode c9_M_lower 177 = .ok (.lastore, 1) := by decide +kernel
theorem d_M_lower_178 : decode c9_M_lower 178 = .ok (.aload_n 0, 1) := by decide +kernel
theorem d_M_lower_179 : decode c9_M_lower 179 = .ok (.getfield 54, 3) := by decide +kernel
theorem d_M_lower_182 : decode c9_M_lower 182 = .ok (.iload_n 1, 1) := by decide +kernel
theorem d_M_lower_183 : decode c9_M_lower 183 = .ok (.iload_n 2, 1) := by decide +kernel
theorem d_M_lower_184 : decode c9_M_lower 184 = .ok (.iconst 1, 1) := by decide +kernel
theorem d_M_lower_185 : decode c9_M_lower 185 = .ok (.isub, 1) := by decide +kernel
theorem d_M_lower_186 : decode c9_M_lower 186 = .ok (.iastore, 1) := by decide +kernel
theorem d_M_lower_187 : decode c9_M_lower 187 = .ok (.aload_n 0, 1) := by decide +kernel
theorem d_M_lower_188 : decode c9_M_lower 188 = .ok (.aload_n 0, 1) := by decide +kernel
theorem d_M_lower_189 : decode c9_M_lower 189 = .ok (.getfield 57, 3) := by decide +kernel
theorem d_M_lower_192 : decode c9_M_lower 192 = .ok (.iload_n 1, 1) := by decide +kernel
theorem d_M_lower_193 : decode c9_M_lower 193 = .ok (.laload, 1) := by decide +kernel
theorem d_M_lower_194 : decode c9_M_lower 194 = .ok (.iload_n 2, 1) := by decide +kernel
theorem d_M_lower_195 : decode c9_M_lower 195 = .ok (.iconst 1, 1) := by decide +kernel
theorem d_M_lower_196 : decode c9_M_lower 196 = .ok (.isub, 1) := by decide +kernel
theorem d_M_lower_197 : decode c9_M_lower 197 = .ok (.invokevirtual 128, 3) := by decide +kernel
theorem d_M_lower_200 : decode c9_M_lower 200 = .ok (.ifCond .ne 7, 3) := by decide +kernel
theorem d_M_lower_203 : decode c9_M_lower 203 = .ok (.iconst 1, 1) := by decide +kernel
theorem d_M_lower_204 : decode c9_M_lower 204 = .ok (.goto 4, 3) := by decide +kernel
theorem d_M_lower_207 : decode c9_M_lower 207 = .ok (.iconst 0, 1) := by decide +kernel
theorem d_M_lower_208 : decode c9_M_lower 208 = .ok (.ireturn, 1) := by decide +kernel
theorem d_M_addProduct_0 : decode c9_M_addProduct 0 = .ok (.iconst 0, 1) := by decide +kernel
theorem d_M_addProduct_1 : decode c9_M_addProduct 1 = .ok (.istore 6, 2) := by decide +kernel
theorem d_M_addProduct_3 : decode c9_M_addProduct 3 = .ok (.iload 6, 2) := by decide +kernel
theorem d_M_addProduct_5 : decode c9_M_addProduct 5 = .ok (.bipush 8, 2) := by decide +kernel
theorem d_M_addProduct_7 : decode c9_M_addProduct 7 = .ok (.if_icmp .ge 119, 3) := by decide +kernel
theorem d_M_addProduct_10 : decode c9_M_addProduct 10 = .ok (.iconst 0, 1) := by decide +kernel
theorem d_M_addProduct_11 : decode c9_M_addProduct 11 = .ok (.istore 7, 2) := by decide +kernel
theorem d_M_addProduct_13 : decode c9_M_addProduct 13 = .ok (.iload 7, 2) := by decide +kernel
theorem d_M_addProduct_15 : decode c9_M_addProduct 15 = .ok (.bipush 8, 2) := by decide +kernel
theorem d_M_addProduct_17 : decode c9_M_addProduct 17 = .ok (.if_icmp .ge 103, 3) := by decide +kernel
theorem d_M_addProduct_20 : decode c9_M_addProduct 20 = .ok (.aload_n 0, 1) := by decide +kernel
theorem d_M_addProduct_21 : decode c9_M_addProduct 21 = .ok (.getfield 7, 3) := by decide +kernel
theorem d_M_addProduct_24 : decode c9_M_addProduct 24 = .ok (.bipush 8, 2) := by decide +kernel
theorem d_M_addProduct_26 : decode c9_M_addProduct 26 = .ok (.iload_n 2, 1) := by decide +kernel
theorem d_M_addProduct_27 : decode c9_M_addProduct 27 = .ok (.imul, 1) := by decide +kernel
theorem d_M_addProduct_28 : decode c9_M_addProduct 28 = .ok (.iload 6, 2) := by decide +kernel
theorem d_M_addProduct_30 : decode c9_M_addProduct 30 = .ok (.iadd, 1) := by decide +kernel
theorem d_M_addProduct_31 : decode c9_M_addProduct 31 = .ok (.laload, 1) := by decide +kernel
theorem d_M_addProduct_32 : decode c9_M_addProduct 32 = .ok (.aload_n 0, 1) := by decide +kernel
theorem d_M_addProduct_33 : decode c9_M_addProduct 33 = .ok (.getfield 7, 3) := by decide +kernel
theorem d_M_addProduct_36 : decode c9_M_addProduct 36 = .ok (.bipush 8, 2) := by decide +kernel
theorem d_M_addProduct_38 : decode c9_M_addProduct 38 = .ok (.iload_n 3, 1) := by decide +kernel
theorem d_M_addProduct_39 : decode c9_M_addProduct 39 = .ok (.imul, 1) := by decide +kernel
theorem d_M_addProduct_40 : decode c9_M_addProduct 40 = .ok (.iload 7, 2) := by decide +kernel
theorem d_M_addProduct_42 : decode c9_M_addProduct 42 = .ok (.iadd, 1) := by decide +kernel
theorem d_M_addProduct_43 : decode c9_M_addProduct 43 = .ok (.laload, 1) := by decide +kernel
theorem d_M_addProduct_44 : decode c9_M_addProduct 44 = .ok (.lload 4, 2) := by decide +kernel
theorem d_M_addProduct_46 : decode c9_M_addProduct 46 = .ok (.lrem, 1) := by decide +kernel
theorem d_M_addProduct_47 : decode c9_M_addProduct 47 = .ok (.lload 4, 2) := by decide +kernel
theorem d_M_addProduct_49 : decode c9_M_addProduct 49 = .ok (.invokestatic 84, 3) := by decide +kernel
theorem d_M_addProduct_52 : decode c9_M_addProduct 52 = .ok (.lstore 8, 2) := by decide +kernel
theorem d_M_addProduct_54 : decode c9_M_addProduct 54 = .ok (.bipush 8, 2) := by decide +kernel
theorem d_M_addProduct_56 : decode c9_M_addProduct 56 = .ok (.iload_n 1, 1) := by decide +kernel
theorem d_M_addProduct_57 : decode c9_M_addProduct 57 = .ok (.imul, 1) := by decide +kernel
theorem d_M_addProduct_58 : decode c9_M_addProduct 58 = .ok (.iload 6, 2) := by decide +kernel
theorem d_M_addProduct_60 : decode c9_M_addProduct 60 = .ok (.iload 7, 2) := by decide +kernel
theorem d_M_addProduct_62 : decode c9_M_addProduct 62 = .ok (.iadd, 1) := by decide +kernel
theorem d_M_addProduct_63 : decode c9_M_addProduct 63 = .ok (.bipush 7, 2) := by decide +kernel
theorem d_M_addProduct_65 : decode c9_M_addProduct 65 = .ok (.iand, 1) := by decide +kernel
theorem d_M_addProduct_66 : decode c9_M_addProduct 66 = .ok (.iadd, 1) := by decide +kernel
theorem d_M_addProduct_67 : decode c9_M_addProduct 67 = .ok (.istore 10, 2) := by decide +kernel
theorem d_M_addProduct_69 : decode c9_M_addProduct 69 = .ok (.aload_n 0, 1) := by decide +kernel
theorem d_M_addProduct_70 : decode c9_M_addProduct 70 = .ok (.getfield 7, 3) := by decide +kernel
theorem d_M_addProduct_73 : decode c9_M_addProduct 73 = .ok (.iload 10, 2) := by decide +kernel
theorem d_M_addProduct_75 : decode c9_M_addProduct 75 = .ok (.iload 6, 2) := by decide +kernel
theorem d_M_addProduct_77 : decode c9_M_addProduct 77 = .ok (.iload 7, 2) := by decide +kernel
theorem d_M_addProduct_79 : decode c9_M_addProduct 79 = .ok (.iadd, 1) := by decide +kernel
theorem d_M_addProduct_80 : decode c9_M_addProduct 80 = .ok (.bipush 8, 2) := by decide +kernel
theorem d_M_addProduct_82 : decode c9_M_addProduct 82 = .ok (.if_icmp .ge 16, 3) := by decide +kernel
theorem d_M_addProduct_85 : decode c9_M_addProduct 85 = .ok (.aload_n 0, 1) := by decide +kernel
theorem d_M_addProduct_86 : decode c9_M_addProduct 86 = .ok (.getfield 7, 3) := by decide +kernel
theorem d_M_addProduct_89 : decode c9_M_addProduct 89 = .ok (.iload 10, 2) := by decide +kernel
theorem d_M_addProduct_91 : decode c9_M_addProduct 91 = .ok (.laload, 1) := by decide +kernel
theorem d_M_addProduct_92 : decode c9_M_addProduct 92 = .ok (.lload 8, 2) := by decide +kernel
theorem d_M_addProduct_94 : decode c9_M_addProduct 94 = .ok (.ladd, 1) := by decide +kernel
theorem d_M_addProduct_95 : decode c9_M_addProduct 95 = .ok (.goto 13, 3) := by decide +kernel
theorem d_M_addProduct_98 : decode c9_M_addProduct 98 = .ok (.aload_n 0, 1) := by decide +kernel
theorem d_M_addProduct_99 : decode c9_M_addProduct 99 = .ok (.getfield 7, 3) := by decide +kernel
theorem d_M_addProduct_102 : decode c9_M_addProduct 102 = .ok (.iload 10, 2) := by decide +kernel
theorem d_M_addProduct_104 : decode c9_M_addProduct 104 = .ok (.laload, 1) := by decide +kernel
theorem d_M_addProduct_105 : decode c9_M_addProduct 105 = .ok (.lload 8, 2) := by decide +kernel
theorem d_M_addProduct_107 : decode c9_M_addProduct 107 = .ok (.lsub, 1) := by decide +kernel
theorem d_M_addProduct_108 : decode c9_M_addProduct 108 = .ok (.lload 4, 2) := by decide +kernel
theorem d_M_addProduct_110 : decode c9_M_addProduct 110 = .ok (.invokestatic 88, 3) := by decide +kernel
theorem d_M_addProduct_113 : decode c9_M_addProduct 113 = .ok (.lastore, 1) := by decide +kernel
theorem d_M_addProduct_114 : decode c9_M_addProduct 114 = .ok (.iinc 7 1, 3) := by decide +kernel
theorem d_M_addProduct_117 : decode c9_M_addProduct 117 = .ok (.goto (-104), 3) := by decide +kernel
theorem d_M_addProduct_120 : decode c9_M_addProduct 120 = .ok (.iinc 6 1, 3) := by decide +kernel
theorem d_M_addProduct_123 : decode c9_M_addProduct 123 = .ok (.goto (-120), 3) := by decide +kernel
theorem d_M_addProduct_126 : decode c9_M_addProduct 126 = .ok (.return_, 1) := by decide +kernel
theorem d_M_combine_0 : decode c9_M_combine 0 = .ok (.aload_n 0, 1) := by decide +kernel
theorem d_M_combine_1 : decode c9_M_combine 1 = .ok (.aload_n 0, 1) := by decide +kernel
theorem d_M_combine_2 : decode c9_M_combine 2 = .ok (.getfield 35, 3) := by decide +kernel
theorem d_M_combine_5 : decode c9_M_combine 5 = .ok (.iload_n 1, 1) := by decide +kernel
theorem d_M_combine_6 : decode c9_M_combine 6 = .ok (.iaload, 1) := by decide +kernel
theorem d_M_combine_7 : decode c9_M_combine 7 = .ok (.aload_n 0, 1) := by decide +kernel
theorem d_M_combine_8 : decode c9_M_combine 8 = .ok (.getfield 38, 3) := by decide +kernel
theorem d_M_combine_11 : decode c9_M_combine 11 = .ok (.iload_n 1, 1) := by decide +kernel
theorem d_M_combine_12 : decode c9_M_combine 12 = .ok (.iaload, 1) := by decide +kernel
theorem d_M_combine_13 : decode c9_M_combine 13 = .ok (.invokevirtual 155, 3) := by decide +kernel
theorem d_M_combine_16 : decode c9_M_combine 16 = .ok (.ifCond .ne 5, 3) := by decide +kernel
theorem d_M_combine_19 : decode c9_M_combine 19 = .ok (.iconst 0, 1) := by decide +kernel
theorem d_M_combine_20 : decode c9_M_combine 20 = .ok (.ireturn, 1) := by decide +kernel
theorem d_M_combine_21 : decode c9_M_combine 21 = .ok (.aload_n 0, 1) := by decide +kernel
theorem d_M_combine_22 : decode c9_M_combine 22 = .ok (.getfield 54, 3) := by decide +kernel
theorem d_M_combine_25 : decode c9_M_combine 25 = .ok (.iconst 0, 1) := by decide +kernel
theorem d_M_combine_26 : decode c9_M_combine 26 = .ok (.iaload, 1) := by decide +kernel
theorem d_M_combine_27 : decode c9_M_combine 27 = .ok (.istore_n 3, 1) := by decide +kernel
theorem d_M_combine_28 : decode c9_M_combine 28 = .ok (.iconst 0, 1) := by decide +kernel
theorem d_M_combine_29 : decode c9_M_combine 29 = .ok (.istore 4, 2) := by decide +kernel
theorem d_M_combine_31 : decode c9_M_combine 31 = .ok (.iload 4, 2) := by decide +kernel
theorem d_M_combine_33 : decode c9_M_combine 33 = .ok (.bipush 16, 2) := by decide +kernel
theorem d_M_combine_35 : decode c9_M_combine 35 = .ok (.if_icmp .ge 61, 3) := by decide +kernel
theorem d_M_combine_38 : decode c9_M_combine 38 = .ok (.aload_n 0, 1) := by decide +kernel
theorem d_M_combine_39 : decode c9_M_combine 39 = .ok (.getfield 7, 3) := by decide +kernel
theorem d_M_combine_42 : decode c9_M_combine 42 = .ok (.bipush 8, 2) := by decide +kernel
theorem d_M_combine_44 : decode c9_M_combine 44 = .ok (.bipush 8, 2) := by decide +kernel
theorem d_M_combine_46 : decode c9_M_combine 46 = .ok (.iconst 2, 1) := by decide +kernel
theorem d_M_combine_47 : decode c9_M_combine 47 = .ok (.iload_n 1, 1) := by decide +kernel
theorem d_M_combine_48 : decode c9_M_combine 48 = .ok (.imul, 1) := by decide +kernel
theorem d_M_combine_49 : decode c9_M_combine 49 = .ok (.iadd, 1) := by decide +kernel
theorem d_M_combine_50 : decode c9_M_combine 50 = .ok (.imul, 1) := by decide +kernel
theorem d_M_combine_51 : decode c9_M_combine 51 = .ok (.iload 4, 2) := by decide +kernel
theorem d_M_combine_53 : decode c9_M_combine 53 = .ok (.iadd, 1) := by decide +kernel
theorem d_M_combine_54 : decode c9_M_combine 54 = .ok (.aload_n 0, 1) := by decide +kernel
theorem d_M_combine_55 : decode c9_M_combine 55 = .ok (.getfield 7, 3) := by decide +kernel
theorem d_M_combine_58 : decode c9_M_combine 58 = .ok (.sipush 448, 3) := by decide +kernel
theorem d_M_combine_61 : decode c9_M_combine 61 = .ok (.iload 4, 2) := by decide +kernel
theorem d_M_combine_63 : decode c9_M_combine 63 = .ok (.iadd, 1) := by decide +kernel
theorem d_M_combine_64 : decode c9_M_combine 64 = .ok (.laload, 1) := by decide +kernel
theorem d_M_combine_65 : decode c9_M_combine 65 = .ok (.iload_n 2, 1) := by decide +kernel
theorem d_M_combine_66 : decode c9_M_combine 66 = .ok (.i2l, 1) := by decide +kernel
theorem d_M_combine_67 : decode c9_M_combine 67 = .ok (.aload_n 0, 1) := by decide +kernel
theorem d_M_combine_68 : decode c9_M_combine 68 = .ok (.getfield 7, 3) := by decide +kernel
theorem d_M_combine_71 : decode c9_M_combine 71 = .ok (.sipush 464, 3) := by decide +kernel
theorem d_M_combine_74 : decode c9_M_combine 74 = .ok (.iload 4, 2) := by decide +kernel
theorem d_M_combine_76 : decode c9_M_combine 76 = .ok (.iadd, 1) := by decide +kernel
theorem d_M_combine_77 : decode c9_M_combine 77 = .ok (.laload, 1) := by decide +kernel
theorem d_M_combine_78 : decode c9_M_combine 78 = .ok (.lmul, 1) := by decide +kernel
theorem d_M_combine_79 : decode c9_M_combine 79 = .ok (.ladd, 1) := by decide +kernel
theorem d_M_combine_80 : decode c9_M_combine 80 = .ok (.aload_n 0, 1) := by decide +kernel
theorem d_M_combine_81 : decode c9_M_combine 81 = .ok (.getfield 17, 3) := by decide +kernel
theorem d_M_combine_84 : decode c9_M_combine 84 = .ok (.iload_n 3, 1) := by decide +kernel
theorem d_M_combine_85 : decode c9_M_combine 85 = .ok (.laload, 1) := by decide +kernel
theorem d_M_combine_86 : decode c9_M_combine 86 = .ok (.invokestatic 88, 3) := by decide +kernel
theorem d_M_combine_89 : decode c9_M_combine 89 = .ok (.lastore, 1) := by decide +kernel
theorem d_M_combine_90 : decode c9_M_combine 90 = .ok (.iinc 4 1, 3) := by decide +kernel
theorem d_M_combine_93 : decode c9_M_combine 93 = .ok (.goto (-62), 3) := by decide +kernel
theorem d_M_combine_96 : decode c9_M_combine 96 = .ok (.aload_n 0, 1) := by decide +kernel
theorem d_M_combine_97 : decode c9_M_combine 97 = .ok (.iload_n 1, 1) := by decide +kernel
theorem d_M_combine_98 : decode c9_M_combine 98 = .ok (.iload_n 3, 1) := by decide +kernel
theorem d_M_combine_99 : decode c9_M_combine 99 = .ok (.aload_n 0, 1) := by decide +kernel
theorem d_M_combine_100 : decode c9_M_combine 100 = .ok (.getfield 57, 3) := by decide +kernel
theorem d_M_combine_103 : decode c9_M_combine 103 = .ok (.iconst 0, 1) := by decide +kernel
theorem d_M_combine_104 : decode c9_M_combine 104 = .ok (.laload, 1) := by decide +kernel
theorem d_M_combine_105 : decode c9_M_combine 105 = .ok (.aload_n 0, 1) := by decide +kernel
theorem d_M_combine_106 : decode c9_M_combine 106 = .ok (.getfield 57, 3) := by decide +kernel
theorem d_M_combine_109 : decode c9_M_combine 109 = .ok (.iconst 1, 1) := by decide +kernel
theorem d_M_combine_110 : decode c9_M_combine 110 = .ok (.laload, 1) := by decide +kernel
theorem d_M_combine_111 : decode c9_M_combine 111 = .ok (.ladd, 1) := by decide +kernel
theorem d_M_combine_112 : decode c9_M_combine 112 = .ok (.invokevirtual 149, 3) := by decide +kernel
theorem d_M_combine_115 : decode c9_M_combine 115 = .ok (.ireturn, 1) := by decide +kernel
theorem d_M_level_0 : decode c9_M_level 0 = .ok (.aload_n 0, 1) := by decide +kernel
theorem d_M_level_1 : decode c9_M_level 1 = .ok (.iload_n 1, 1) := by decide +kernel
theorem d_M_level_2 : decode c9_M_level 2 = .ok (.invokevirtual 169, 3) := by decide +kernel
theorem d_M_level_5 : decode c9_M_level 5 = .ok (.ifCond .eq 12, 3) := by decide +kernel
theorem d_M_level_8 : decode c9_M_level 8 = .ok (.aload_n 0, 1) := by decide +kernel
theorem d_M_level_9 : decode c9_M_level 9 = .ok (.getfield 48, 3) := by decide +kernel
theorem d_M_level_12 : decode c9_M_level 12 = .ok (.iload_n 1, 1) := by decide +kernel
theorem d_M_level_13 : decode c9_M_level 13 = .ok (.iaload, 1) := by decide +kernel
theorem d_M_level_14 : decode c9_M_level 14 = .ok (.goto 4, 3) := by decide +kernel
theorem d_M_level_17 : decode c9_M_level 17 = .ok (.iconst (-1), 1) := by decide +kernel
theorem d_M_level_18 : decode c9_M_level 18 = .ok (.ireturn, 1) := by decide +kernel
theorem d_M_valued_0 : decode c9_M_valued 0 = .ok (.aload_n 0, 1) := by decide +kernel
theorem d_M_valued_1 : decode c9_M_valued 1 = .ok (.iload_n 1, 1) := by decide +kernel
theorem d_M_valued_2 : decode c9_M_valued 2 = .ok (.invokevirtual 113, 3) := by decide +kernel
theorem d_M_valued_5 : decode c9_M_valued 5 = .ok (.ifCond .eq 16, 3) := by decide +kernel
theorem d_M_valued_8 : decode c9_M_valued 8 = .ok (.aload_n 0, 1) := by decide +kernel
theorem d_M_valued_9 : decode c9_M_valued 9 = .ok (.getfield 44, 3) := by decide +kernel
theorem d_M_valued_12 : decode c9_M_valued 12 = .ok (.iload_n 1, 1) := by decide +kernel
theorem d_M_valued_13 : decode c9_M_valued 13 = .ok (.baload, 1) := by decide +kernel
theorem d_M_valued_14 : decode c9_M_valued 14 = .ok (.ifCond .eq 7, 3) := by decide +kernel
theorem d_M_valued_17 : decode c9_M_valued 17 = .ok (.iconst 1, 1) := by decide +kernel
theorem d_M_valued_18 : decode c9_M_valued 18 = .ok (.goto 4, 3) := by decide +kernel
theorem d_M_valued_21 : decode c9_M_valued 21 = .ok (.iconst 0, 1) := by decide +kernel
theorem d_M_valued_22 : decode c9_M_valued 22 = .ok (.ireturn, 1) := by decide +kernel
theorem d_M_meter_0 : decode c9_M_meter 0 = .ok (.aload_n 0, 1) := by decide +kernel
theorem d_M_meter_1 : decode c9_M_meter 1 = .ok (.iload_n 1, 1) := by decide +kernel
theorem d_M_meter_2 : decode c9_M_meter 2 = .ok (.invokevirtual 169, 3) := by decide +kernel
theorem d_M_meter_5 : decode c9_M_meter 5 = .ok (.ifCond .eq 12, 3) := by decide +kernel
theorem d_M_meter_8 : decode c9_M_meter 8 = .ok (.aload_n 0, 1) := by decide +kernel
theorem d_M_meter_9 : decode c9_M_meter 9 = .ok (.getfield 51, 3) := by decide +kernel
theorem d_M_meter_12 : decode c9_M_meter 12 = .ok (.iload_n 1, 1) := by decide +kernel
theorem d_M_meter_13 : decode c9_M_meter 13 = .ok (.laload, 1) := by decide +kernel
theorem d_M_meter_14 : decode c9_M_meter 14 = .ok (.goto 6, 3) := by decide +kernel
theorem d_M_meter_17 : decode c9_M_meter 17 = .ok (.ldc2_w 172, 3) := by decide +kernel
theorem d_M_meter_20 : decode c9_M_meter 20 = .ok (.lreturn, 1) := by decide +kernel
theorem d_M_noise_0 : decode c9_M_noise 0 = .ok (.aload_n 0, 1) := by decide +kernel
theorem d_M_noise_1 : decode c9_M_noise 1 = .ok (.iload_n 1, 1) := by decide +kernel
theorem d_M_noise_2 : decode c9_M_noise 2 = .ok (.invokevirtual 169, 3) := by decide +kernel
theorem d_M_noise_5 : decode c9_M_noise 5 = .ok (.ifCond .ne 7, 3) := by decide +kernel
theorem d_M_noise_8 : decode c9_M_noise 8 = .ok (.ldc2_w 172, 3) := by decide +kernel
theorem d_M_noise_11 : decode c9_M_noise 11 = .ok (.lreturn, 1) := by decide +kernel
theorem d_M_noise_12 : decode c9_M_noise 12 = .ok (.aload_n 0, 1) := by decide +kernel
theorem d_M_noise_13 : decode c9_M_noise 13 = .ok (.iload_n 1, 1) := by decide +kernel
theorem d_M_noise_14 : decode c9_M_noise 14 = .ok (.invokevirtual 174, 3) := by decide +kernel
theorem d_M_noise_17 : decode c9_M_noise 17 = .ok (.lconst 0, 1) := by decide +kernel
theorem d_M_noise_18 : decode c9_M_noise 18 = .ok (.lstore_n 2, 1) := by decide +kernel
theorem d_M_noise_19 : decode c9_M_noise 19 = .ok (.iconst 0, 1) := by decide +kernel
theorem d_M_noise_20 : decode c9_M_noise 20 = .ok (.istore 4, 2) := by decide +kernel
theorem d_M_noise_22 : decode c9_M_noise 22 = .ok (.iload 4, 2) := by decide +kernel
theorem d_M_noise_24 : decode c9_M_noise 24 = .ok (.bipush 8, 2) := by decide +kernel
theorem d_M_noise_26 : decode c9_M_noise 26 = .ok (.if_icmp .ge 55, 3) := by decide +kernel
theorem d_M_noise_29 : decode c9_M_noise 29 = .ok (.aload_n 0, 1) := by decide +kernel
theorem d_M_noise_30 : decode c9_M_noise 30 = .ok (.getfield 60, 3) := by decide +kernel
theorem d_M_noise_33 : decode c9_M_noise 33 = .ok (.iload 4, 2) := by decide +kernel
theorem d_M_noise_35 : decode c9_M_noise 35 = .ok (.laload, 1) := by decide +kernel
theorem d_M_noise_36 : decode c9_M_noise 36 = .ok (.lconst 0, 1) := by decide +kernel
theorem d_M_noise_37 : decode c9_M_noise 37 = .ok (.lcmp, 1) := by decide +kernel
theorem d_M_noise_38 : decode c9_M_noise 38 = .ok (.ifCond .ge 14, 3) := by decide +kernel
theorem d_M_noise_41 : decode c9_M_noise 41 = .ok (.aload_n 0, 1) := by decide +kernel
theorem d_M_noise_42 : decode c9_M_noise 42 = .ok (.getfield 60, 3) := by decide +kernel
theorem d_M_noise_45 : decode c9_M_noise 45 = .ok (.iload 4, 2) := by decide +kernel
theorem d_M_noise_47 : decode c9_M_noise 47 = .ok (.laload, 1) := by decide +kernel
theorem d_M_noise_48 : decode c9_M_noise 48 = .ok (.lneg, 1) := by decide +kernel
theorem d_M_noise_49 : decode c9_M_noise 49 = .ok (.goto 10, 3) := by decide +kernel
theorem d_M_noise_52 : decode c9_M_noise 52 = .ok (.aload_n 0, 1) := by decide +kernel
theorem d_M_noise_53 : decode c9_M_noise 53 = .ok (.getfield 60, 3) := by decide +kernel
theorem d_M_noise_56 : decode c9_M_noise 56 = .ok (.iload 4, 2) := by decide +kernel
theorem d_M_noise_58 : decode c9_M_noise 58 = .ok (.laload, 1) := by decide +kernel
theorem d_M_noise_59 : decode c9_M_noise 59 = .ok (.lstore 5, 2) := by decide +kernel
theorem d_M_noise_61 : decode c9_M_noise 61 = .ok (.lload 5, 2) := by decide +kernel
theorem d_M_noise_63 : decode c9_M_noise 63 = .ok (.lload_n 2, 1) := by decide +kernel
theorem d_M_noise_64 : decode c9_M_noise 64 = .ok (.lcmp, 1) := by decide +kernel
theorem d_M_noise_65 : decode c9_M_noise 65 = .ok (.ifCond .le 8, 3) := by decide +kernel
theorem d_M_noise_68 : decode c9_M_noise 68 = .ok (.lload 5, 2) := by decide +kernel
theorem d_M_noise_70 : decode c9_M_noise 70 = .ok (.goto 4, 3) := by decide +kernel
theorem d_M_noise_73 : decode c9_M_noise 73 = .ok (.lload_n 2, 1) := by decide +kernel
theorem d_M_noise_74 : decode c9_M_noise 74 = .ok (.lstore_n 2, 1) := by decide +kernel
theorem d_M_noise_75 : decode c9_M_noise 75 = .ok (.iinc 4 1, 3) := by decide +kernel
theorem d_M_noise_78 : decode c9_M_noise 78 = .ok (.goto (-56), 3) := by decide +kernel
theorem d_M_noise_81 : decode c9_M_noise 81 = .ok (.lload_n 2, 1) := by decide +kernel
theorem d_M_noise_82 : decode c9_M_noise 82 = .ok (.lreturn, 1) := by decide +kernel
theorem d_M_open_0 : decode c9_M_open 0 = .ok (.aload_n 0, 1) := by decide +kernel
theorem d_M_open_1 : decode c9_M_open 1 = .ok (.getfield 17, 3) := by decide +kernel
theorem d_M_open_4 : decode c9_M_open 4 = .ok (.aload_n 0, 1) := by decide +kernel
theorem d_M_open_5 : decode c9_M_open 5 = .ok (.getfield 48, 3) := by decide +kernel
theorem d_M_open_8 : decode c9_M_open 8 = .ok (.iload_n 1, 1) := by decide +kernel
theorem d_M_open_9 : decode c9_M_open 9 = .ok (.iaload, 1) := by decide +kernel
theorem d_M_open_10 : decode c9_M_open 10 = .ok (.laload, 1) := by decide +kernel
theorem d_M_open_11 : decode c9_M_open 11 = .ok (.lstore_n 2, 1) := by decide +kernel
theorem d_M_open_12 : decode c9_M_open 12 = .ok (.iconst 0, 1) := by decide +kernel
theorem d_M_open_13 : decode c9_M_open 13 = .ok (.istore 4, 2) := by decide +kernel
theorem d_M_open_15 : decode c9_M_open 15 = .ok (.iload 4, 2) := by decide +kernel
theorem d_M_open_17 : decode c9_M_open 17 = .ok (.bipush 8, 2) := by decide +kernel
theorem d_M_open_19 : decode c9_M_open 19 = .ok (.if_icmp .ge 75, 3) := by decide +kernel
theorem d_M_open_22 : decode c9_M_open 22 = .ok (.aload_n 0, 1) := by decide +kernel
theorem d_M_open_23 : decode c9_M_open 23 = .ok (.getfield 7, 3) := by decide +kernel
theorem d_M_open_26 : decode c9_M_open 26 = .ok (.bipush 8, 2) := by decide +kernel
theorem d_M_open_28 : decode c9_M_open 28 = .ok (.bipush 8, 2) := by decide +kernel
theorem d_M_open_30 : decode c9_M_open 30 = .ok (.iconst 2, 1) := by decide +kernel
theorem d_M_open_31 : decode c9_M_open 31 = .ok (.iload_n 1, 1) := by decide +kernel
theorem d_M_open_32 : decode c9_M_open 32 = .ok (.imul, 1) := by decide +kernel
theorem d_M_open_33 : decode c9_M_open 33 = .ok (.iadd, 1) := by decide +kernel
theorem d_M_open_34 : decode c9_M_open 34 = .ok (.imul, 1) := by decide +kernel
theorem d_M_open_35 : decode c9_M_open 35 = .ok (.iload 4, 2) := by decide +kernel
theorem d_M_open_37 : decode c9_M_open 37 = .ok (.iadd, 1) := by decide +kernel
theorem d_M_open_38 : decode c9_M_open 38 = .ok (.laload, 1) := by decide +kernel
theorem d_M_open_39 : decode c9_M_open 39 = .ok (.aload_n 0, 1) := by decide +kernel
theorem d_M_open_40 : decode c9_M_open 40 = .ok (.bipush 8, 2) := by decide +kernel
theorem d_M_open_42 : decode c9_M_open 42 = .ok (.iconst 2, 1) := by decide +kernel
theorem d_M_open_43 : decode c9_M_open 43 = .ok (.iload_n 1, 1) := by decide +kernel
theorem d_M_open_44 : decode c9_M_open 44 = .ok (.imul, 1) := by decide +kernel
theorem d_M_open_45 : decode c9_M_open 45 = .ok (.iadd, 1) := by decide +kernel
theorem d_M_open_46 : decode c9_M_open 46 = .ok (.iconst 1, 1) := by decide +kernel
theorem d_M_open_47 : decode c9_M_open 47 = .ok (.iadd, 1) := by decide +kernel
theorem d_M_open_48 : decode c9_M_open 48 = .ok (.iload 4, 2) := by decide +kernel
theorem d_M_open_50 : decode c9_M_open 50 = .ok (.lload_n 2, 1) := by decide +kernel
theorem d_M_open_51 : decode c9_M_open 51 = .ok (.invokevirtual 92, 3) := by decide +kernel
theorem d_M_open_54 : decode c9_M_open 54 = .ok (.ladd, 1) := by decide +kernel
theorem d_M_open_55 : decode c9_M_open 55 = .ok (.lload_n 2, 1) := by decide +kernel
theorem d_M_open_56 : decode c9_M_open 56 = .ok (.lrem, 1) := by decide +kernel
theorem d_M_open_57 : decode c9_M_open 57 = .ok (.lstore 5, 2) := by decide +kernel
theorem d_M_open_59 : decode c9_M_open 59 = .ok (.aload_n 0, 1) := by decide +kernel
theorem d_M_open_60 : decode c9_M_open 60 = .ok (.getfield 60, 3) := by decide +kernel
theorem d_M_open_63 : decode c9_M_open 63 = .ok (.iload 4, 2) := by decide +kernel
theorem d_M_open_65 : decode c9_M_open 65 = .ok (.lload 5, 2) := by decide +kernel
theorem d_M_open_67 : decode c9_M_open 67 = .ok (.lload_n 2, 1) := by decide +kernel
theorem d_M_open_68 : decode c9_M_open 68 = .ok (.lconst 1, 1) := by decide +kernel
theorem d_M_open_69 : decode c9_M_open 69 = .ok (.lsub, 1) := by decide +kernel
theorem d_M_open_70 : decode c9_M_open 70 = .ok (.ldc2_w 120, 3) := by decide +kernel
theorem d_M_open_73 : decode c9_M_open 73 = .ok (.ldiv, 1) := by decide +kernel
theorem d_M_open_74 : decode c9_M_open 74 = .ok (.lcmp, 1) := by decide +kernel
theorem d_M_open_75 : decode c9_M_open 75 = .ok (.ifCond .le 10, 3) := by decide +kernel
theorem d_M_open_78 : decode c9_M_open 78 = .ok (.lload 5, 2) := by decide +kernel
theorem d_M_open_80 : decode c9_M_open 80 = .ok (.lload_n 2, 1) := by decide +kernel
theorem d_M_open_81 : decode c9_M_open 81 = .ok (.lsub, 1) := by decide +kernel
theorem d_M_open_82 : decode c9_M_open 82 = .ok (.goto 5, 3) := by decide +kernel
theorem d_M_open_85 : decode c9_M_open 85 = .ok (.lload 5, 2) := by decide +kernel
theorem d_M_open_87 : decode c9_M_open 87 = .ok (.lastore, 1) := by decide +kernel
theorem d_M_open_88 : decode c9_M_open 88 = .ok (.iinc 4 1, 3) := by decide +kernel
theorem d_M_open_91 : decode c9_M_open 91 = .ok (.goto (-76), 3) := by decide +kernel
theorem d_M_open_94 : decode c9_M_open 94 = .ok (.return_, 1) := by decide +kernel
theorem d_M_part_0 : decode c9_M_part 0 = .ok (.aload_n 0, 1) := by decide +kernel
theorem d_M_part_1 : decode c9_M_part 1 = .ok (.iload_n 1, 1) := by decide +kernel
theorem d_M_part_2 : decode c9_M_part 2 = .ok (.invokevirtual 169, 3) := by decide +kernel
theorem d_M_part_5 : decode c9_M_part 5 = .ok (.ifCond .eq 22, 3) := by decide +kernel
theorem d_M_part_8 : decode c9_M_part 8 = .ok (.iload_n 2, 1) := by decide +kernel
theorem d_M_part_9 : decode c9_M_part 9 = .ok (.ifCond .lt 18, 3) := by decide +kernel
theorem d_M_part_12 : decode c9_M_part 12 = .ok (.iload_n 2, 1) := by decide +kernel
theorem d_M_part_13 : decode c9_M_part 13 = .ok (.iconst 1, 1) := by decide +kernel
theorem d_M_part_14 : decode c9_M_part 14 = .ok (.if_icmp .gt 13, 3) := by decide +kernel
theorem d_M_part_17 : decode c9_M_part 17 = .ok (.iload_n 3, 1) := by decide +kernel
theorem d_M_part_18 : decode c9_M_part 18 = .ok (.ifCond .lt 9, 3) := by decide +kernel
theorem d_M_part_21 : decode c9_M_part 21 = .ok (.iload_n 3, 1) := by decide +kernel
theorem d_M_part_22 : decode c9_M_part 22 = .ok (.bipush 7, 2) := by decide +kernel
theorem d_M_part_24 : decode c9_M_part 24 = .ok (.if_icmp .le 9, 3) := by decide +kernel
theorem d_M_part_27 : decode c9_M_part 27 = .ok (.ldc2_w 172, 3) := by decide +kernel
theorem d_M_part_30 : decode c9_M_part 30 = .ok (.goto 21, 3) := by decide +kernel
theorem d_M_part_33 : decode c9_M_part 33 = .ok (.aload_n 0, 1) := by decide +kernel
theorem d_M_part_34 : decode c9_M_part 34 = .ok (.getfield 7, 3) := by decide +kernel
theorem d_M_part_37 : decode c9_M_part 37 = .ok (.bipush 8, 2) := by decide +kernel
theorem d_M_part_39 : decode c9_M_part 39 = .ok (.bipush 8, 2) := by decide +kernel
theorem d_M_part_41 : decode c9_M_part 41 = .ok (.iconst 2, 1) := by decide +kernel
theorem d_M_part_42 : decode c9_M_part 42 = .ok (.iload_n 1, 1) := by decide +kernel
theorem d_M_part_43 : decode c9_M_part 43 = .ok (.imul, 1) := by decide +kernel
theorem d_M_part_44 : decode c9_M_part 44 = .ok (.iadd, 1) := by decide +kernel
theorem d_M_part_45 : decode c9_M_part 45 = .ok (.iload_n 2, 1) := by decide +kernel
theorem d_M_part_46 : decode c9_M_part 46 = .ok (.iadd, 1) := by decide +kernel
theorem d_M_part_47 : decode c9_M_part 47 = .ok (.imul, 1) := by decide +kernel
theorem d_M_part_48 : decode c9_M_part 48 = .ok (.iload_n 3, 1) := by decide +kernel
theorem d_M_part_49 : decode c9_M_part 49 = .ok (.iadd, 1) := by decide +kernel
theorem d_M_part_50 : decode c9_M_part 50 = .ok (.laload, 1) := by decide +kernel
theorem d_M_part_51 : decode c9_M_part 51 = .ok (.lreturn, 1) := by decide +kernel
theorem d_M_decrypted_0 : decode c9_M_decrypted 0 = .ok (.aload_n 0, 1) := by decide +kernel
theorem d_M_decrypted_1 : decode c9_M_decrypted 1 = .ok (.iload_n 1, 1) := by decide +kernel
theorem d_M_decrypted_2 : decode c9_M_decrypted 2 = .ok (.invokevirtual 169, 3) := by decide +kernel
theorem d_M_decrypted_5 : decode c9_M_decrypted 5 = .ok (.ifCond .eq 13, 3) := by decide +kernel
theorem d_M_decrypted_8 : decode c9_M_decrypted 8 = .ok (.iload_n 2, 1) := by decide +kernel
theorem d_M_decrypted_9 : decode c9_M_decrypted 9 = .ok (.ifCond .lt 9, 3) := by decide +kernel
theorem d_M_decrypted_12 : decode c9_M_decrypted 12 = .ok (.iload_n 2, 1) := by decide +kernel
theorem d_M_decrypted_13 : decode c9_M_decrypted 13 = .ok (.bipush 7, 2) := by decide +kernel
theorem d_M_decrypted_15 : decode c9_M_decrypted 15 = .ok (.if_icmp .le 5, 3) := by decide +kernel
theorem d_M_decrypted_18 : decode c9_M_decrypted 18 = .ok (.iconst (-1), 1) := by decide +kernel
theorem d_M_decrypted_19 : decode c9_M_decrypted 19 = .ok (.ireturn, 1) := by decide +kernel
theorem d_M_decrypted_20 : decode c9_M_decrypted 20 = .ok (.aload_n 0, 1) := by decide +kernel
theorem d_M_decrypted_21 : decode c9_M_decrypted 21 = .ok (.iload_n 1, 1) := by decide +kernel
theorem d_M_decrypted_22 : decode c9_M_decrypted 22 = .ok (.invokevirtual 174, 3) := by decide +kernel
theorem d_M_decrypted_25 : decode c9_M_decrypted 25 = .ok (.aload_n 0, 1) := by decide +kernel
theorem d_M_decrypted_26 : decode c9_M_decrypted 26 = .ok (.getfield 60, 3) := by decide +kernel
theorem d_M_decrypted_29 : decode c9_M_decrypted 29 = .ok (.iload_n 2, 1) := by decide +kernel
theorem d_M_decrypted_30 : decode c9_M_decrypted 30 = .ok (.laload, 1) := by decide +kernel
theorem d_M_decrypted_31 : decode c9_M_decrypted 31 = .ok (.ldc2_w 96, 3) := by decide +kernel
theorem d_M_decrypted_34 : decode c9_M_decrypted 34 = .ok (.invokestatic 88, 3) := by decide +kernel
theorem d_M_decrypted_37 : decode c9_M_decrypted 37 = .ok (.l2i, 1) := by decide +kernel
theorem d_M_decrypted_38 : decode c9_M_decrypted 38 = .ok (.ireturn, 1) := by decide +kernel
theorem d_M_plain_0 : decode c9_M_plain 0 = .ok (.aload_n 0, 1) := by decide +kernel
theorem d_M_plain_1 : decode c9_M_plain 1 = .ok (.iload_n 1, 1) := by decide +kernel
theorem d_M_plain_2 : decode c9_M_plain 2 = .ok (.invokevirtual 113, 3) := by decide +kernel
theorem d_M_plain_5 : decode c9_M_plain 5 = .ok (.ifCond .eq 13, 3) := by decide +kernel
theorem d_M_plain_8 : decode c9_M_plain 8 = .ok (.iload_n 2, 1) := by decide +kernel
theorem d_M_plain_9 : decode c9_M_plain 9 = .ok (.ifCond .lt 9, 3) := by decide +kernel
theorem d_M_plain_12 : decode c9_M_plain 12 = .ok (.iload_n 2, 1) := by decide +kernel
theorem d_M_plain_13 : decode c9_M_plain 13 = .ok (.bipush 7, 2) := by decide +kernel
theorem d_M_plain_15 : decode c9_M_plain 15 = .ok (.if_icmp .le 7, 3) := by decide +kernel
theorem d_M_plain_18 : decode c9_M_plain 18 = .ok (.iconst (-1), 1) := by decide +kernel
theorem d_M_plain_19 : decode c9_M_plain 19 = .ok (.goto 14, 3) := by decide +kernel
theorem d_M_plain_22 : decode c9_M_plain 22 = .ok (.aload_n 0, 1) := by decide +kernel
theorem d_M_plain_23 : decode c9_M_plain 23 = .ok (.getfield 41, 3) := by decide +kernel
theorem d_M_plain_26 : decode c9_M_plain 26 = .ok (.bipush 8, 2) := by decide +kernel
theorem d_M_plain_28 : decode c9_M_plain 28 = .ok (.iload_n 1, 1) := by decide +kernel
theorem d_M_plain_29 : decode c9_M_plain 29 = .ok (.imul, 1) := by decide +kernel
theorem d_M_plain_30 : decode c9_M_plain 30 = .ok (.iload_n 2, 1) := by decide +kernel
theorem d_M_plain_31 : decode c9_M_plain 31 = .ok (.iadd, 1) := by decide +kernel
theorem d_M_plain_32 : decode c9_M_plain 32 = .ok (.iaload, 1) := by decide +kernel
theorem d_M_plain_33 : decode c9_M_plain 33 = .ok (.ireturn, 1) := by decide +kernel
theorem d_M_secret_0 : decode c9_M_secret 0 = .ok (.iload_n 1, 1) := by decide +kernel
theorem d_M_secret_1 : decode c9_M_secret 1 = .ok (.ifCond .lt 9, 3) := by decide +kernel
theorem d_M_secret_4 : decode c9_M_secret 4 = .ok (.iload_n 1, 1) := by decide +kernel
theorem d_M_secret_5 : decode c9_M_secret 5 = .ok (.bipush 7, 2) := by decide +kernel
theorem d_M_secret_7 : decode c9_M_secret 7 = .ok (.if_icmp .le 7, 3) := by decide +kernel
theorem d_M_secret_10 : decode c9_M_secret 10 = .ok (.iconst 0, 1) := by decide +kernel
theorem d_M_secret_11 : decode c9_M_secret 11 = .ok (.goto 9, 3) := by decide +kernel
theorem d_M_secret_14 : decode c9_M_secret 14 = .ok (.aload_n 0, 1) := by decide +kernel
theorem d_M_secret_15 : decode c9_M_secret 15 = .ok (.getfield 23, 3) := by decide +kernel
theorem d_M_secret_18 : decode c9_M_secret 18 = .ok (.iload_n 1, 1) := by decide +kernel
theorem d_M_secret_19 : decode c9_M_secret 19 = .ok (.iaload, 1) := by decide +kernel
theorem d_M_secret_20 : decode c9_M_secret 20 = .ok (.ireturn, 1) := by decide +kernel
