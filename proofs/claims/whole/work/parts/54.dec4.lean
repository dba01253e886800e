abbrev c9_L_law : ByteArray := code
theorem d_L_cell_0 : decode c9_L_cell 0 = .ok (.iload_n 1, 1) := by decide +kernel
theorem d_L_cell_1 : decode c9_L_cell 1 = .ok (.aload_n 0, 1) := by decide +kernel
theorem d_L_cell_2 : decode c9_L_cell 2 = .ok (.arraylength, 1) := by decide +kernel
theorem d_L_cell_3 : decode c9_L_cell 3 = .ok (.if_icmp .ge 9, 3) := by decide +kernel
theorem d_L_cell_6 : decode c9_L_cell 6 = .ok (.aload_n 0, 1) := by decide +kernel
theorem d_L_cell_7 : decode c9_L_cell 7 = .ok (.iload_n 1, 1) := by decide +kernel
theorem d_L_cell_8 : decode c9_L_cell 8 = .ok (.iaload, 1) := by decide +kernel
theorem d_L_cell_9 : decode c9_L_cell 9 = .ok (.goto 4, 3) := by decide +kernel
theorem d_L_cell_12 : decode c9_L_cell 12 = .ok (.iconst 0, 1) := by decide +kernel
theorem d_L_cell_13 : decode c9_L_cell 13 = .ok (.ireturn, 1) := by decide +kernel
theorem d_L_law_0 : decode c9_L_law 0 = .ok (.new 7, 3) := by decide +kernel
theorem d_L_law_3 : decode c9_L_law 3 = .ok (.dup, 1) := by decide +kernel
theorem d_L_law_4 : decode c9_L_law 4 = .ok (.aload_n 0, 1) := by decide +kernel
theorem d_L_law_5 : decode c9_L_law 5 = .ok (.iconst 0, 1) := by decide +kernel
theorem d_L_law_6 : decode c9_L_law 6 = .ok (.invokestatic 9, 3) := by decide +kernel
theorem d_L_law_9 : decode c9_L_law 9 = .ok (.invokespecial 15, 3) := by decide +kernel
theorem d_L_law_12 : decode c9_L_law 12 = .ok (.astore_n 1, 1) := by decide +kernel
theorem d_L_law_13 : decode c9_L_law 13 = .ok (.new 18, 3) := by decide +kernel
theorem d_L_law_16 : decode c9_L_law 16 = .ok (.dup, 1) := by decide +kernel
theorem d_L_law_17 : decode c9_L_law 17 = .ok (.aload_n 0, 1) := by decide +kernel
theorem d_L_law_18 : decode c9_L_law 18 = .ok (.iconst 0, 1) := by decide +kernel
theorem d_L_law_19 : decode c9_L_law 19 = .ok (.invokestatic 9, 3) := by decide +kernel
theorem d_L_law_22 : decode c9_L_law 22 = .ok (.invokespecial 20, 3) := by decide +kernel
theorem d_L_law_25 : decode c9_L_law 25 = .ok (.astore_n 2, 1) := by decide +kernel
theorem d_L_law_26 : decode c9_L_law 26 = .ok (.iconst 1, 1) := by decide +kernel
theorem d_L_law_27 : decode c9_L_law 27 = .ok (.istore_n 3, 1) := by decide +kernel
theorem d_L_law_28 : decode c9_L_law 28 = .ok (.iload_n 3, 1) := by decide +kernel
theorem d_L_law_29 : decode c9_L_law 29 = .ok (.aload_n 0, 1) := by decide +kernel
theorem d_L_law_30 : decode c9_L_law 30 = .ok (.arraylength, 1) := by decide +kernel
theorem d_L_law_31 : decode c9_L_law 31 = .ok (.iconst 4, 1) := by decide +kernel
theorem d_L_law_32 : decode c9_L_law 32 = .ok (.isub, 1) := by decide +kernel
theorem d_L_law_33 : decode c9_L_law 33 = .ok (.if_icmp .gt 561, 3) := by decide +kernel
theorem d_L_law_36 : decode c9_L_law 36 = .ok (.aload_n 0, 1) := by decide +kernel
theorem d_L_law_37 : decode c9_L_law 37 = .ok (.iload_n 3, 1) := by decide +kernel
theorem d_L_law_38 : decode c9_L_law 38 = .ok (.iaload, 1) := by decide +kernel
theorem d_L_law_39 : decode c9_L_law 39 = .ok (.bipush 31, 2) := by decide +kernel
theorem d_L_law_41 : decode c9_L_law 41 = .ok (.iand, 1) := by decide +kernel
theorem d_L_law_42 : decode c9_L_law 42 = .ok (.tableswitch 546 0 16 #[82, 115, 138, 171, 204, 237, 270, 293, 306, 329, 342, 365, 389, 413, 457, 490, 523], 82) := by decide +kernel
theorem d_L_law_124 : decode c9_L_law 124 = .ok (.aload_n 1, 1) := by decide +kernel
theorem d_L_law_125 : decode c9_L_law 125 = .ok (.aload_n 0, 1) := by decide +kernel
theorem d_L_law_126 : decode c9_L_law 126 = .ok (.iload_n 3, 1) := by decide +kernel
theorem d_L_law_127 : decode c9_L_law 127 = .ok (.iconst 1, 1) := by decide +kernel
theorem d_L_law_128 : decode c9_L_law 128 = .ok (.iadd, 1) := by decide +kernel
theorem d_L_law_129 : decode c9_L_law 129 = .ok (.iaload, 1) := by decide +kernel
theorem d_L_law_130 : decode c9_L_law 130 = .ok (.aload_n 0, 1) := by decide +kernel
theorem d_L_law_131 : decode c9_L_law 131 = .ok (.iload_n 3, 1) := by decide +kernel
theorem d_L_law_132 : decode c9_L_law 132 = .ok (.iconst 2, 1) := by decide +kernel
theorem d_L_law_133 : decode c9_L_law 133 = .ok (.iadd, 1) := by decide +kernel
theorem d_L_law_134 : decode c9_L_law 134 = .ok (.iaload, 1) := by decide +kernel
theorem d_L_law_135 : decode c9_L_law 135 = .ok (.invokevirtual 21, 3) := by decide +kernel
theorem d_L_law_138 : decode c9_L_law 138 = .ok (.aload_n 2, 1) := by decide +kernel
theorem d_L_law_139 : decode c9_L_law 139 = .ok (.aload_n 0, 1) := by decide +kernel
theorem d_L_law_140 : decode c9_L_law 140 = .ok (.iload_n 3, 1) := by decide +kernel
theorem d_L_law_141 : decode c9_L_law 141 = .ok (.iconst 1, 1) := by decide +kernel
theorem d_L_law_142 : decode c9_L_law 142 = .ok (.iadd, 1) := by decide +kernel
theorem d_L_law_143 : decode c9_L_law 143 = .ok (.iaload, 1) := by decide +kernel
theorem d_L_law_144 : decode c9_L_law 144 = .ok (.aload_n 0, 1) := by decide +kernel
theorem d_L_law_145 : decode c9_L_law 145 = .ok (.iload_n 3, 1) := by decide +kernel
theorem d_L_law_146 : decode c9_L_law 146 = .ok (.iconst 2, 1) := by decide +kernel
theorem d_L_law_147 : decode c9_L_law 147 = .ok (.iadd, 1) := by decide +kernel
theorem d_L_law_148 : decode c9_L_law 148 = .ok (.iaload, 1) := by decide +kernel
theorem d_L_law_149 : decode c9_L_law 149 = .ok (.invokevirtual 25, 3) := by decide +kernel
theorem d_L_law_152 : decode c9_L_law 152 = .ok (.if_icmp .eq 436, 3) := by decide +kernel
theorem d_L_law_155 : decode c9_L_law 155 = .ok (.iconst 0, 1) := by decide +kernel
theorem d_L_law_156 : decode c9_L_law 156 = .ok (.ireturn, 1) := by decide +kernel
theorem d_L_law_157 : decode c9_L_law 157 = .ok (.aload_n 1, 1) := by decide +kernel
theorem d_L_law_158 : decode c9_L_law 158 = .ok (.aload_n 0, 1) := by decide +kernel
theorem d_L_law_159 : decode c9_L_law 159 = .ok (.iload_n 3, 1) := by decide +kernel
theorem d_L_law_160 : decode c9_L_law 160 = .ok (.iconst 1, 1) := by decide +kernel
theorem d_L_law_161 : decode c9_L_law 161 = .ok (.iadd, 1) := by decide +kernel
theorem d_L_law_162 : decode c9_L_law 162 = .ok (.iaload, 1) := by decide +kernel
theorem d_L_law_163 : decode c9_L_law 163 = .ok (.invokevirtual 26, 3) := by decide +kernel
theorem d_L_law_166 : decode c9_L_law 166 = .ok (.aload_n 2, 1) := by decide +kernel
theorem d_L_law_167 : decode c9_L_law 167 = .ok (.aload_n 0, 1) := by decide +kernel
theorem d_L_law_168 : decode c9_L_law 168 = .ok (.iload_n 3, 1) := by decide +kernel
theorem d_L_law_169 : decode c9_L_law 169 = .ok (.iconst 1, 1) := by decide +kernel
theorem d_L_law_170 : decode c9_L_law 170 = .ok (.iadd, 1) := by decide +kernel
theorem d_L_law_171 : decode c9_L_law 171 = .ok (.iaload, 1) := by decide +kernel
theorem d_L_law_172 : decode c9_L_law 172 = .ok (.invokevirtual 30, 3) := by decide +kernel
theorem d_L_law_175 : decode c9_L_law 175 = .ok (.if_icmp .eq 413, 3) := by decide +kernel
theorem d_L_law_178 : decode c9_L_law 178 = .ok (.iconst 0, 1) := by decide +kernel
theorem d_L_law_179 : decode c9_L_law 179 = .ok (.ireturn, 1) := by decide +kernel
theorem d_L_law_180 : decode c9_L_law 180 = .ok (.aload_n 1, 1) := by decide +kernel
theorem d_L_law_181 : decode c9_L_law 181 = .ok (.aload_n 0, 1) := by decide +kernel
theorem d_L_law_182 : decode c9_L_law 182 = .ok (.iload_n 3, 1) := by decide +kernel
theorem d_L_law_183 : decode c9_L_law 183 = .ok (.iconst 1, 1) := by decide +kernel
theorem d_L_law_184 : decode c9_L_law 184 = .ok (.iadd, 1) := by decide +kernel
theorem d_L_law_185 : decode c9_L_law 185 = .ok (.iaload, 1) := by decide +kernel
theorem d_L_law_186 : decode c9_L_law 186 = .ok (.aload_n 0, 1) := by decide +kernel
theorem d_L_law_187 : decode c9_L_law 187 = .ok (.iload_n 3, 1) := by decide +kernel
theorem d_L_law_188 : decode c9_L_law 188 = .ok (.iconst 2, 1) := by decide +kernel
theorem d_L_law_189 : decode c9_L_law 189 = .ok (.iadd, 1) := by decide +kernel
theorem d_L_law_190 : decode c9_L_law 190 = .ok (.iaload, 1) := by decide +kernel
theorem d_L_law_191 : decode c9_L_law 191 = .ok (.invokevirtual 31, 3) := by decide +kernel
theorem d_L_law_194 : decode c9_L_law 194 = .ok (.aload_n 2, 1) := by decide +kernel
theorem d_L_law_195 : decode c9_L_law 195 = .ok (.aload_n 0, 1) := by decide +kernel
theorem d_L_law_196 : decode c9_L_law 196 = .ok (.iload_n 3, 1) := by decide +kernel
theorem d_L_law_197 : decode c9_L_law 197 = .ok (.iconst 1, 1) := by decide +kernel
theorem d_L_law_198 : decode c9_L_law 198 = .ok (.iadd, 1) := by decide +kernel
theorem d_L_law_199 : decode c9_L_law 199 = .ok (.iaload, 1) := by decide +kernel
theorem d_L_law_200 : decode c9_L_law 200 = .ok (.aload_n 0, 1) := by decide +kernel
theorem d_L_law_201 : decode c9_L_law 201 = .ok (.iload_n 3, 1) := by decide +kernel
theorem d_L_law_202 : decode c9_L_law 202 = .ok (.iconst 2, 1) := by decide +kernel
theorem d_L_law_203 : decode c9_L_law 203 = .ok (.iadd, 1) := by decide +kernel
theorem d_L_law_204 : decode c9_L_law 204 = .ok (.iaload, 1) := by decide +kernel
theorem d_L_law_205 : decode c9_L_law 205 = .ok (.invokevirtual 35, 3) := by decide +kernel
theorem d_L_law_208 : decode c9_L_law 208 = .ok (.if_icmp .eq 380, 3) := by decide +kernel
theorem d_L_law_211 : decode c9_L_law 211 = .ok (.iconst 0, 1) := by decide +kernel
theorem d_L_law_212 : decode c9_L_law 212 = .ok (.ireturn, 1) := by decide +kernel
theorem d_L_law_213 : decode c9_L_law 213 = .ok (.aload_n 1, 1) := by decide +kernel
theorem d_L_law_214 : decode c9_L_law 214 = .ok (.aload_n 0, 1) := by decide +kernel
theorem d_L_law_215 : decode c9_L_law 215 = .ok (.iload_n 3, 1) := by decide +kernel
theorem d_L_law_216 : decode c9_L_law 216 = .ok (.iconst 1, 1) := by decide +kernel
theorem d_L_law_217 : decode c9_L_law 217 = .ok (.iadd, 1) := by decide +kernel
theorem d_L_law_218 : decode c9_L_law 218 = .ok (.iaload, 1) := by decide +kernel
theorem d_L_law_219 : decode c9_L_law 219 = .ok (.aload_n 0, 1) := by decide +kernel
theorem d_L_law_220 : decode c9_L_law 220 = .ok (.iload_n 3, 1) := by decide +kernel
theorem d_L_law_221 : decode c9_L_law 221 = .ok (.iconst 2, 1) := by decide +kernel
theorem d_L_law_222 : decode c9_L_law 222 = .ok (.iadd, 1) := by decide +kernel
theorem d_L_law_223 : decode c9_L_law 223 = .ok (.iaload, 1) := by decide +kernel
theorem d_L_law_224 : decode c9_L_law 224 = .ok (.invokevirtual 36, 3) := by decide +kernel
theorem d_L_law_227 : decode c9_L_law 227 = .ok (.aload_n 2, 1) := by decide +kernel
theorem d_L_law_228 : decode c9_L_law 228 = .ok (.aload_n 0, 1) := by decide +kernel
theorem d_L_law_229 : decode c9_L_law 229 = .ok (.iload_n 3, 1) := by decide +kernel
theorem d_L_law_230 : decode c9_L_law 230 = .ok (.iconst 1, 1) := by decide +kernel
theorem d_L_law_231 : decode c9_L_law 231 = .ok (.iadd, 1) := by decide +kernel
theorem d_L_law_232 : decode c9_L_law 232 = .ok (.iaload, 1) := by decide +kernel
theorem d_L_law_233 : decode c9_L_law 233 = .ok (.aload_n 0, 1) := by decide +kernel
theorem d_L_law_234 : decode c9_L_law 234 = .ok (.iload_n 3, 1) := by decide +kernel
theorem d_L_law_235 : decode c9_L_law 235 = .ok (.iconst 2, 1) := by decide +kernel
theorem d_L_law_236 : decode c9_L_law 236 = .ok (.iadd, 1) := by decide +kernel
theorem d_L_law_237 : decode c9_L_law 237 = .ok (.iaload, 1) := by decide +kernel
theorem d_L_law_238 : decode c9_L_law 238 = .ok (.invokevirtual 39, 3) := by decide +kernel
theorem d_L_law_241 : decode c9_L_law 241 = .ok (.if_icmp .eq 347, 3) := by decide +kernel
theorem d_L_law_244 : decode c9_L_law 244 = .ok (.iconst 0, 1) := by decide +kernel
theorem d_L_law_245 : decode c9_L_law 245 = .ok (.ireturn, 1) := by decide +kernel
theorem d_L_law_246 : decode c9_L_law 246 = .ok (.aload_n 1, 1) := by decide +kernel
theorem d_L_law_247 : decode c9_L_law 247 = .ok (.aload_n 0, 1) := by decide +kernel
theorem d_L_law_248 : decode c9_L_law 248 = .ok (.iload_n 3, 1) := by decide +kernel
theorem d_L_law_249 : decode c9_L_law 249 = .ok (.iconst 1, 1) := by decide +kernel
theorem d_L_law_250 : decode c9_L_law 250 = .ok (.iadd, 1) := by decide +kernel
theorem d_L_law_251 : decode c9_L_law 251 = .ok (.iaload, 1) := by decide +kernel
theorem d_L_law_252 : decode c9_L_law 252 = .ok (.aload_n 0, 1) := by decide +kernel
theorem d_L_law_253 : decode c9_L_law 253 = .ok (.iload_n 3, 1) := by decide +kernel
theorem d_L_law_254 : decode c9_L_law 254 = .ok (.iconst 2, 1) := by decide +kernel
theorem d_L_law_255 : decode c9_L_law 255 = .ok (.iadd, 1) := by decide +kernel
theorem d_L_law_256 : decode c9_L_law 256 = .ok (.iaload, 1) := by decide +kernel
theorem d_L_law_257 : decode c9_L_law 257 = .ok (.invokevirtual 40, 3) := by decide +kernel
theorem d_L_law_260 : decode c9_L_law 260 = .ok (.aload_n 2, 1) := by decide +kernel
theorem d_L_law_261 : decode c9_L_law 261 = .ok (.aload_n 0, 1) := by decide +kernel
theorem d_L_law_262 : decode c9_L_law 262 = .ok (.iload_n 3, 1) := by decide +kernel
theorem d_L_law_263 : decode c9_L_law 263 = .ok (.iconst 1, 1) := by decide +kernel
theorem d_L_law_264 : decode c9_L_law 264 = .ok (.iadd, 1) := by decide +kernel
theorem d_L_law_265 : decode c9_L_law 265 = .ok (.iaload, 1) := by decide +kernel
theorem d_L_law_266 : decode c9_L_law 266 = .ok (.aload_n 0, 1) := by decide +kernel
theorem d_L_law_267 : decode c9_L_law 267 = .ok (.iload_n 3, 1) := by decide +kernel
theorem d_L_law_268 : decode c9_L_law 268 = .ok (.iconst 2, 1) := by decide +kernel
theorem d_L_law_269 : decode c9_L_law 269 = .ok (.iadd, 1) := by decide +kernel
theorem d_L_law_270 : decode c9_L_law 270 = .ok (.iaload, 1) := by decide +kernel
theorem d_L_law_271 : decode c9_L_law 271 = .ok (.invokevirtual 43, 3) := by decide +kernel
theorem d_L_law_274 : decode c9_L_law 274 = .ok (.if_icmp .eq 314, 3) := by decide +kernel
theorem d_L_law_277 : decode c9_L_law 277 = .ok (.iconst 0, 1) := by decide +kernel
theorem d_L_law_278 : decode c9_L_law 278 = .ok (.ireturn, 1) := by decide +kernel
theorem d_L_law_279 : decode c9_L_law 279 = .ok (.aload_n 1, 1) := by decide +kernel
theorem d_L_law_280 : decode c9_L_law 280 = .ok (.aload_n 0, 1) := by decide +kernel
theorem d_L_law_281 : decode c9_L_law 281 = .ok (.iload_n 3, 1) := by decide +kernel
theorem d_L_law_282 : decode c9_L_law 282 = .ok (.iconst 1, 1) := by decide +kernel
theorem d_L_law_283 : decode c9_L_law 283 = .ok (.iadd, 1) := by decide +kernel
theorem d_L_law_284 : decode c9_L_law 284 = .ok (.iaload, 1) := by decide +kernel
theorem d_L_law_285 : decode c9_L_law 285 = .ok (.aload_n 0, 1) := by decide +kernel
theorem d_L_law_286 : decode c9_L_law 286 = .ok (.iload_n 3, 1) := by decide +kernel
theorem d_L_law_287 : decode c9_L_law 287 = .ok (.iconst 2, 1) := by decide +kernel
theorem d_L_law_288 : decode c9_L_law 288 = .ok (.iadd, 1) := by decide +kernel
theorem d_L_law_289 : decode c9_L_law 289 = .ok (.iaload, 1) := by decide +kernel
theorem d_L_law_290 : decode c9_L_law 290 = .ok (.invokevirtual 44, 3) := by decide +kernel
theorem d_L_law_293 : decode c9_L_law 293 = .ok (.aload_n 2, 1) := by decide +kernel
theorem d_L_law_294 : decode c9_L_law 294 = .ok (.aload_n 0, 1) := by decide +kernel
theorem d_L_law_295 : decode c9_L_law 295 = .ok (.iload_n 3, 1) := by decide +kernel
theorem d_L_law_296 : decode c9_L_law 296 = .ok (.iconst 1, 1) := by decide +kernel
theorem d_L_law_297 : decode c9_L_law 297 = .ok (.iadd, 1) := by decide +kernel
theorem d_L_law_298 : decode c9_L_law 298 = .ok (.iaload, 1) := by decide +kernel
theorem d_L_law_299 : decode c9_L_law 299 = .ok (.aload_n 0, 1) := by decide +kernel
theorem d_L_law_300 : decode c9_L_law 300 = .ok (.iload_n 3, 1) := by decide +kernel
theorem d_L_law_301 : decode c9_L_law 301 = .ok (.iconst 2, 1) := by decide +kernel
theorem d_L_law_302 : decode c9_L_law 302 = .ok (.iadd, 1) := by decide +kernel
theorem d_L_law_303 : decode c9_L_law 303 = .ok (.iaload, 1) := by decide +kernel
theorem d_L_law_304 : decode c9_L_law 304 = .ok (.invokevirtual 47, 3) := by decide +kernel
theorem d_L_law_307 : decode c9_L_law 307 = .ok (.if_icmp .eq 281, 3) := by decide +kernel
theorem d_L_law_310 : decode c9_L_law 310 = .ok (.iconst 0, 1) := by decide +kernel
theorem d_L_law_311 : decode c9_L_law 311 = .ok (.ireturn, 1) := by decide +kernel
theorem d_L_law_312 : decode c9_L_law 312 = .ok (.aload_n 1, 1) := by decide +kernel
theorem d_L_law_313 : decode c9_L_law 313 = .ok (.aload_n 0, 1) := by decide +kernel
theorem d_L_law_314 : decode c9_L_law 314 = .ok (.iload_n 3, 1) := by decide +kernel
theorem d_L_law_315 : decode c9_L_law 315 = .ok (.iconst 1, 1) := by decide +kernel
theorem d_L_law_316 : decode c9_L_law 316 = .ok (.iadd, 1) := by decide +kernel
theorem d_L_law_317 : decode c9_L_law 317 = .ok (.iaload, 1) := by decide +kernel
theorem d_L_law_318 : decode c9_L_law 318 = .ok (.invokevirtual 48, 3) := by decide +kernel
theorem d_L_law_321 : decode c9_L_law 321 = .ok (.aload_n 2, 1) := by decide +kernel
theorem d_L_law_322 : decode c9_L_law 322 = .ok (.aload_n 0, 1) := by decide +kernel
theorem d_L_law_323 : decode c9_L_law 323 = .ok (.iload_n 3, 1) := by decide +kernel
theorem d_L_law_324 : decode c9_L_law 324 = .ok (.iconst 1, 1) := by decide +kernel
theorem d_L_law_325 : decode c9_L_law 325 = .ok (.iadd, 1) := by decide +kernel
theorem d_L_law_326 : decode c9_L_law 326 = .ok (.iaload, 1) := by decide +kernel
theorem d_L_law_327 : decode c9_L_law 327 = .ok (.invokevirtual 51, 3) := by decide +kernel
theorem d_L_law_330 : decode c9_L_law 330 = .ok (.if_icmp .eq 258, 3) := by decide +kernel
theorem d_L_law_333 : decode c9_L_law 333 = .ok (.iconst 0, 1) := by decide +kernel
theorem d_L_law_334 : decode c9_L_law 334 = .ok (.ireturn, 1) := by decide +kernel
theorem d_L_law_335 : decode c9_L_law 335 = .ok (.aload_n 1, 1) := by decide +kernel
theorem d_L_law_336 : decode c9_L_law 336 = .ok (.invokevirtual 52, 3) := by decide +kernel
theorem d_L_law_339 : decode c9_L_law 339 = .ok (.aload_n 2, 1) := by decide +kernel
theorem d_L_law_340 : decode c9_L_law 340 = .ok (.invokevirtual 56, 3) := by decide +kernel
theorem d_L_law_343 : decode c9_L_law 343 = .ok (.if_icmp .eq 245, 3) := by decide +kernel
theorem d_L_law_346 : decode c9_L_law 346 = .ok (.iconst 0, 1) := by decide +kernel
theorem d_L_law_347 : decode c9_L_law 347 = .ok (.ireturn, 1) := by decide +kernel
theorem d_L_law_348 : decode c9_L_law 348 = .ok (.aload_n 1, 1) := by decide +kernel
theorem d_L_law_349 : decode c9_L_law 349 = .ok (.aload_n 0, 1) := by decide +kernel
theorem d_L_law_350 : decode c9_L_law 350 = .ok (.iload_n 3, 1) := by decide +kernel
theorem d_L_law_351 : decode c9_L_law 351 = .ok (.iconst 1, 1) := by decide +kernel
theorem d_L_law_352 : decode c9_L_law 352 = .ok (.iadd, 1) := by decide +kernel
theorem d_L_law_353 : decode c9_L_law 353 = .ok (.iaload, 1) := by decide +kernel
theorem d_L_law_354 : decode c9_L_law 354 = .ok (.invokevirtual 57, 3) := by decide +kernel
theorem d_L_law_357 : decode c9_L_law 357 = .ok (.aload_n 2, 1) := by decide +kernel
theorem d_L_law_358 : decode c9_L_law 358 = .ok (.aload_n 0, 1) := by decide +kernel
theorem d_L_law_359 : decode c9_L_law 359 = .ok (.iload_n 3, 1) := by decide +kernel
theorem d_L_law_360 : decode c9_L_law 360 = .ok (.iconst 1, 1) := by decide +kernel
theorem d_L_law_361 : decode c9_L_law 361 = .ok (.iadd, 1) := by decide +kernel
theorem d_L_law_362 : decode c9_L_law 362 = .ok (.iaload, 1) := by decide +kernel
theorem d_L_law_363 : decode c9_L_law 363 = .ok (.invokevirtual 61, 3) := by decide +kernel
theorem d_L_law_366 : decode c9_L_law 366 = .ok (.if_icmp .eq 222, 3) := by decide +kernel
theorem d_L_law_369 : decode c9_L_law 369 = .ok (.iconst 0, 1) := by decide +kernel
theorem d_L_law_370 : decode c9_L_law 370 = .ok (.ireturn, 1) := by decide +kernel
theorem d_L_law_371 : decode c9_L_law 371 = .ok (.aload_n 1, 1) := by decide +kernel
theorem d_L_law_372 : decode c9_L_law 372 = .ok (.invokevirtual 62, 3) := by decide +kernel
theorem d_L_law_375 : decode c9_L_law 375 = .ok (.aload_n 2, 1) := by decide +kernel
theorem d_L_law_376 : decode c9_L_law 376 = .ok (.invokevirtual 65, 3) := by decide +kernel
theorem d_L_law_379 : decode c9_L_law 379 = .ok (.if_icmp .eq 209, 3) := by decide +kernel
theorem d_L_law_382 : decode c9_L_law 382 = .ok (.iconst 0, 1) := by decide +kernel
theorem d_L_law_383 : decode c9_L_law 383 = .ok (.ireturn, 1) := by decide +kernel
theorem d_L_law_384 : decode c9_L_law 384 = .ok (.aload_n 1, 1) := by decide +kernel
theorem d_L_law_385 : decode c9_L_law 385 = .ok (.aload_n 0, 1) := by decide +kernel
theorem d_L_law_386 : decode c9_L_law 386 = .ok (.iload_n 3, 1) := by decide +kernel
theorem d_L_law_387 : decode c9_L_law 387 = .ok (.iconst 1, 1) := by decide +kernel
theorem d_L_law_388 : decode c9_L_law 388 = .ok (.iadd, 1) := by decide +kernel
theorem d_L_law_389 : decode c9_L_law 389 = .ok (.iaload, 1) := by decide +kernel
theorem d_L_law_390 : decode c9_L_law 390 = .ok (.invokevirtual 66, 3) := by decide +kernel
theorem d_L_law_393 : decode c9_L_law 393 = .ok (.aload_n 2, 1) := by decide +kernel
theorem d_L_law_394 : decode c9_L_law 394 = .ok (.aload_n 0, 1) := by decide +kernel
theorem d_L_law_395 : decode c9_L_law 395 = .ok (.iload_n 3, 1) := by decide +kernel
theorem d_L_law_396 : decode c9_L_law 396 = .ok (.iconst 1, 1) := by decide +kernel
theorem d_L_law_397 : decode c9_L_law 397 = .ok (.iadd, 1) := by decide +kernel
theorem d_L_law_398 : decode c9_L_law 398 = .ok (.iaload, 1) := by decide +kernel
theorem d_L_law_399 : decode c9_L_law 399 = .ok (.invokevirtual 69, 3) := by decide +kernel
theorem d_L_law_402 : decode c9_L_law 402 = .ok (.if_icmp .eq 186, 3) := by decide +kernel
theorem d_L_law_405 : decode c9_L_law 405 = .ok (.iconst 0, 1) := by decide +kernel
theorem d_L_law_406 : decode c9_L_law 406 = .ok (.ireturn, 1) := by decide +kernel
theorem d_L_law_407 : decode c9_L_law 407 = .ok (.aload_n 1, 1) := by decide +kernel
theorem d_L_law_408 : decode c9_L_law 408 = .ok (.aload_n 0, 1) := by decide +kernel
theorem d_L_law_409 : decode c9_L_law 409 = .ok (.iload_n 3, 1) := by decide +kernel
theorem d_L_law_410 : decode c9_L_law 410 = .ok (.iconst 1, 1) := by decide +kernel
theorem d_L_law_411 : decode c9_L_law 411 = .ok (.iadd, 1) := by decide +kernel
theorem d_L_law_412 : decode c9_L_law 412 = .ok (.iaload, 1) := by decide +kernel
theorem d_L_law_413 : decode c9_L_law 413 = .ok (.invokevirtual 70, 3) := by decide +kernel
theorem d_L_law_416 : decode c9_L_law 416 = .ok (.aload_n 2, 1) := by decide +kernel
theorem d_L_law_417 : decode c9_L_law 417 = .ok (.aload_n 0, 1) := by decide +kernel
theorem d_L_law_418 : decode c9_L_law 418 = .ok (.iload_n 3, 1) := by decide +kernel
theorem d_L_law_419 : decode c9_L_law 419 = .ok (.iconst 1, 1) := by decide +kernel
theorem d_L_law_420 : decode c9_L_law 420 = .ok (.iadd, 1) := by decide +kernel
theorem d_L_law_421 : decode c9_L_law 421 = .ok (.iaload, 1) := by decide +kernel
theorem d_L_law_422 : decode c9_L_law 422 = .ok (.invokevirtual 74, 3) := by decide +kernel
theorem d_L_law_425 : decode c9_L_law 425 = .ok (.lcmp, 1) := by decide +kernel
theorem d_L_law_426 : decode c9_L_law 426 = .ok (.ifCond .eq 162, 3) := by decide +kernel
theorem d_L_law_429 : decode c9_L_law 429 = .ok (.iconst 0, 1) := by decide +kernel
theorem d_L_law_430 : decode c9_L_law 430 = .ok (.ireturn, 1) := by decide +kernel
theorem d_L_law_431 : decode c9_L_law 431 = .ok (.aload_n 1, 1) := by decide +kernel
theorem d_L_law_432 : decode c9_L_law 432 = .ok (.aload_n 0, 1) := by decide +kernel
theorem d_L_law_433 : decode c9_L_law 433 = .ok (.iload_n 3, 1) := by decide +kernel
theorem d_L_law_434 : decode c9_L_law 434 = .ok (.iconst 1, 1) := by decide +kernel
theorem d_L_law_435 : decode c9_L_law 435 = .ok (.iadd, 1) := by decide +kernel
theorem d_L_law_436 : decode c9_L_law 436 = .ok (.iaload, 1) := by decide +kernel
theorem d_L_law_437 : decode c9_L_law 437 = .ok (.invokevirtual 75, 3) := by decide +kernel
theorem d_L_law_440 : decode c9_L_law 440 = .ok (.aload_n 2, 1) := by decide +kernel
theorem d_L_law_441 : decode c9_L_law 441 = .ok (.aload_n 0, 1) := by decide +kernel
theorem d_L_law_442 : decode c9_L_law 442 = .ok (.iload_n 3, 1) := by decide +kernel
theorem d_L_law_443 : decode c9_L_law 443 = .ok (.iconst 1, 1) := by decide +kernel
theorem d_L_law_444 : decode c9_L_law 444 = .ok (.iadd, 1) := by decide +kernel
theorem d_L_law_445 : decode c9_L_law 445 = .ok (.iaload, 1) := by decide +kernel
theorem d_L_law_446 : decode c9_L_law 446 = .ok (.invokevirtual 78, 3) := by decide +kernel
theorem d_L_law_449 : decode c9_L_law 449 = .ok (.lcmp, 1) := by decide +kernel
theorem d_L_law_450 : decode c9_L_law 450 = .ok (.ifCond .eq 138, 3) := by decide +kernel
theorem d_L_law_453 : decode c9_L_law 453 = .ok (.iconst 0, 1) := by decide +kernel
theorem d_L_law_454 : decode c9_L_law 454 = .ok (.ireturn, 1) := by decide +kernel
theorem d_L_law_455 : decode c9_L_law 455 = .ok (.aload_n 1, 1) := by decide +kernel
theorem d_L_law_456 : decode c9_L_law 456 = .ok (.aload_n 0, 1) := by decide +kernel
theorem d_L_law_457 : decode c9_L_law 457 = .ok (.iload_n 3, 1) := by decide +kernel
theorem d_L_law_458 : decode c9_L_law 458 = .ok (.iconst 1, 1) := by decide +kernel
theorem d_L_law_459 : decode c9_L_law 459 = .ok (.iadd, 1) := by decide +kernel
theorem d_L_law_460 : decode c9_L_law 460 = .ok (.iaload, 1) := by decide +kernel
theorem d_L_law_461 : decode c9_L_law 461 = .ok (.aload_n 0, 1) := by decide +kernel
theorem d_L_law_462 : decode c9_L_law 462 = .ok (.iload_n 3, 1) := by decide +kernel
theorem d_L_law_463 : decode c9_L_law 463 = .ok (.iconst 2, 1) := by decide +kernel
theorem d_L_law_464 : decode c9_L_law 464 = .ok (.iadd, 1) := by decide +kernel
theorem d_L_law_465 : decode c9_L_law 465 = .ok (.iaload, 1) := by decide +kernel
theorem d_L_law_466 : decode c9_L_law 466 = .ok (.aload_n 0, 1) := by decide +kernel
theorem d_L_law_467 : decode c9_L_law 467 = .ok (.iload_n 3, 1) := by decide +kernel
theorem d_L_law_468 : decode c9_L_law 468 = .ok (.iconst 3, 1) := by decide +kernel
theorem d_L_law_469 : decode c9_L_law 469 = .ok (.iadd, 1) := by decide +kernel
theorem d_L_law_470 : decode c9_L_law 470 = .ok (.iaload, 1) := by decide +kernel
theorem d_L_law_471 : decode c9_L_law 471 = .ok (.invokevirtual 79, 3) := by decide +kernel
theorem d_L_law_474 : decode c9_L_law 474 = .ok (.aload_n 2, 1) := by decide +kernel
theorem d_L_law_475 : decode c9_L_law 475 = .ok (.aload_n 0, 1) := by decide +kernel
theorem d_L_law_476 : decode c9_L_law 476 = .ok (.iload_n 3, 1) := by decide +kernel
theorem d_L_law_477 : decode c9_L_law 477 = .ok (.iconst 1, 1) := by decide +kernel
theorem d_L_law_478 : decode c9_L_law 478 = .ok (.iadd, 1) := by decide +kernel
theorem d_L_law_479 : decode c9_L_law 479 = .ok (.iaload, 1) := by decide +kernel
theorem d_L_law_480 : decode c9_L_law 480 = .ok (.aload_n 0, 1) := by decide +kernel
theorem d_L_law_481 : decode c9_L_law 481 = .ok (.iload_n 3, 1) := by decide +kernel
theorem d_L_law_482 : decode c9_L_law 482 = .ok (.iconst 2, 1) := by decide +kernel
theorem d_L_law_483 : decode c9_L_law 483 = .ok (.iadd, 1) := by decide +kernel
theorem d_L_law_484 : decode c9_L_law 484 = .ok (.iaload, 1) := by decide +kernel
theorem d_L_law_485 : decode c9_L_law 485 = .ok (.aload_n 0, 1) := by decide +kernel
theorem d_L_law_486 : decode c9_L_law 486 = .ok (.iload_n 3, 1) := by decide +kernel
theorem d_L_law_487 : decode c9_L_law 487 = .ok (.iconst 3, 1) := by decide +kernel
theorem d_L_law_488 : decode c9_L_law 488 = .ok (.iadd, 1) := by decide +kernel
theorem d_L_law_489 : decode c9_L_law 489 = .ok (.iaload, 1) := by decide +kernel
theorem d_L_law_490 : decode c9_L_law 490 = .ok (.invokevirtual 83, 3) := by decide +kernel
theorem d_L_law_493 : decode c9_L_law 493 = .ok (.lcmp, 1) := by decide +kernel
theorem d_L_law_494 : decode c9_L_law 494 = .ok (.ifCond .eq 94, 3) := by decide +kernel
theorem d_L_law_497 : decode c9_L_law 497 = .ok (.iconst 0, 1) := by decide +kernel
theorem d_L_law_498 : decode c9_L_law 498 = .ok (.ireturn, 1) := by decide +kernel
theorem d_L_law_499 : decode c9_L_law 499 = .ok (.aload_n 1, 1) := by decide +kernel
theorem d_L_law_500 : decode c9_L_law 500 = .ok (.aload_n 0, 1) := by decide +kernel
theorem d_L_law_501 : decode c9_L_law 501 = .ok (.iload_n 3, 1) := by decide +kernel
theorem d_L_law_502 : decode c9_L_law 502 = .ok (.iconst 1, 1) := by decide +kernel
theorem d_L_law_503 : decode c9_L_law 503 = .ok (.iadd, 1) := by decide +kernel
theorem d_L_law_504 : decode c9_L_law 504 = .ok (.iaload, 1) := by decide +kernel
theorem d_L_law_505 : decode c9_L_law 505 = .ok (.aload_n 0, 1) := by decide +kernel
theorem d_L_law_506 : decode c9_L_law 506 = .ok (.iload_n 3, 1) := by decide +kernel
theorem d_L_law_507 : decode c9_L_law 507 = .ok (.iconst 2, 1) := by decide +kernel
theorem d_L_law_508 : decode c9_L_law 508 = .ok (.iadd, 1) := by decide +kernel
theorem d_L_law_509 : decode c9_L_law 509 = .ok (.iaload, 1) := by decide +kernel
theorem d_L_law_510 : decode c9_L_law 510 = .ok (.invokevirtual 84, 3) := by decide +kernel
theorem d_L_law_513 : decode c9_L_law 513 = .ok (.aload_n 2, 1) := by decide +kernel
theorem d_L_law_514 : decode c9_L_law 514 = .ok (.aload_n 0, 1) := by decide +kernel
theorem d_L_law_515 : decode c9_L_law 515 = .ok (.iload_n 3, 1) := by decide +kernel
theorem d_L_law_516 : decode c9_L_law 516 = .ok (.iconst 1, 1) := by decide +kernel
theorem d_L_law_517 : decode c9_L_law 517 = .ok (.iadd, 1) := by decide +kernel
theorem d_L_law_518 : decode c9_L_law 518 = .ok (.iaload, 1) := by decide +kernel
theorem d_L_law_519 : decode c9_L_law 519 = .ok (.aload_n 0, 1) := by decide +kernel
theorem d_L_law_520 : decode c9_L_law 520 = .ok (.iload_n 3, 1) := by decide +kernel
theorem d_L_law_521 : decode c9_L_law 521 = .ok (.iconst 2, 1) := by decide +kernel
theorem d_L_law_522 : decode c9_L_law 522 = .ok (.iadd, 1) := by decide +kernel
theorem d_L_law_523 : decode c9_L_law 523 = .ok (.iaload, 1) := by decide +kernel
theorem d_L_law_524 : decode c9_L_law 524 = .ok (.invokevirtual 87, 3) := by decide +kernel
theorem d_L_law_527 : decode c9_L_law 527 = .ok (.if_icmp .eq 61, 3) := by decide +kernel
theorem d_L_law_530 : decode c9_L_law 530 = .ok (.iconst 0, 1) := by decide +kernel
theorem d_L_law_531 : decode c9_L_law 531 = .ok (.ireturn, 1) := by decide +kernel
theorem d_L_law_532 : decode c9_L_law 532 = .ok (.aload_n 1, 1) := by decide +kernel
theorem d_L_law_533 : decode c9_L_law 533 = .ok (.aload_n 0, 1) := by decide +kernel
theorem d_L_law_534 : decode c9_L_law 534 = .ok (.iload_n 3, 1) := by decide +kernel
theorem d_L_law_535 : decode c9_L_law 535 = .ok (.iconst 1, 1) := by decide +kernel
theorem d_L_law_536 : decode c9_L_law 536 = .ok (.iadd, 1) := by decide +kernel
theorem d_L_law_537 : decode c9_L_law 537 = .ok (.iaload, 1) := by decide +kernel
theorem d_L_law_538 : decode c9_L_law 538 = .ok (.aload_n 0, 1) := by decide +kernel
theorem d_L_law_539 : decode c9_L_law 539 = .ok (.iload_n 3, 1) := by decide +kernel
theorem d_L_law_540 : decode c9_L_law 540 = .ok (.iconst 2, 1) := by decide +kernel
theorem d_L_law_541 : decode c9_L_law 541 = .ok (.iadd, 1) := by decide +kernel
theorem d_L_law_542 : decode c9_L_law 542 = .ok (.iaload, 1) := by decide +kernel
theorem d_L_law_543 : decode c9_L_law 543 = .ok (.invokevirtual 88, 3) := by decide +kernel
theorem d_L_law_546 : decode c9_L_law 546 = .ok (.aload_n 2, 1) := by decide +kernel
theorem d_L_law_547 : decode c9_L_law 547 = .ok (.aload_n 0, 1) := by decide +kernel
theorem d_L_law_548 : decode c9_L_law 548 = .ok (.iload_n 3, 1) := by decide +kernel
theorem d_L_law_549 : decode c9_L_law 549 = .ok (.iconst 1, 1) := by decide +kernel
theorem d_L_law_550 : decode c9_L_law 550 = .ok (.iadd, 1) := by decide +kernel
theorem d_L_law_551 : decode c9_L_law 551 = .ok (.iaload, 1) := by decide +kernel
theorem d_L_law_552 : decode c9_L_law 552 = .ok (.aload_n 0, 1) := by decide +kernel
theorem d_L_law_553 : decode c9_L_law 553 = .ok (.iload_n 3, 1) := by decide +kernel
theorem d_L_law_554 : decode c9_L_law 554 = .ok (.iconst 2, 1) := by decide +kernel
theorem d_L_law_555 : decode c9_L_law 555 = .ok (.iadd, 1) := by decide +kernel
theorem d_L_law_556 : decode c9_L_law 556 = .ok (.iaload, 1) := by decide +kernel
theorem d_L_law_557 : decode c9_L_law 557 = .ok (.invokevirtual 91, 3) := by decide +kernel
theorem d_L_law_560 : decode c9_L_law 560 = .ok (.if_icmp .eq 28, 3) := by decide +kernel
theorem d_L_law_563 : decode c9_L_law 563 = .ok (.iconst 0, 1) := by decide +kernel
theorem d_L_law_564 : decode c9_L_law 564 = .ok (.ireturn, 1) := by decide +kernel
theorem d_L_law_565 : decode c9_L_law 565 = .ok (.aload_n 1, 1) := by decide +kernel
theorem d_L_law_566 : decode c9_L_law 566 = .ok (.aload_n 0, 1) := by decide +kernel
theorem d_L_law_567 : decode c9_L_law 567 = .ok (.iload_n 3, 1) := by decide +kernel
theorem d_L_law_568 : decode c9_L_law 568 = .ok (.iconst 1, 1) := by decide +kernel
theorem d_L_law_569 : decode c9_L_law 569 = .ok (.iadd, 1) := by decide +kernel
theorem d_L_law_570 : decode c9_L_law 570 = .ok (.iaload, 1) := by decide +kernel
theorem d_L_law_571 : decode c9_L_law 571 = .ok (.invokevirtual 92, 3) := by decide +kernel
theorem d_L_law_574 : decode c9_L_law 574 = .ok (.aload_n 2, 1) := by decide +kernel
theorem d_L_law_575 : decode c9_L_law 575 = .ok (.aload_n 0, 1) := by decide +kernel
theorem d_L_law_576 : decode c9_L_law 576 = .ok (.iload_n 3, 1) := by decide +kernel
theorem d_L_law_577 : decode c9_L_law 577 = .ok (.iconst 1, 1) := by decide +kernel
theorem d_L_law_578 : decode c9_L_law 578 = .ok (.iadd, 1) := by decide +kernel
theorem d_L_law_579 : decode c9_L_law 579 = .ok (.iaload, 1) := by decide +kernel
theorem d_L_law_580 : decode c9_L_law 580 = .ok (.invokevirtual 95, 3) := by decide +kernel
theorem d_L_law_583 : decode c9_L_law 583 = .ok (.if_icmp .eq 5, 3) := by decide +kernel
theorem d_L_law_586 : decode c9_L_law 586 = .ok (.iconst 0, 1) := by decide +kernel
theorem d_L_law_587 : decode c9_L_law 587 = .ok (.ireturn, 1) := by decide +kernel
theorem d_L_law_588 : decode c9_L_law 588 = .ok (.iinc 3 4, 3) := by decide +kernel
theorem d_L_law_591 : decode c9_L_law 591 = .ok (.goto (-563), 3) := by decide +kernel
theorem d_L_law_594 : decode c9_L_law 594 = .ok (.iconst 1, 1) := by decide +kernel
theorem d_L_law_595 : decode c9_L_law 595 = .ok (.ireturn, 1) := by decide +kernel
