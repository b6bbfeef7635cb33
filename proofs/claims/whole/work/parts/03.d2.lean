theorem d_Law_law_0 : decode b_Law_law 0 = .ok (.new 8, 3) := by decide +kernel
theorem d_Law_law_3 : decode b_Law_law 3 = .ok (.dup, 1) := by decide +kernel
theorem d_Law_law_4 : decode b_Law_law 4 = .ok (.invokespecial 15, 3) := by decide +kernel
theorem d_Law_law_7 : decode b_Law_law 7 = .ok (.astore_n 1, 1) := by decide +kernel
theorem d_Law_law_8 : decode b_Law_law 8 = .ok (.new 16, 3) := by decide +kernel
theorem d_Law_law_11 : decode b_Law_law 11 = .ok (.dup, 1) := by decide +kernel
theorem d_Law_law_12 : decode b_Law_law 12 = .ok (.invokespecial 18, 3) := by decide +kernel
theorem d_Law_law_15 : decode b_Law_law 15 = .ok (.astore_n 2, 1) := by decide +kernel
theorem d_Law_law_16 : decode b_Law_law 16 = .ok (.iconst 1, 1) := by decide +kernel
theorem d_Law_law_17 : decode b_Law_law 17 = .ok (.newarray .long, 2) := by decide +kernel
theorem d_Law_law_19 : decode b_Law_law 19 = .ok (.astore_n 3, 1) := by decide +kernel
theorem d_Law_law_20 : decode b_Law_law 20 = .ok (.iconst 0, 1) := by decide +kernel
theorem d_Law_law_21 : decode b_Law_law 21 = .ok (.istore 4, 2) := by decide +kernel
theorem d_Law_law_23 : decode b_Law_law 23 = .ok (.iload 4, 2) := by decide +kernel
theorem d_Law_law_25 : decode b_Law_law 25 = .ok (.aload_n 0, 1) := by decide +kernel
theorem d_Law_law_26 : decode b_Law_law 26 = .ok (.arraylength, 1) := by decide +kernel
theorem d_Law_law_27 : decode b_Law_law 27 = .ok (.iconst 5, 1) := by decide +kernel
theorem d_Law_law_28 : decode b_Law_law 28 = .ok (.isub, 1) := by decide +kernel
theorem d_Law_law_29 : decode b_Law_law 29 = .ok (.if_icmp .gt 517, 3) := by decide +kernel
theorem d_Law_law_32 : decode b_Law_law 32 = .ok (.aload_n 0, 1) := by decide +kernel
theorem d_Law_law_33 : decode b_Law_law 33 = .ok (.iload 4, 2) := by decide +kernel
theorem d_Law_law_35 : decode b_Law_law 35 = .ok (.iaload, 1) := by decide +kernel
theorem d_Law_law_36 : decode b_Law_law 36 = .ok (.bipush 15, 2) := by decide +kernel
theorem d_Law_law_38 : decode b_Law_law 38 = .ok (.iand, 1) := by decide +kernel
theorem d_Law_law_39 : decode b_Law_law 39 = .ok (.tableswitch 501 0 12 #[65, 126, 195, 208, 221, 246, 283, 308, 352, 377, 414, 451, 488], 65) := by decide +kernel
theorem d_Law_law_104 : decode b_Law_law 104 = .ok (.aload_n 1, 1) := by decide +kernel
theorem d_Law_law_105 : decode b_Law_law 105 = .ok (.aload_n 0, 1) := by decide +kernel
theorem d_Law_law_106 : decode b_Law_law 106 = .ok (.iload 4, 2) := by decide +kernel
theorem d_Law_law_108 : decode b_Law_law 108 = .ok (.iconst 1, 1) := by decide +kernel
theorem d_Law_law_109 : decode b_Law_law 109 = .ok (.iadd, 1) := by decide +kernel
theorem d_Law_law_110 : decode b_Law_law 110 = .ok (.iaload, 1) := by decide +kernel
theorem d_Law_law_111 : decode b_Law_law 111 = .ok (.aload_n 0, 1) := by decide +kernel
theorem d_Law_law_112 : decode b_Law_law 112 = .ok (.iload 4, 2) := by decide +kernel
theorem d_Law_law_114 : decode b_Law_law 114 = .ok (.iconst 2, 1) := by decide +kernel
theorem d_Law_law_115 : decode b_Law_law 115 = .ok (.iadd, 1) := by decide +kernel
theorem d_Law_law_116 : decode b_Law_law 116 = .ok (.iaload, 1) := by decide +kernel
theorem d_Law_law_117 : decode b_Law_law 117 = .ok (.aload_n 0, 1) := by decide +kernel
theorem d_Law_law_118 : decode b_Law_law 118 = .ok (.iload 4, 2) := by decide +kernel
theorem d_Law_law_120 : decode b_Law_law 120 = .ok (.iconst 3, 1) := by decide +kernel
theorem d_Law_law_121 : decode b_Law_law 121 = .ok (.iadd, 1) := by decide +kernel
theorem d_Law_law_122 : decode b_Law_law 122 = .ok (.iaload, 1) := by decide +kernel
theorem d_Law_law_123 : decode b_Law_law 123 = .ok (.aload_n 0, 1) := by decide +kernel
theorem d_Law_law_124 : decode b_Law_law 124 = .ok (.iload 4, 2) := by decide +kernel
theorem d_Law_law_126 : decode b_Law_law 126 = .ok (.iconst 4, 1) := by decide +kernel
theorem d_Law_law_127 : decode b_Law_law 127 = .ok (.iadd, 1) := by decide +kernel
theorem d_Law_law_128 : decode b_Law_law 128 = .ok (.iaload, 1) := by decide +kernel
theorem d_Law_law_129 : decode b_Law_law 129 = .ok (.invokevirtual 19, 3) := by decide +kernel
theorem d_Law_law_132 : decode b_Law_law 132 = .ok (.aload_n 2, 1) := by decide +kernel
theorem d_Law_law_133 : decode b_Law_law 133 = .ok (.aload_n 0, 1) := by decide +kernel
theorem d_Law_law_134 : decode b_Law_law 134 = .ok (.iload 4, 2) := by decide +kernel
theorem d_Law_law_136 : decode b_Law_law 136 = .ok (.iconst 1, 1) := by decide +kernel
theorem d_Law_law_137 : decode b_Law_law 137 = .ok (.iadd, 1) := by decide +kernel
theorem d_Law_law_138 : decode b_Law_law 138 = .ok (.iaload, 1) := by decide +kernel
theorem d_Law_law_139 : decode b_Law_law 139 = .ok (.aload_n 0, 1) := by decide +kernel
theorem d_Law_law_140 : decode b_Law_law 140 = .ok (.iload 4, 2) := by decide +kernel
theorem d_Law_law_142 : decode b_Law_law 142 = .ok (.iconst 2, 1) := by decide +kernel
theorem d_Law_law_143 : decode b_Law_law 143 = .ok (.iadd, 1) := by decide +kernel
theorem d_Law_law_144 : decode b_Law_law 144 = .ok (.iaload, 1) := by decide +kernel
theorem d_Law_law_145 : decode b_Law_law 145 = .ok (.aload_n 0, 1) := by decide +kernel
theorem d_Law_law_146 : decode b_Law_law 146 = .ok (.iload 4, 2) := by decide +kernel
theorem d_Law_law_148 : decode b_Law_law 148 = .ok (.iconst 3, 1) := by decide +kernel
theorem d_Law_law_149 : decode b_Law_law 149 = .ok (.iadd, 1) := by decide +kernel
theorem d_Law_law_150 : decode b_Law_law 150 = .ok (.iaload, 1) := by decide +kernel
theorem d_Law_law_151 : decode b_Law_law 151 = .ok (.aload_n 0, 1) := by decide +kernel
theorem d_Law_law_152 : decode b_Law_law 152 = .ok (.iload 4, 2) := by decide +kernel
theorem d_Law_law_154 : decode b_Law_law 154 = .ok (.iconst 4, 1) := by decide +kernel
theorem d_Law_law_155 : decode b_Law_law 155 = .ok (.iadd, 1) := by decide +kernel
theorem d_Law_law_156 : decode b_Law_law 156 = .ok (.iaload, 1) := by decide +kernel
theorem d_Law_law_157 : decode b_Law_law 157 = .ok (.invokevirtual 23, 3) := by decide +kernel
theorem d_Law_law_160 : decode b_Law_law 160 = .ok (.if_icmp .eq 380, 3) := by decide +kernel
theorem d_Law_law_163 : decode b_Law_law 163 = .ok (.iconst 0, 1) := by decide +kernel
theorem d_Law_law_164 : decode b_Law_law 164 = .ok (.ireturn, 1) := by decide +kernel
theorem d_Law_law_165 : decode b_Law_law 165 = .ok (.aload_n 1, 1) := by decide +kernel
theorem d_Law_law_166 : decode b_Law_law 166 = .ok (.aload_n 0, 1) := by decide +kernel
theorem d_Law_law_167 : decode b_Law_law 167 = .ok (.iload 4, 2) := by decide +kernel
theorem d_Law_law_169 : decode b_Law_law 169 = .ok (.iconst 1, 1) := by decide +kernel
theorem d_Law_law_170 : decode b_Law_law 170 = .ok (.iadd, 1) := by decide +kernel
theorem d_Law_law_171 : decode b_Law_law 171 = .ok (.iaload, 1) := by decide +kernel
theorem d_Law_law_172 : decode b_Law_law 172 = .ok (.aload_n 0, 1) := by decide +kernel
theorem d_Law_law_173 : decode b_Law_law 173 = .ok (.iload 4, 2) := by decide +kernel
theorem d_Law_law_175 : decode b_Law_law 175 = .ok (.iconst 2, 1) := by decide +kernel
theorem d_Law_law_176 : decode b_Law_law 176 = .ok (.iadd, 1) := by decide +kernel
theorem d_Law_law_177 : decode b_Law_law 177 = .ok (.iaload, 1) := by decide +kernel
theorem d_Law_law_178 : decode b_Law_law 178 = .ok (.i2l, 1) := by decide +kernel
theorem d_Law_law_179 : decode b_Law_law 179 = .ok (.bipush 32, 2) := by decide +kernel
theorem d_Law_law_181 : decode b_Law_law 181 = .ok (.lshl, 1) := by decide +kernel
theorem d_Law_law_182 : decode b_Law_law 182 = .ok (.aload_n 0, 1) := by decide +kernel
theorem d_Law_law_183 : decode b_Law_law 183 = .ok (.iload 4, 2) := by decide +kernel
theorem d_Law_law_185 : decode b_Law_law 185 = .ok (.iconst 3, 1) := by decide +kernel
theorem d_Law_law_186 : decode b_Law_law 186 = .ok (.iadd, 1) := by decide +kernel
theorem d_Law_law_187 : decode b_Law_law 187 = .ok (.iaload, 1) := by decide +kernel
theorem d_Law_law_188 : decode b_Law_law 188 = .ok (.i2l, 1) := by decide +kernel
theorem d_Law_law_189 : decode b_Law_law 189 = .ok (.ldc2_w 24, 3) := by decide +kernel
theorem d_Law_law_192 : decode b_Law_law 192 = .ok (.land, 1) := by decide +kernel
theorem d_Law_law_193 : decode b_Law_law 193 = .ok (.lor, 1) := by decide +kernel
theorem d_Law_law_194 : decode b_Law_law 194 = .ok (.invokevirtual 26, 3) := by decide +kernel
theorem d_Law_law_197 : decode b_Law_law 197 = .ok (.aload_n 2, 1) := by decide +kernel
theorem d_Law_law_198 : decode b_Law_law 198 = .ok (.aload_n 0, 1) := by decide +kernel
theorem d_Law_law_199 : decode b_Law_law 199 = .ok (.iload 4, 2) := by decide +kernel
theorem d_Law_law_201 : decode b_Law_law 201 = .ok (.iconst 1, 1) := by decide +kernel
theorem d_Law_law_202 : decode b_Law_law 202 = .ok (.iadd, 1) := by decide +kernel
theorem d_Law_law_203 : decode b_Law_law 203 = .ok (.iaload, 1) := by decide +kernel
theorem d_Law_law_204 : decode b_Law_law 204 = .ok (.aload_n 0, 1) := by decide +kernel
theorem d_Law_law_205 : decode b_Law_law 205 = .ok (.iload 4, 2) := by decide +kernel
theorem d_Law_law_207 : decode b_Law_law 207 = .ok (.iconst 2, 1) := by decide +kernel
theorem d_Law_law_208 : decode b_Law_law 208 = .ok (.iadd, 1) := by decide +kernel
theorem d_Law_law_209 : decode b_Law_law 209 = .ok (.iaload, 1) := by decide +kernel
theorem d_Law_law_210 : decode b_Law_law 210 = .ok (.i2l, 1) := by decide +kernel
theorem d_Law_law_211 : decode b_Law_law 211 = .ok (.bipush 32, 2) := by decide +kernel
theorem d_Law_law_213 : decode b_Law_law 213 = .ok (.lshl, 1) := by decide +kernel
theorem d_Law_law_214 : decode b_Law_law 214 = .ok (.aload_n 0, 1) := by decide +kernel
theorem d_Law_law_215 : decode b_Law_law 215 = .ok (.iload 4, 2) := by decide +kernel
theorem d_Law_law_217 : decode b_Law_law 217 = .ok (.iconst 3, 1) := by decide +kernel
theorem d_Law_law_218 : decode b_Law_law 218 = .ok (.iadd, 1) := by decide +kernel
theorem d_Law_law_219 : decode b_Law_law 219 = .ok (.iaload, 1) := by decide +kernel
theorem d_Law_law_220 : decode b_Law_law 220 = .ok (.i2l, 1) := by decide +kernel
theorem d_Law_law_221 : decode b_Law_law 221 = .ok (.ldc2_w 24, 3) := by decide +kernel
theorem d_Law_law_224 : decode b_Law_law 224 = .ok (.land, 1) := by decide +kernel
theorem d_Law_law_225 : decode b_Law_law 225 = .ok (.lor, 1) := by decide +kernel
theorem d_Law_law_226 : decode b_Law_law 226 = .ok (.invokevirtual 30, 3) := by decide +kernel
theorem d_Law_law_229 : decode b_Law_law 229 = .ok (.if_icmp .eq 311, 3) := by decide +kernel
theorem d_Law_law_232 : decode b_Law_law 232 = .ok (.iconst 0, 1) := by decide +kernel
theorem d_Law_law_233 : decode b_Law_law 233 = .ok (.ireturn, 1) := by decide +kernel
theorem d_Law_law_234 : decode b_Law_law 234 = .ok (.aload_n 1, 1) := by decide +kernel
theorem d_Law_law_235 : decode b_Law_law 235 = .ok (.invokevirtual 31, 3) := by decide +kernel
theorem d_Law_law_238 : decode b_Law_law 238 = .ok (.aload_n 2, 1) := by decide +kernel
theorem d_Law_law_239 : decode b_Law_law 239 = .ok (.invokevirtual 34, 3) := by decide +kernel
theorem d_Law_law_242 : decode b_Law_law 242 = .ok (.if_icmp .eq 298, 3) := by decide +kernel
theorem d_Law_law_245 : decode b_Law_law 245 = .ok (.iconst 0, 1) := by decide +kernel
theorem d_Law_law_246 : decode b_Law_law 246 = .ok (.ireturn, 1) := by decide +kernel
theorem d_Law_law_247 : decode b_Law_law 247 = .ok (.aload_n 1, 1) := by decide +kernel
theorem d_Law_law_248 : decode b_Law_law 248 = .ok (.invokevirtual 35, 3) := by decide +kernel
theorem d_Law_law_251 : decode b_Law_law 251 = .ok (.aload_n 2, 1) := by decide +kernel
theorem d_Law_law_252 : decode b_Law_law 252 = .ok (.invokevirtual 38, 3) := by decide +kernel
theorem d_Law_law_255 : decode b_Law_law 255 = .ok (.if_icmp .eq 285, 3) := by decide +kernel
theorem d_Law_law_258 : decode b_Law_law 258 = .ok (.iconst 0, 1) := by decide +kernel
theorem d_Law_law_259 : decode b_Law_law 259 = .ok (.ireturn, 1) := by decide +kernel
theorem d_Law_law_260 : decode b_Law_law 260 = .ok (.aload_n 1, 1) := by decide +kernel
theorem d_Law_law_261 : decode b_Law_law 261 = .ok (.aload_n 0, 1) := by decide +kernel
theorem d_Law_law_262 : decode b_Law_law 262 = .ok (.iload 4, 2) := by decide +kernel
theorem d_Law_law_264 : decode b_Law_law 264 = .ok (.iconst 1, 1) := by decide +kernel
theorem d_Law_law_265 : decode b_Law_law 265 = .ok (.iadd, 1) := by decide +kernel
theorem d_Law_law_266 : decode b_Law_law 266 = .ok (.iaload, 1) := by decide +kernel
theorem d_Law_law_267 : decode b_Law_law 267 = .ok (.invokevirtual 39, 3) := by decide +kernel
theorem d_Law_law_270 : decode b_Law_law 270 = .ok (.aload_n 2, 1) := by decide +kernel
theorem d_Law_law_271 : decode b_Law_law 271 = .ok (.aload_n 0, 1) := by decide +kernel
theorem d_Law_law_272 : decode b_Law_law 272 = .ok (.iload 4, 2) := by decide +kernel
theorem d_Law_law_274 : decode b_Law_law 274 = .ok (.iconst 1, 1) := by decide +kernel
theorem d_Law_law_275 : decode b_Law_law 275 = .ok (.iadd, 1) := by decide +kernel
theorem d_Law_law_276 : decode b_Law_law 276 = .ok (.iaload, 1) := by decide +kernel
theorem d_Law_law_277 : decode b_Law_law 277 = .ok (.invokevirtual 43, 3) := by decide +kernel
theorem d_Law_law_280 : decode b_Law_law 280 = .ok (.if_icmp .eq 260, 3) := by decide +kernel
theorem d_Law_law_283 : decode b_Law_law 283 = .ok (.iconst 0, 1) := by decide +kernel
theorem d_Law_law_284 : decode b_Law_law 284 = .ok (.ireturn, 1) := by decide +kernel
theorem d_Law_law_285 : decode b_Law_law 285 = .ok (.aload_n 1, 1) := by decide +kernel
theorem d_Law_law_286 : decode b_Law_law 286 = .ok (.aload_n 0, 1) := by decide +kernel
theorem d_Law_law_287 : decode b_Law_law 287 = .ok (.iload 4, 2) := by decide +kernel
theorem d_Law_law_289 : decode b_Law_law 289 = .ok (.iconst 1, 1) := by decide +kernel
theorem d_Law_law_290 : decode b_Law_law 290 = .ok (.iadd, 1) := by decide +kernel
theorem d_Law_law_291 : decode b_Law_law 291 = .ok (.iaload, 1) := by decide +kernel
theorem d_Law_law_292 : decode b_Law_law 292 = .ok (.aload_n 0, 1) := by decide +kernel
theorem d_Law_law_293 : decode b_Law_law 293 = .ok (.iload 4, 2) := by decide +kernel
theorem d_Law_law_295 : decode b_Law_law 295 = .ok (.iconst 2, 1) := by decide +kernel
theorem d_Law_law_296 : decode b_Law_law 296 = .ok (.iadd, 1) := by decide +kernel
theorem d_Law_law_297 : decode b_Law_law 297 = .ok (.iaload, 1) := by decide +kernel
theorem d_Law_law_298 : decode b_Law_law 298 = .ok (.invokevirtual 44, 3) := by decide +kernel
theorem d_Law_law_301 : decode b_Law_law 301 = .ok (.aload_n 2, 1) := by decide +kernel
theorem d_Law_law_302 : decode b_Law_law 302 = .ok (.aload_n 0, 1) := by decide +kernel
theorem d_Law_law_303 : decode b_Law_law 303 = .ok (.iload 4, 2) := by decide +kernel
theorem d_Law_law_305 : decode b_Law_law 305 = .ok (.iconst 1, 1) := by decide +kernel
theorem d_Law_law_306 : decode b_Law_law 306 = .ok (.iadd, 1) := by decide +kernel
theorem d_Law_law_307 : decode b_Law_law 307 = .ok (.iaload, 1) := by decide +kernel
theorem d_Law_law_308 : decode b_Law_law 308 = .ok (.aload_n 0, 1) := by decide +kernel
theorem d_Law_law_309 : decode b_Law_law 309 = .ok (.iload 4, 2) := by decide +kernel
theorem d_Law_law_311 : decode b_Law_law 311 = .ok (.iconst 2, 1) := by decide +kernel
theorem d_Law_law_312 : decode b_Law_law 312 = .ok (.iadd, 1) := by decide +kernel
theorem d_Law_law_313 : decode b_Law_law 313 = .ok (.iaload, 1) := by decide +kernel
theorem d_Law_law_314 : decode b_Law_law 314 = .ok (.invokevirtual 48, 3) := by decide +kernel
theorem d_Law_law_317 : decode b_Law_law 317 = .ok (.if_icmp .eq 223, 3) := by decide +kernel
theorem d_Law_law_320 : decode b_Law_law 320 = .ok (.iconst 0, 1) := by decide +kernel
theorem d_Law_law_321 : decode b_Law_law 321 = .ok (.ireturn, 1) := by decide +kernel
theorem d_Law_law_322 : decode b_Law_law 322 = .ok (.aload_n 1, 1) := by decide +kernel
theorem d_Law_law_323 : decode b_Law_law 323 = .ok (.aload_n 0, 1) := by decide +kernel
theorem d_Law_law_324 : decode b_Law_law 324 = .ok (.iload 4, 2) := by decide +kernel
theorem d_Law_law_326 : decode b_Law_law 326 = .ok (.iconst 1, 1) := by decide +kernel
theorem d_Law_law_327 : decode b_Law_law 327 = .ok (.iadd, 1) := by decide +kernel
theorem d_Law_law_328 : decode b_Law_law 328 = .ok (.iaload, 1) := by decide +kernel
theorem d_Law_law_329 : decode b_Law_law 329 = .ok (.invokevirtual 49, 3) := by decide +kernel
theorem d_Law_law_332 : decode b_Law_law 332 = .ok (.aload_n 2, 1) := by decide +kernel
theorem d_Law_law_333 : decode b_Law_law 333 = .ok (.aload_n 0, 1) := by decide +kernel
theorem d_Law_law_334 : decode b_Law_law 334 = .ok (.iload 4, 2) := by decide +kernel
theorem d_Law_law_336 : decode b_Law_law 336 = .ok (.iconst 1, 1) := by decide +kernel
theorem d_Law_law_337 : decode b_Law_law 337 = .ok (.iadd, 1) := by decide +kernel
theorem d_Law_law_338 : decode b_Law_law 338 = .ok (.iaload, 1) := by decide +kernel
theorem d_Law_law_339 : decode b_Law_law 339 = .ok (.invokevirtual 53, 3) := by decide +kernel
theorem d_Law_law_342 : decode b_Law_law 342 = .ok (.if_icmp .eq 198, 3) := by decide +kernel
theorem d_Law_law_345 : decode b_Law_law 345 = .ok (.iconst 0, 1) := by decide +kernel
theorem d_Law_law_346 : decode b_Law_law 346 = .ok (.ireturn, 1) := by decide +kernel
theorem d_Law_law_347 : decode b_Law_law 347 = .ok (.aload_n 1, 1) := by decide +kernel
theorem d_Law_law_348 : decode b_Law_law 348 = .ok (.aload_n 3, 1) := by decide +kernel
theorem d_Law_law_349 : decode b_Law_law 349 = .ok (.invokestatic 54, 3) := by decide +kernel
theorem d_Law_law_352 : decode b_Law_law 352 = .ok (.istore 5, 2) := by decide +kernel
theorem d_Law_law_354 : decode b_Law_law 354 = .ok (.aload_n 2, 1) := by decide +kernel
theorem d_Law_law_355 : decode b_Law_law 355 = .ok (.invokevirtual 59, 3) := by decide +kernel
theorem d_Law_law_358 : decode b_Law_law 358 = .ok (.istore 6, 2) := by decide +kernel
theorem d_Law_law_360 : decode b_Law_law 360 = .ok (.aload_n 2, 1) := by decide +kernel
theorem d_Law_law_361 : decode b_Law_law 361 = .ok (.invokevirtual 60, 3) := by decide +kernel
theorem d_Law_law_364 : decode b_Law_law 364 = .ok (.iload 5, 2) := by decide +kernel
theorem d_Law_law_366 : decode b_Law_law 366 = .ok (.if_icmp .eq 5, 3) := by decide +kernel
theorem d_Law_law_369 : decode b_Law_law 369 = .ok (.iconst 0, 1) := by decide +kernel
theorem d_Law_law_370 : decode b_Law_law 370 = .ok (.ireturn, 1) := by decide +kernel
theorem d_Law_law_371 : decode b_Law_law 371 = .ok (.iload 5, 2) := by decide +kernel
theorem d_Law_law_373 : decode b_Law_law 373 = .ok (.ifCond .ne 15, 3) := by decide +kernel
theorem d_Law_law_376 : decode b_Law_law 376 = .ok (.aload_n 3, 1) := by decide +kernel
theorem d_Law_law_377 : decode b_Law_law 377 = .ok (.iconst 0, 1) := by decide +kernel
theorem d_Law_law_378 : decode b_Law_law 378 = .ok (.laload, 1) := by decide +kernel
theorem d_Law_law_379 : decode b_Law_law 379 = .ok (.iload 6, 2) := by decide +kernel
theorem d_Law_law_381 : decode b_Law_law 381 = .ok (.i2l, 1) := by decide +kernel
theorem d_Law_law_382 : decode b_Law_law 382 = .ok (.lcmp, 1) := by decide +kernel
theorem d_Law_law_383 : decode b_Law_law 383 = .ok (.ifCond .eq 5, 3) := by decide +kernel
theorem d_Law_law_386 : decode b_Law_law 386 = .ok (.iconst 0, 1) := by decide +kernel
theorem d_Law_law_387 : decode b_Law_law 387 = .ok (.ireturn, 1) := by decide +kernel
theorem d_Law_law_388 : decode b_Law_law 388 = .ok (.goto 152, 3) := by decide +kernel
theorem d_Law_law_391 : decode b_Law_law 391 = .ok (.aload_n 1, 1) := by decide +kernel
theorem d_Law_law_392 : decode b_Law_law 392 = .ok (.aload_n 0, 1) := by decide +kernel
theorem d_Law_law_393 : decode b_Law_law 393 = .ok (.iload 4, 2) := by decide +kernel
theorem d_Law_law_395 : decode b_Law_law 395 = .ok (.iconst 1, 1) := by decide +kernel
theorem d_Law_law_396 : decode b_Law_law 396 = .ok (.iadd, 1) := by decide +kernel
theorem d_Law_law_397 : decode b_Law_law 397 = .ok (.iaload, 1) := by decide +kernel
theorem d_Law_law_398 : decode b_Law_law 398 = .ok (.invokevirtual 63, 3) := by decide +kernel
theorem d_Law_law_401 : decode b_Law_law 401 = .ok (.aload_n 2, 1) := by decide +kernel
theorem d_Law_law_402 : decode b_Law_law 402 = .ok (.aload_n 0, 1) := by decide +kernel
theorem d_Law_law_403 : decode b_Law_law 403 = .ok (.iload 4, 2) := by decide +kernel
theorem d_Law_law_405 : decode b_Law_law 405 = .ok (.iconst 1, 1) := by decide +kernel
theorem d_Law_law_406 : decode b_Law_law 406 = .ok (.iadd, 1) := by decide +kernel
theorem d_Law_law_407 : decode b_Law_law 407 = .ok (.iaload, 1) := by decide +kernel
theorem d_Law_law_408 : decode b_Law_law 408 = .ok (.invokevirtual 66, 3) := by decide +kernel
theorem d_Law_law_411 : decode b_Law_law 411 = .ok (.if_icmp .eq 129, 3) := by decide +kernel
theorem d_Law_law_414 : decode b_Law_law 414 = .ok (.iconst 0, 1) := by decide +kernel
theorem d_Law_law_415 : decode b_Law_law 415 = .ok (.ireturn, 1) := by decide +kernel
theorem d_Law_law_416 : decode b_Law_law 416 = .ok (.aload_n 1, 1) := by decide +kernel
theorem d_Law_law_417 : decode b_Law_law 417 = .ok (.aload_n 0, 1) := by decide +kernel
theorem d_Law_law_418 : decode b_Law_law 418 = .ok (.iload 4, 2) := by decide +kernel
theorem d_Law_law_420 : decode b_Law_law 420 = .ok (.iconst 1, 1) := by decide +kernel
theorem d_Law_law_421 : decode b_Law_law 421 = .ok (.iadd, 1) := by decide +kernel
theorem d_Law_law_422 : decode b_Law_law 422 = .ok (.iaload, 1) := by decide +kernel
theorem d_Law_law_423 : decode b_Law_law 423 = .ok (.aload_n 0, 1) := by decide +kernel
theorem d_Law_law_424 : decode b_Law_law 424 = .ok (.iload 4, 2) := by decide +kernel
theorem d_Law_law_426 : decode b_Law_law 426 = .ok (.iconst 2, 1) := by decide +kernel
theorem d_Law_law_427 : decode b_Law_law 427 = .ok (.iadd, 1) := by decide +kernel
theorem d_Law_law_428 : decode b_Law_law 428 = .ok (.iaload, 1) := by decide +kernel
theorem d_Law_law_429 : decode b_Law_law 429 = .ok (.invokevirtual 67, 3) := by decide +kernel
theorem d_Law_law_432 : decode b_Law_law 432 = .ok (.aload_n 2, 1) := by decide +kernel
theorem d_Law_law_433 : decode b_Law_law 433 = .ok (.aload_n 0, 1) := by decide +kernel
theorem d_Law_law_434 : decode b_Law_law 434 = .ok (.iload 4, 2) := by decide +kernel
theorem d_Law_law_436 : decode b_Law_law 436 = .ok (.iconst 1, 1) := by decide +kernel
theorem d_Law_law_437 : decode b_Law_law 437 = .ok (.iadd, 1) := by decide +kernel
theorem d_Law_law_438 : decode b_Law_law 438 = .ok (.iaload, 1) := by decide +kernel
theorem d_Law_law_439 : decode b_Law_law 439 = .ok (.aload_n 0, 1) := by decide +kernel
theorem d_Law_law_440 : decode b_Law_law 440 = .ok (.iload 4, 2) := by decide +kernel
theorem d_Law_law_442 : decode b_Law_law 442 = .ok (.iconst 2, 1) := by decide +kernel
theorem d_Law_law_443 : decode b_Law_law 443 = .ok (.iadd, 1) := by decide +kernel
theorem d_Law_law_444 : decode b_Law_law 444 = .ok (.iaload, 1) := by decide +kernel
theorem d_Law_law_445 : decode b_Law_law 445 = .ok (.invokevirtual 71, 3) := by decide +kernel
theorem d_Law_law_448 : decode b_Law_law 448 = .ok (.if_icmp .eq 92, 3) := by decide +kernel
theorem d_Law_law_451 : decode b_Law_law 451 = .ok (.iconst 0, 1) := by decide +kernel
theorem d_Law_law_452 : decode b_Law_law 452 = .ok (.ireturn, 1) := by decide +kernel
theorem d_Law_law_453 : decode b_Law_law 453 = .ok (.aload_n 1, 1) := by decide +kernel
theorem d_Law_law_454 : decode b_Law_law 454 = .ok (.aload_n 0, 1) := by decide +kernel
theorem d_Law_law_455 : decode b_Law_law 455 = .ok (.iload 4, 2) := by decide +kernel
theorem d_Law_law_457 : decode b_Law_law 457 = .ok (.iconst 1, 1) := by decide +kernel
theorem d_Law_law_458 : decode b_Law_law 458 = .ok (.iadd, 1) := by decide +kernel
theorem d_Law_law_459 : decode b_Law_law 459 = .ok (.iaload, 1) := by decide +kernel
theorem d_Law_law_460 : decode b_Law_law 460 = .ok (.aload_n 0, 1) := by decide +kernel
theorem d_Law_law_461 : decode b_Law_law 461 = .ok (.iload 4, 2) := by decide +kernel
theorem d_Law_law_463 : decode b_Law_law 463 = .ok (.iconst 2, 1) := by decide +kernel
theorem d_Law_law_464 : decode b_Law_law 464 = .ok (.iadd, 1) := by decide +kernel
theorem d_Law_law_465 : decode b_Law_law 465 = .ok (.iaload, 1) := by decide +kernel
theorem d_Law_law_466 : decode b_Law_law 466 = .ok (.invokevirtual 72, 3) := by decide +kernel
theorem d_Law_law_469 : decode b_Law_law 469 = .ok (.aload_n 2, 1) := by decide +kernel
theorem d_Law_law_470 : decode b_Law_law 470 = .ok (.aload_n 0, 1) := by decide +kernel
theorem d_Law_law_471 : decode b_Law_law 471 = .ok (.iload 4, 2) := by decide +kernel
theorem d_Law_law_473 : decode b_Law_law 473 = .ok (.iconst 1, 1) := by decide +kernel
theorem d_Law_law_474 : decode b_Law_law 474 = .ok (.iadd, 1) := by decide +kernel
theorem d_Law_law_475 : decode b_Law_law 475 = .ok (.iaload, 1) := by decide +kernel
theorem d_Law_law_476 : decode b_Law_law 476 = .ok (.aload_n 0, 1) := by decide +kernel
theorem d_Law_law_477 : decode b_Law_law 477 = .ok (.iload 4, 2) := by decide +kernel
theorem d_Law_law_479 : decode b_Law_law 479 = .ok (.iconst 2, 1) := by decide +kernel
theorem d_Law_law_480 : decode b_Law_law 480 = .ok (.iadd, 1) := by decide +kernel
theorem d_Law_law_481 : decode b_Law_law 481 = .ok (.iaload, 1) := by decide +kernel
theorem d_Law_law_482 : decode b_Law_law 482 = .ok (.invokevirtual 75, 3) := by decide +kernel
theorem d_Law_law_485 : decode b_Law_law 485 = .ok (.if_icmp .eq 55, 3) := by decide +kernel
theorem d_Law_law_488 : decode b_Law_law 488 = .ok (.iconst 0, 1) := by decide +kernel
theorem d_Law_law_489 : decode b_Law_law 489 = .ok (.ireturn, 1) := by decide +kernel
theorem d_Law_law_490 : decode b_Law_law 490 = .ok (.aload_n 1, 1) := by decide +kernel
theorem d_Law_law_491 : decode b_Law_law 491 = .ok (.aload_n 0, 1) := by decide +kernel
theorem d_Law_law_492 : decode b_Law_law 492 = .ok (.iload 4, 2) := by decide +kernel
theorem d_Law_law_494 : decode b_Law_law 494 = .ok (.iconst 1, 1) := by decide +kernel
theorem d_Law_law_495 : decode b_Law_law 495 = .ok (.iadd, 1) := by decide +kernel
theorem d_Law_law_496 : decode b_Law_law 496 = .ok (.iaload, 1) := by decide +kernel
theorem d_Law_law_497 : decode b_Law_law 497 = .ok (.aload_n 0, 1) := by decide +kernel
theorem d_Law_law_498 : decode b_Law_law 498 = .ok (.iload 4, 2) := by decide +kernel
theorem d_Law_law_500 : decode b_Law_law 500 = .ok (.iconst 2, 1) := by decide +kernel
theorem d_Law_law_501 : decode b_Law_law 501 = .ok (.iadd, 1) := by decide +kernel
theorem d_Law_law_502 : decode b_Law_law 502 = .ok (.iaload, 1) := by decide +kernel
theorem d_Law_law_503 : decode b_Law_law 503 = .ok (.invokevirtual 76, 3) := by decide +kernel
theorem d_Law_law_506 : decode b_Law_law 506 = .ok (.aload_n 2, 1) := by decide +kernel
theorem d_Law_law_507 : decode b_Law_law 507 = .ok (.aload_n 0, 1) := by decide +kernel
theorem d_Law_law_508 : decode b_Law_law 508 = .ok (.iload 4, 2) := by decide +kernel
theorem d_Law_law_510 : decode b_Law_law 510 = .ok (.iconst 1, 1) := by decide +kernel
theorem d_Law_law_511 : decode b_Law_law 511 = .ok (.iadd, 1) := by decide +kernel
theorem d_Law_law_512 : decode b_Law_law 512 = .ok (.iaload, 1) := by decide +kernel
theorem d_Law_law_513 : decode b_Law_law 513 = .ok (.aload_n 0, 1) := by decide +kernel
theorem d_Law_law_514 : decode b_Law_law 514 = .ok (.iload 4, 2) := by decide +kernel
theorem d_Law_law_516 : decode b_Law_law 516 = .ok (.iconst 2, 1) := by decide +kernel
theorem d_Law_law_517 : decode b_Law_law 517 = .ok (.iadd, 1) := by decide +kernel
theorem d_Law_law_518 : decode b_Law_law 518 = .ok (.iaload, 1) := by decide +kernel
theorem d_Law_law_519 : decode b_Law_law 519 = .ok (.invokevirtual 79, 3) := by decide +kernel
theorem d_Law_law_522 : decode b_Law_law 522 = .ok (.if_icmp .eq 18, 3) := by decide +kernel
theorem d_Law_law_525 : decode b_Law_law 525 = .ok (.iconst 0, 1) := by decide +kernel
theorem d_Law_law_526 : decode b_Law_law 526 = .ok (.ireturn, 1) := by decide +kernel
theorem d_Law_law_527 : decode b_Law_law 527 = .ok (.aload_n 1, 1) := by decide +kernel
theorem d_Law_law_528 : decode b_Law_law 528 = .ok (.invokevirtual 80, 3) := by decide +kernel
theorem d_Law_law_531 : decode b_Law_law 531 = .ok (.aload_n 2, 1) := by decide +kernel
theorem d_Law_law_532 : decode b_Law_law 532 = .ok (.invokevirtual 83, 3) := by decide +kernel
theorem d_Law_law_535 : decode b_Law_law 535 = .ok (.if_icmp .eq 5, 3) := by decide +kernel
theorem d_Law_law_538 : decode b_Law_law 538 = .ok (.iconst 0, 1) := by decide +kernel
theorem d_Law_law_539 : decode b_Law_law 539 = .ok (.ireturn, 1) := by decide +kernel
theorem d_Law_law_540 : decode b_Law_law 540 = .ok (.iinc 4 5, 3) := by decide +kernel
theorem d_Law_law_543 : decode b_Law_law 543 = .ok (.goto (-520), 3) := by decide +kernel
theorem d_Law_law_546 : decode b_Law_law 546 = .ok (.iconst 1, 1) := by decide +kernel
theorem d_Law_law_547 : decode b_Law_law 547 = .ok (.ireturn, 1) := by decide +kernel
theorem d_Mod_above_0 : decode b_Mod_above 0 = .ok (.aload_n 0, 1) := by decide +kernel
theorem d_Mod_above_1 : decode b_Mod_above 1 = .ok (.iload_n 1, 1) := by decide +kernel
theorem d_Mod_above_2 : decode b_Mod_above 2 = .ok (.iload_n 2, 1) := by decide +kernel
theorem d_Mod_above_3 : decode b_Mod_above 3 = .ok (.iconst 1, 1) := by decide +kernel
theorem d_Mod_above_4 : decode b_Mod_above 4 = .ok (.isub, 1) := by decide +kernel
theorem d_Mod_above_5 : decode b_Mod_above 5 = .ok (.invokevirtual 134, 3) := by decide +kernel
theorem d_Mod_above_8 : decode b_Mod_above 8 = .ok (.ireturn, 1) := by decide +kernel
theorem d_Mod_before_0 : decode b_Mod_before 0 = .ok (.iload_n 1, 1) := by decide +kernel
theorem d_Mod_before_1 : decode b_Mod_before 1 = .ok (.ifCond .le 14, 3) := by decide +kernel
theorem d_Mod_before_4 : decode b_Mod_before 4 = .ok (.aload_n 0, 1) := by decide +kernel
theorem d_Mod_before_5 : decode b_Mod_before 5 = .ok (.iload_n 1, 1) := by decide +kernel
theorem d_Mod_before_6 : decode b_Mod_before 6 = .ok (.iconst 1, 1) := by decide +kernel
theorem d_Mod_before_7 : decode b_Mod_before 7 = .ok (.isub, 1) := by decide +kernel
theorem d_Mod_before_8 : decode b_Mod_before 8 = .ok (.iload_n 2, 1) := by decide +kernel
theorem d_Mod_before_9 : decode b_Mod_before 9 = .ok (.invokevirtual 134, 3) := by decide +kernel
theorem d_Mod_before_12 : decode b_Mod_before 12 = .ok (.goto 9, 3) := by decide +kernel
theorem d_Mod_before_15 : decode b_Mod_before 15 = .ok (.aload_n 0, 1) := by decide +kernel
theorem d_Mod_before_16 : decode b_Mod_before 16 = .ok (.iconst 0, 1) := by decide +kernel
theorem d_Mod_before_17 : decode b_Mod_before 17 = .ok (.iload_n 2, 1) := by decide +kernel
theorem d_Mod_before_18 : decode b_Mod_before 18 = .ok (.invokevirtual 137, 3) := by decide +kernel
theorem d_Mod_before_21 : decode b_Mod_before 21 = .ok (.ireturn, 1) := by decide +kernel
theorem d_Mod_beyond_0 : decode b_Mod_beyond 0 = .ok (.iload_n 1, 1) := by decide +kernel
theorem d_Mod_beyond_1 : decode b_Mod_beyond 1 = .ok (.aload_n 0, 1) := by decide +kernel
theorem d_Mod_beyond_2 : decode b_Mod_beyond 2 = .ok (.getfield 7, 3) := by decide +kernel
theorem d_Mod_beyond_5 : decode b_Mod_beyond 5 = .ok (.iconst 1, 1) := by decide +kernel
theorem d_Mod_beyond_6 : decode b_Mod_beyond 6 = .ok (.isub, 1) := by decide +kernel
theorem d_Mod_beyond_7 : decode b_Mod_beyond 7 = .ok (.if_icmp .ge 16, 3) := by decide +kernel
theorem d_Mod_beyond_10 : decode b_Mod_beyond 10 = .ok (.aload_n 0, 1) := by decide +kernel
theorem d_Mod_beyond_11 : decode b_Mod_beyond 11 = .ok (.iload_n 1, 1) := by decide +kernel
theorem d_Mod_beyond_12 : decode b_Mod_beyond 12 = .ok (.iconst 1, 1) := by decide +kernel
theorem d_Mod_beyond_13 : decode b_Mod_beyond 13 = .ok (.iadd, 1) := by decide +kernel
theorem d_Mod_beyond_14 : decode b_Mod_beyond 14 = .ok (.iload_n 2, 1) := by decide +kernel
theorem d_Mod_beyond_15 : decode b_Mod_beyond 15 = .ok (.iconst 1, 1) := by decide +kernel
theorem d_Mod_beyond_16 : decode b_Mod_beyond 16 = .ok (.isub, 1) := by decide +kernel
theorem d_Mod_beyond_17 : decode b_Mod_beyond 17 = .ok (.invokevirtual 134, 3) := by decide +kernel
theorem d_Mod_beyond_20 : decode b_Mod_beyond 20 = .ok (.goto 9, 3) := by decide +kernel
theorem d_Mod_beyond_23 : decode b_Mod_beyond 23 = .ok (.aload_n 0, 1) := by decide +kernel
theorem d_Mod_beyond_24 : decode b_Mod_beyond 24 = .ok (.iload_n 1, 1) := by decide +kernel
theorem d_Mod_beyond_25 : decode b_Mod_beyond 25 = .ok (.iload_n 2, 1) := by decide +kernel
theorem d_Mod_beyond_26 : decode b_Mod_beyond 26 = .ok (.invokevirtual 137, 3) := by decide +kernel
theorem d_Mod_beyond_29 : decode b_Mod_beyond 29 = .ok (.ireturn, 1) := by decide +kernel
theorem d_Mod_clamp_0 : decode b_Mod_clamp 0 = .ok (.iload_n 1, 1) := by decide +kernel
theorem d_Mod_clamp_1 : decode b_Mod_clamp 1 = .ok (.aload_n 0, 1) := by decide +kernel
theorem d_Mod_clamp_2 : decode b_Mod_clamp 2 = .ok (.getfield 16, 3) := by decide +kernel
theorem d_Mod_clamp_5 : decode b_Mod_clamp 5 = .ok (.if_icmp .gt 8, 3) := by decide +kernel
theorem d_Mod_clamp_8 : decode b_Mod_clamp 8 = .ok (.iload_n 1, 1) := by decide +kernel
theorem d_Mod_clamp_9 : decode b_Mod_clamp 9 = .ok (.iload_n 2, 1) := by decide +kernel
theorem d_Mod_clamp_10 : decode b_Mod_clamp 10 = .ok (.if_icmp .ge 7, 3) := by decide +kernel
theorem d_Mod_clamp_13 : decode b_Mod_clamp 13 = .ok (.iload_n 2, 1) := by decide +kernel
theorem d_Mod_clamp_14 : decode b_Mod_clamp 14 = .ok (.goto 4, 3) := by decide +kernel
theorem d_Mod_clamp_17 : decode b_Mod_clamp 17 = .ok (.iload_n 1, 1) := by decide +kernel
theorem d_Mod_clamp_18 : decode b_Mod_clamp 18 = .ok (.ireturn, 1) := by decide +kernel
theorem d_Mod_code_0 : decode b_Mod_code 0 = .ok (.aload_n 0, 1) := by decide +kernel
theorem d_Mod_code_1 : decode b_Mod_code 1 = .ok (.iconst 0, 1) := by decide +kernel
theorem d_Mod_code_2 : decode b_Mod_code 2 = .ok (.putfield 47, 3) := by decide +kernel
theorem d_Mod_code_5 : decode b_Mod_code 5 = .ok (.iload_n 1, 1) := by decide +kernel
theorem d_Mod_code_6 : decode b_Mod_code 6 = .ok (.ifCond .lt 20, 3) := by decide +kernel
theorem d_Mod_code_9 : decode b_Mod_code 9 = .ok (.iload_n 1, 1) := by decide +kernel
theorem d_Mod_code_10 : decode b_Mod_code 10 = .ok (.aload_n 0, 1) := by decide +kernel
theorem d_Mod_code_11 : decode b_Mod_code 11 = .ok (.getfield 91, 3) := by decide +kernel
theorem d_Mod_code_14 : decode b_Mod_code 14 = .ok (.if_icmp .ge 12, 3) := by decide +kernel
theorem d_Mod_code_17 : decode b_Mod_code 17 = .ok (.aload_n 0, 1) := by decide +kernel
theorem d_Mod_code_18 : decode b_Mod_code 18 = .ok (.getfield 29, 3) := by decide +kernel
theorem d_Mod_code_21 : decode b_Mod_code 21 = .ok (.iload_n 1, 1) := by decide +kernel
theorem d_Mod_code_22 : decode b_Mod_code 22 = .ok (.iaload, 1) := by decide +kernel
theorem d_Mod_code_23 : decode b_Mod_code 23 = .ok (.goto 4, 3) := by decide +kernel
theorem d_Mod_code_26 : decode b_Mod_code 26 = .ok (.iconst (-1), 1) := by decide +kernel
theorem d_Mod_code_27 : decode b_Mod_code 27 = .ok (.ireturn, 1) := by decide +kernel
theorem d_Mod_context_0 : decode b_Mod_context 0 = .ok (.aload_n 0, 1) := by decide +kernel
theorem d_Mod_context_1 : decode b_Mod_context 1 = .ok (.iconst 0, 1) := by decide +kernel
theorem d_Mod_context_2 : decode b_Mod_context 2 = .ok (.putfield 47, 3) := by decide +kernel
theorem d_Mod_context_5 : decode b_Mod_context 5 = .ok (.iload_n 1, 1) := by decide +kernel
theorem d_Mod_context_6 : decode b_Mod_context 6 = .ok (.ifCond .lt 32, 3) := by decide +kernel
theorem d_Mod_context_9 : decode b_Mod_context 9 = .ok (.iload_n 1, 1) := by decide +kernel
theorem d_Mod_context_10 : decode b_Mod_context 10 = .ok (.sipush 367, 3) := by decide +kernel
theorem d_Mod_context_13 : decode b_Mod_context 13 = .ok (.if_icmp .ge 25, 3) := by decide +kernel
theorem d_Mod_context_16 : decode b_Mod_context 16 = .ok (.iload_n 2, 1) := by decide +kernel
theorem d_Mod_context_17 : decode b_Mod_context 17 = .ok (.ifCond .lt 21, 3) := by decide +kernel
theorem d_Mod_context_20 : decode b_Mod_context 20 = .ok (.iload_n 2, 1) := by decide +kernel
theorem d_Mod_context_21 : decode b_Mod_context 21 = .ok (.iconst 5, 1) := by decide +kernel
theorem d_Mod_context_22 : decode b_Mod_context 22 = .ok (.if_icmp .ge 16, 3) := by decide +kernel
theorem d_Mod_context_25 : decode b_Mod_context 25 = .ok (.aload_n 0, 1) := by decide +kernel
theorem d_Mod_context_26 : decode b_Mod_context 26 = .ok (.getfield 26, 3) := by decide +kernel
theorem d_Mod_context_29 : decode b_Mod_context 29 = .ok (.iconst 5, 1) := by decide +kernel
theorem d_Mod_context_30 : decode b_Mod_context 30 = .ok (.iload_n 1, 1) := by decide +kernel
theorem d_Mod_context_31 : decode b_Mod_context 31 = .ok (.imul, 1) := by decide +kernel
theorem d_Mod_context_32 : decode b_Mod_context 32 = .ok (.iload_n 2, 1) := by decide +kernel
theorem d_Mod_context_33 : decode b_Mod_context 33 = .ok (.iadd, 1) := by decide +kernel
theorem d_Mod_context_34 : decode b_Mod_context 34 = .ok (.iaload, 1) := by decide +kernel
theorem d_Mod_context_35 : decode b_Mod_context 35 = .ok (.goto 5, 3) := by decide +kernel
theorem d_Mod_context_38 : decode b_Mod_context 38 = .ok (.ldc 227, 2) := by decide +kernel
theorem d_Mod_context_40 : decode b_Mod_context 40 = .ok (.ireturn, 1) := by decide +kernel
theorem d_Mod_corner_0 : decode b_Mod_corner 0 = .ok (.iload_n 1, 1) := by decide +kernel
theorem d_Mod_corner_1 : decode b_Mod_corner 1 = .ok (.ifCond .le 16, 3) := by decide +kernel
theorem d_Mod_corner_4 : decode b_Mod_corner 4 = .ok (.aload_n 0, 1) := by decide +kernel
theorem d_Mod_corner_5 : decode b_Mod_corner 5 = .ok (.iload_n 1, 1) := by decide +kernel
theorem d_Mod_corner_6 : decode b_Mod_corner 6 = .ok (.iconst 1, 1) := by decide +kernel
theorem d_Mod_corner_7 : decode b_Mod_corner 7 = .ok (.isub, 1) := by decide +kernel
theorem d_Mod_corner_8 : decode b_Mod_corner 8 = .ok (.iload_n 2, 1) := by decide +kernel
theorem d_Mod_corner_9 : decode b_Mod_corner 9 = .ok (.iconst 1, 1) := by decide +kernel
theorem d_Mod_corner_10 : decode b_Mod_corner 10 = .ok (.isub, 1) := by decide +kernel
theorem d_Mod_corner_11 : decode b_Mod_corner 11 = .ok (.invokevirtual 134, 3) := by decide +kernel
theorem d_Mod_corner_14 : decode b_Mod_corner 14 = .ok (.goto 19, 3) := by decide +kernel
theorem d_Mod_corner_17 : decode b_Mod_corner 17 = .ok (.iload_n 2, 1) := by decide +kernel
theorem d_Mod_corner_18 : decode b_Mod_corner 18 = .ok (.ifCond .le 14, 3) := by decide +kernel
theorem d_Mod_corner_21 : decode b_Mod_corner 21 = .ok (.aload_n 0, 1) := by decide +kernel
theorem d_Mod_corner_22 : decode b_Mod_corner 22 = .ok (.iconst 0, 1) := by decide +kernel
theorem d_Mod_corner_23 : decode b_Mod_corner 23 = .ok (.iload_n 2, 1) := by decide +kernel
theorem d_Mod_corner_24 : decode b_Mod_corner 24 = .ok (.iconst 1, 1) := by decide +kernel
theorem d_Mod_corner_25 : decode b_Mod_corner 25 = .ok (.isub, 1) := by decide +kernel
theorem d_Mod_corner_26 : decode b_Mod_corner 26 = .ok (.invokevirtual 140, 3) := by decide +kernel
theorem d_Mod_corner_29 : decode b_Mod_corner 29 = .ok (.goto 4, 3) := by decide +kernel
theorem d_Mod_corner_32 : decode b_Mod_corner 32 = .ok (.iconst 0, 1) := by decide +kernel
theorem d_Mod_corner_33 : decode b_Mod_corner 33 = .ok (.ireturn, 1) := by decide +kernel
theorem d_Mod_cut_0 : decode b_Mod_cut 0 = .ok (.aload_n 0, 1) := by decide +kernel
theorem d_Mod_cut_1 : decode b_Mod_cut 1 = .ok (.iconst 0, 1) := by decide +kernel
theorem d_Mod_cut_2 : decode b_Mod_cut 2 = .ok (.putfield 47, 3) := by decide +kernel
theorem d_Mod_cut_5 : decode b_Mod_cut 5 = .ok (.iload_n 1, 1) := by decide +kernel
theorem d_Mod_cut_6 : decode b_Mod_cut 6 = .ok (.ifCond .lt 11, 3) := by decide +kernel
theorem d_Mod_cut_9 : decode b_Mod_cut 9 = .ok (.iload_n 1, 1) := by decide +kernel
theorem d_Mod_cut_10 : decode b_Mod_cut 10 = .ok (.aload_n 0, 1) := by decide +kernel
theorem d_Mod_cut_11 : decode b_Mod_cut 11 = .ok (.getfield 91, 3) := by decide +kernel
theorem d_Mod_cut_14 : decode b_Mod_cut 14 = .ok (.if_icmp .le 5, 3) := by decide +kernel
theorem d_Mod_cut_17 : decode b_Mod_cut 17 = .ok (.iconst 0, 1) := by decide +kernel
theorem d_Mod_cut_18 : decode b_Mod_cut 18 = .ok (.ireturn, 1) := by decide +kernel
theorem d_Mod_cut_19 : decode b_Mod_cut 19 = .ok (.aload_n 0, 1) := by decide +kernel
theorem d_Mod_cut_20 : decode b_Mod_cut 20 = .ok (.iload_n 1, 1) := by decide +kernel
theorem d_Mod_cut_21 : decode b_Mod_cut 21 = .ok (.putfield 91, 3) := by decide +kernel
theorem d_Mod_cut_24 : decode b_Mod_cut 24 = .ok (.iconst 1, 1) := by decide +kernel
theorem d_Mod_cut_25 : decode b_Mod_cut 25 = .ok (.ireturn, 1) := by decide +kernel
theorem d_Mod_decode_0 : decode b_Mod_decode 0 = .ok (.aload_n 0, 1) := by decide +kernel
theorem d_Mod_decode_1 : decode b_Mod_decode 1 = .ok (.iconst 0, 1) := by decide +kernel
theorem d_Mod_decode_2 : decode b_Mod_decode 2 = .ok (.putfield 47, 3) := by decide +kernel
theorem d_Mod_decode_5 : decode b_Mod_decode 5 = .ok (.aload_n 0, 1) := by decide +kernel
theorem d_Mod_decode_6 : decode b_Mod_decode 6 = .ok (.getfield 91, 3) := by decide +kernel
theorem d_Mod_decode_9 : decode b_Mod_decode 9 = .ok (.bipush 8, 2) := by decide +kernel
theorem d_Mod_decode_11 : decode b_Mod_decode 11 = .ok (.if_icmp .lt 61, 3) := by decide +kernel
theorem d_Mod_decode_14 : decode b_Mod_decode 14 = .ok (.aload_n 0, 1) := by decide +kernel
theorem d_Mod_decode_15 : decode b_Mod_decode 15 = .ok (.getfield 29, 3) := by decide +kernel
theorem d_Mod_decode_18 : decode b_Mod_decode 18 = .ok (.iconst 0, 1) := by decide +kernel
theorem d_Mod_decode_19 : decode b_Mod_decode 19 = .ok (.iaload, 1) := by decide +kernel
theorem d_Mod_decode_20 : decode b_Mod_decode 20 = .ok (.sipush 255, 3) := by decide +kernel
theorem d_Mod_decode_23 : decode b_Mod_decode 23 = .ok (.if_icmp .ne 49, 3) := by decide +kernel
theorem d_Mod_decode_26 : decode b_Mod_decode 26 = .ok (.aload_n 0, 1) := by decide +kernel
theorem d_Mod_decode_27 : decode b_Mod_decode 27 = .ok (.getfield 29, 3) := by decide +kernel
theorem d_Mod_decode_30 : decode b_Mod_decode 30 = .ok (.iconst 1, 1) := by decide +kernel
theorem d_Mod_decode_31 : decode b_Mod_decode 31 = .ok (.iaload, 1) := by decide +kernel
theorem d_Mod_decode_32 : decode b_Mod_decode 32 = .ok (.sipush 216, 3) := by decide +kernel
theorem d_Mod_decode_35 : decode b_Mod_decode 35 = .ok (.if_icmp .ne 37, 3) := by decide +kernel
theorem d_Mod_decode_38 : decode b_Mod_decode 38 = .ok (.aload_n 0, 1) := by decide +kernel
theorem d_Mod_decode_39 : decode b_Mod_decode 39 = .ok (.getfield 29, 3) := by decide +kernel
theorem d_Mod_decode_42 : decode b_Mod_decode 42 = .ok (.iconst 2, 1) := by decide +kernel
theorem d_Mod_decode_43 : decode b_Mod_decode 43 = .ok (.iaload, 1) := by decide +kernel
theorem d_Mod_decode_44 : decode b_Mod_decode 44 = .ok (.aload_n 0, 1) := by decide +kernel
theorem d_Mod_decode_45 : decode b_Mod_decode 45 = .ok (.getfield 29, 3) := by decide +kernel
theorem d_Mod_decode_48 : decode b_Mod_decode 48 = .ok (.iconst 3, 1) := by decide +kernel
theorem d_Mod_decode_49 : decode b_Mod_decode 49 = .ok (.iaload, 1) := by decide +kernel
theorem d_Mod_decode_50 : decode b_Mod_decode 50 = .ok (.aload_n 0, 1) := by decide +kernel
theorem d_Mod_decode_51 : decode b_Mod_decode 51 = .ok (.getfield 29, 3) := by decide +kernel
theorem d_Mod_decode_54 : decode b_Mod_decode 54 = .ok (.iconst 4, 1) := by decide +kernel
theorem d_Mod_decode_55 : decode b_Mod_decode 55 = .ok (.iaload, 1) := by decide +kernel
theorem d_Mod_decode_56 : decode b_Mod_decode 56 = .ok (.aload_n 0, 1) := by decide +kernel
theorem d_Mod_decode_57 : decode b_Mod_decode 57 = .ok (.getfield 29, 3) := by decide +kernel
theorem d_Mod_decode_60 : decode b_Mod_decode 60 = .ok (.iconst 5, 1) := by decide +kernel
theorem d_Mod_decode_61 : decode b_Mod_decode 61 = .ok (.iaload, 1) := by decide +kernel
theorem d_Mod_decode_62 : decode b_Mod_decode 62 = .ok (.invokestatic 87, 3) := by decide +kernel
theorem d_Mod_decode_65 : decode b_Mod_decode 65 = .ok (.ifCond .eq 7, 3) := by decide +kernel
theorem d_Mod_decode_68 : decode b_Mod_decode 68 = .ok (.iconst 1, 1) := by decide +kernel
theorem d_Mod_decode_69 : decode b_Mod_decode 69 = .ok (.goto 4, 3) := by decide +kernel
theorem d_Mod_decode_72 : decode b_Mod_decode 72 = .ok (.iconst 0, 1) := by decide +kernel
theorem d_Mod_decode_73 : decode b_Mod_decode 73 = .ok (.istore_n 1, 1) := by decide +kernel
theorem d_Mod_decode_74 : decode b_Mod_decode 74 = .ok (.iload_n 1, 1) := by decide +kernel
theorem d_Mod_decode_75 : decode b_Mod_decode 75 = .ok (.ifCond .ne 10, 3) := by decide +kernel
theorem d_Mod_decode_78 : decode b_Mod_decode 78 = .ok (.aload_n 0, 1) := by decide +kernel
theorem d_Mod_decode_79 : decode b_Mod_decode 79 = .ok (.iconst 1, 1) := by decide +kernel
theorem d_Mod_decode_80 : decode b_Mod_decode 80 = .ok (.putfield 47, 3) := by decide +kernel
theorem d_Mod_decode_83 : decode b_Mod_decode 83 = .ok (.iconst 0, 1) := by decide +kernel
theorem d_Mod_decode_84 : decode b_Mod_decode 84 = .ok (.ireturn, 1) := by decide +kernel
theorem d_Mod_decode_85 : decode b_Mod_decode 85 = .ok (.aload_n 0, 1) := by decide +kernel
theorem d_Mod_decode_86 : decode b_Mod_decode 86 = .ok (.invokevirtual 213, 3) := by decide +kernel
theorem d_Mod_decode_89 : decode b_Mod_decode 89 = .ok (.aload_n 0, 1) := by decide +kernel
theorem d_Mod_decode_90 : decode b_Mod_decode 90 = .ok (.getfield 7, 3) := by decide +kernel
theorem d_Mod_decode_93 : decode b_Mod_decode 93 = .ok (.istore_n 2, 1) := by decide +kernel
theorem d_Mod_decode_94 : decode b_Mod_decode 94 = .ok (.aload_n 0, 1) := by decide +kernel
theorem d_Mod_decode_95 : decode b_Mod_decode 95 = .ok (.getfield 13, 3) := by decide +kernel
theorem d_Mod_decode_98 : decode b_Mod_decode 98 = .ok (.istore_n 3, 1) := by decide +kernel
theorem d_Mod_decode_99 : decode b_Mod_decode 99 = .ok (.aload_n 0, 1) := by decide +kernel
theorem d_Mod_decode_100 : decode b_Mod_decode 100 = .ok (.getfield 16, 3) := by decide +kernel
theorem d_Mod_decode_103 : decode b_Mod_decode 103 = .ok (.istore 4, 2) := by decide +kernel
theorem d_Mod_decode_105 : decode b_Mod_decode 105 = .ok (.aload_n 0, 1) := by decide +kernel
theorem d_Mod_decode_106 : decode b_Mod_decode 106 = .ok (.getfield 50, 3) := by decide +kernel
theorem d_Mod_decode_109 : decode b_Mod_decode 109 = .ok (.istore 5, 2) := by decide +kernel
theorem d_Mod_decode_111 : decode b_Mod_decode 111 = .ok (.aload_n 0, 1) := by decide +kernel
theorem d_Mod_decode_112 : decode b_Mod_decode 112 = .ok (.getfield 84, 3) := by decide +kernel
theorem d_Mod_decode_115 : decode b_Mod_decode 115 = .ok (.istore 6, 2) := by decide +kernel
theorem d_Mod_decode_117 : decode b_Mod_decode 117 = .ok (.aload_n 0, 1) := by decide +kernel
theorem d_Mod_decode_118 : decode b_Mod_decode 118 = .ok (.aload_n 0, 1) := by decide +kernel
theorem d_Mod_decode_119 : decode b_Mod_decode 119 = .ok (.getfield 29, 3) := by decide +kernel
theorem d_Mod_decode_122 : decode b_Mod_decode 122 = .ok (.iconst 2, 1) := by decide +kernel
theorem d_Mod_decode_123 : decode b_Mod_decode 123 = .ok (.iaload, 1) := by decide +kernel
theorem d_Mod_decode_124 : decode b_Mod_decode 124 = .ok (.putfield 7, 3) := by decide +kernel
theorem d_Mod_decode_127 : decode b_Mod_decode 127 = .ok (.aload_n 0, 1) := by decide +kernel
theorem d_Mod_decode_128 : decode b_Mod_decode 128 = .ok (.aload_n 0, 1) := by decide +kernel
theorem d_Mod_decode_129 : decode b_Mod_decode 129 = .ok (.getfield 29, 3) := by decide +kernel
theorem d_Mod_decode_132 : decode b_Mod_decode 132 = .ok (.iconst 3, 1) := by decide +kernel
theorem d_Mod_decode_133 : decode b_Mod_decode 133 = .ok (.iaload, 1) := by decide +kernel
theorem d_Mod_decode_134 : decode b_Mod_decode 134 = .ok (.putfield 13, 3) := by decide +kernel
theorem d_Mod_decode_137 : decode b_Mod_decode 137 = .ok (.aload_n 0, 1) := by decide +kernel
theorem d_Mod_decode_138 : decode b_Mod_decode 138 = .ok (.aload_n 0, 1) := by decide +kernel
theorem d_Mod_decode_139 : decode b_Mod_decode 139 = .ok (.getfield 29, 3) := by decide +kernel
theorem d_Mod_decode_142 : decode b_Mod_decode 142 = .ok (.iconst 4, 1) := by decide +kernel
theorem d_Mod_decode_143 : decode b_Mod_decode 143 = .ok (.iaload, 1) := by decide +kernel
theorem d_Mod_decode_144 : decode b_Mod_decode 144 = .ok (.putfield 16, 3) := by decide +kernel
theorem d_Mod_decode_147 : decode b_Mod_decode 147 = .ok (.aload_n 0, 1) := by decide +kernel
theorem d_Mod_decode_148 : decode b_Mod_decode 148 = .ok (.aload_n 0, 1) := by decide +kernel
theorem d_Mod_decode_149 : decode b_Mod_decode 149 = .ok (.getfield 29, 3) := by decide +kernel
theorem d_Mod_decode_152 : decode b_Mod_decode 152 = .ok (.iconst 5, 1) := by decide +kernel
theorem d_Mod_decode_153 : decode b_Mod_decode 153 = .ok (.iaload, 1) := by decide +kernel
theorem d_Mod_decode_154 : decode b_Mod_decode 154 = .ok (.putfield 50, 3) := by decide +kernel
theorem d_Mod_decode_157 : decode b_Mod_decode 157 = .ok (.aload_n 0, 1) := by decide +kernel
theorem d_Mod_decode_158 : decode b_Mod_decode 158 = .ok (.invokevirtual 41, 3) := by decide +kernel
theorem d_Mod_decode_161 : decode b_Mod_decode 161 = .ok (.aload_n 0, 1) := by decide +kernel
theorem d_Mod_decode_162 : decode b_Mod_decode 162 = .ok (.invokevirtual 44, 3) := by decide +kernel
theorem d_Mod_decode_165 : decode b_Mod_decode 165 = .ok (.iconst 0, 1) := by decide +kernel
theorem d_Mod_decode_166 : decode b_Mod_decode 166 = .ok (.istore 7, 2) := by decide +kernel
theorem d_Mod_decode_168 : decode b_Mod_decode 168 = .ok (.iload 7, 2) := by decide +kernel
theorem d_Mod_decode_170 : decode b_Mod_decode 170 = .ok (.bipush 64, 2) := by decide +kernel
theorem d_Mod_decode_172 : decode b_Mod_decode 172 = .ok (.if_icmp .ge 17, 3) := by decide +kernel
theorem d_Mod_decode_175 : decode b_Mod_decode 175 = .ok (.aload_n 0, 1) := by decide +kernel
theorem d_Mod_decode_176 : decode b_Mod_decode 176 = .ok (.getfield 19, 3) := by decide +kernel
theorem d_Mod_decode_179 : decode b_Mod_decode 179 = .ok (.iload 7, 2) := by decide +kernel
theorem d_Mod_decode_181 : decode b_Mod_decode 181 = .ok (.iconst 0, 1) := by decide +kernel
theorem d_Mod_decode_182 : decode b_Mod_decode 182 = .ok (.iastore, 1) := by decide +kernel
theorem d_Mod_decode_183 : decode b_Mod_decode 183 = .ok (.iinc 7 1, 3) := by decide +kernel
theorem d_Mod_decode_186 : decode b_Mod_decode 186 = .ok (.goto (-18), 3) := by decide +kernel
theorem d_Mod_decode_189 : decode b_Mod_decode 189 = .ok (.aload_n 0, 1) := by decide +kernel
theorem d_Mod_decode_190 : decode b_Mod_decode 190 = .ok (.iconst 1, 1) := by decide +kernel
theorem d_Mod_decode_191 : decode b_Mod_decode 191 = .ok (.putfield 167, 3) := by decide +kernel
theorem d_Mod_decode_194 : decode b_Mod_decode 194 = .ok (.aload_n 0, 1) := by decide +kernel
theorem d_Mod_decode_195 : decode b_Mod_decode 195 = .ok (.iconst 1, 1) := by decide +kernel
theorem d_Mod_decode_196 : decode b_Mod_decode 196 = .ok (.putfield 118, 3) := by decide +kernel
theorem d_Mod_decode_199 : decode b_Mod_decode 199 = .ok (.aload_n 0, 1) := by decide +kernel
theorem d_Mod_decode_200 : decode b_Mod_decode 200 = .ok (.bipush 6, 2) := by decide +kernel
theorem d_Mod_decode_202 : decode b_Mod_decode 202 = .ok (.putfield 115, 3) := by decide +kernel
theorem d_Mod_decode_205 : decode b_Mod_decode 205 = .ok (.aload_n 0, 1) := by decide +kernel
theorem d_Mod_decode_206 : decode b_Mod_decode 206 = .ok (.iconst 0, 1) := by decide +kernel
theorem d_Mod_decode_207 : decode b_Mod_decode 207 = .ok (.putfield 112, 3) := by decide +kernel
theorem d_Mod_decode_210 : decode b_Mod_decode 210 = .ok (.aload_n 0, 1) := by decide +kernel
theorem d_Mod_decode_211 : decode b_Mod_decode 211 = .ok (.iconst 0, 1) := by decide +kernel
theorem d_Mod_decode_212 : decode b_Mod_decode 212 = .ok (.putfield 109, 3) := by decide +kernel
theorem d_Mod_decode_215 : decode b_Mod_decode 215 = .ok (.aload_n 0, 1) := by decide +kernel
theorem d_Mod_decode_216 : decode b_Mod_decode 216 = .ok (.invokevirtual 210, 3) := by decide +kernel
theorem d_Mod_decode_219 : decode b_Mod_decode 219 = .ok (.aload_n 0, 1) := by decide +kernel
theorem d_Mod_decode_220 : decode b_Mod_decode 220 = .ok (.getfield 118, 3) := by decide +kernel
theorem d_Mod_decode_223 : decode b_Mod_decode 223 = .ok (.ifCond .eq 10, 3) := by decide +kernel
theorem d_Mod_decode_226 : decode b_Mod_decode 226 = .ok (.aload_n 0, 1) := by decide +kernel
theorem d_Mod_decode_227 : decode b_Mod_decode 227 = .ok (.invokevirtual 216, 3) := by decide +kernel
theorem d_Mod_decode_230 : decode b_Mod_decode 230 = .ok (.ifCond .ne 22, 3) := by decide +kernel
theorem d_Mod_decode_233 : decode b_Mod_decode 233 = .ok (.aload_n 0, 1) := by decide +kernel
theorem d_Mod_decode_234 : decode b_Mod_decode 234 = .ok (.iload_n 2, 1) := by decide +kernel
theorem d_Mod_decode_235 : decode b_Mod_decode 235 = .ok (.iload_n 3, 1) := by decide +kernel
theorem d_Mod_decode_236 : decode b_Mod_decode 236 = .ok (.iload 4, 2) := by decide +kernel
theorem d_Mod_decode_238 : decode b_Mod_decode 238 = .ok (.iload 5, 2) := by decide +kernel
theorem d_Mod_decode_240 : decode b_Mod_decode 240 = .ok (.iload 6, 2) := by decide +kernel
theorem d_Mod_decode_242 : decode b_Mod_decode 242 = .ok (.invokevirtual 220, 3) := by decide +kernel
theorem d_Mod_decode_245 : decode b_Mod_decode 245 = .ok (.aload_n 0, 1) := by decide +kernel
theorem d_Mod_decode_246 : decode b_Mod_decode 246 = .ok (.iconst 1, 1) := by decide +kernel
theorem d_Mod_decode_247 : decode b_Mod_decode 247 = .ok (.putfield 47, 3) := by decide +kernel
theorem d_Mod_decode_250 : decode b_Mod_decode 250 = .ok (.iconst 0, 1) := by decide +kernel
theorem d_Mod_decode_251 : decode b_Mod_decode 251 = .ok (.ireturn, 1) := by decide +kernel
theorem d_Mod_decode_252 : decode b_Mod_decode 252 = .ok (.aload_n 0, 1) := by decide +kernel
theorem d_Mod_decode_253 : decode b_Mod_decode 253 = .ok (.getfield 7, 3) := by decide +kernel
theorem d_Mod_decode_256 : decode b_Mod_decode 256 = .ok (.aload_n 0, 1) := by decide +kernel
theorem d_Mod_decode_257 : decode b_Mod_decode 257 = .ok (.getfield 13, 3) := by decide +kernel
theorem d_Mod_decode_260 : decode b_Mod_decode 260 = .ok (.imul, 1) := by decide +kernel
theorem d_Mod_decode_261 : decode b_Mod_decode 261 = .ok (.ireturn, 1) := by decide +kernel
theorem d_Mod_divided_0 : decode b_Mod_divided 0 = .ok (.iload_n 1, 1) := by decide +kernel
theorem d_Mod_divided_1 : decode b_Mod_divided 1 = .ok (.ifCond .le 17, 3) := by decide +kernel
theorem d_Mod_divided_4 : decode b_Mod_divided 4 = .ok (.iload_n 1, 1) := by decide +kernel
theorem d_Mod_divided_5 : decode b_Mod_divided 5 = .ok (.aload_n 0, 1) := by decide +kernel
theorem d_Mod_divided_6 : decode b_Mod_divided 6 = .ok (.getfield 50, 3) := by decide +kernel
theorem d_Mod_divided_9 : decode b_Mod_divided 9 = .ok (.iadd, 1) := by decide +kernel
theorem d_Mod_divided_10 : decode b_Mod_divided 10 = .ok (.aload_n 0, 1) := by decide +kernel
theorem d_Mod_divided_11 : decode b_Mod_divided 11 = .ok (.getfield 53, 3) := by decide +kernel
theorem d_Mod_divided_14 : decode b_Mod_divided 14 = .ok (.idiv, 1) := by decide +kernel
theorem d_Mod_divided_15 : decode b_Mod_divided 15 = .ok (.goto 15, 3) := by decide +kernel
theorem d_Mod_divided_18 : decode b_Mod_divided 18 = .ok (.aload_n 0, 1) := by decide +kernel
theorem d_Mod_divided_19 : decode b_Mod_divided 19 = .ok (.getfield 50, 3) := by decide +kernel
theorem d_Mod_divided_22 : decode b_Mod_divided 22 = .ok (.iload_n 1, 1) := by decide +kernel
theorem d_Mod_divided_23 : decode b_Mod_divided 23 = .ok (.isub, 1) := by decide +kernel
theorem d_Mod_divided_24 : decode b_Mod_divided 24 = .ok (.aload_n 0, 1) := by decide +kernel
theorem d_Mod_divided_25 : decode b_Mod_divided 25 = .ok (.getfield 53, 3) := by decide +kernel
theorem d_Mod_divided_28 : decode b_Mod_divided 28 = .ok (.idiv, 1) := by decide +kernel
theorem d_Mod_divided_29 : decode b_Mod_divided 29 = .ok (.ineg, 1) := by decide +kernel
theorem d_Mod_divided_30 : decode b_Mod_divided 30 = .ok (.ireturn, 1) := by decide +kernel
theorem d_Mod_encode_0 : decode b_Mod_encode 0 = .ok (.aload_n 0, 1) := by decide +kernel
theorem d_Mod_encode_1 : decode b_Mod_encode 1 = .ok (.iconst 0, 1) := by decide +kernel
theorem d_Mod_encode_2 : decode b_Mod_encode 2 = .ok (.putfield 47, 3) := by decide +kernel
theorem d_Mod_encode_5 : decode b_Mod_encode 5 = .ok (.aload_n 0, 1) := by decide +kernel
theorem d_Mod_encode_6 : decode b_Mod_encode 6 = .ok (.invokevirtual 44, 3) := by decide +kernel
theorem d_Mod_encode_9 : decode b_Mod_encode 9 = .ok (.aload_n 0, 1) := by decide +kernel
theorem d_Mod_encode_10 : decode b_Mod_encode 10 = .ok (.iconst 0, 1) := by decide +kernel
theorem d_Mod_encode_11 : decode b_Mod_encode 11 = .ok (.putfield 91, 3) := by decide +kernel
theorem d_Mod_encode_14 : decode b_Mod_encode 14 = .ok (.aload_n 0, 1) := by decide +kernel
theorem d_Mod_encode_15 : decode b_Mod_encode 15 = .ok (.sipush 255, 3) := by decide +kernel
theorem d_Mod_encode_18 : decode b_Mod_encode 18 = .ok (.invokevirtual 102, 3) := by decide +kernel
theorem d_Mod_encode_21 : decode b_Mod_encode 21 = .ok (.aload_n 0, 1) := by decide +kernel
theorem d_Mod_encode_22 : decode b_Mod_encode 22 = .ok (.sipush 216, 3) := by decide +kernel
theorem d_Mod_encode_25 : decode b_Mod_encode 25 = .ok (.invokevirtual 102, 3) := by decide +kernel
theorem d_Mod_encode_28 : decode b_Mod_encode 28 = .ok (.aload_n 0, 1) := by decide +kernel
theorem d_Mod_encode_29 : decode b_Mod_encode 29 = .ok (.aload_n 0, 1) := by decide +kernel
theorem d_Mod_encode_30 : decode b_Mod_encode 30 = .ok (.getfield 7, 3) := by decide +kernel
theorem d_Mod_encode_33 : decode b_Mod_encode 33 = .ok (.invokevirtual 102, 3) := by decide +kernel
theorem d_Mod_encode_36 : decode b_Mod_encode 36 = .ok (.aload_n 0, 1) := by decide +kernel
theorem d_Mod_encode_37 : decode b_Mod_encode 37 = .ok (.aload_n 0, 1) := by decide +kernel
theorem d_Mod_encode_38 : decode b_Mod_encode 38 = .ok (.getfield 13, 3) := by decide +kernel
theorem d_Mod_encode_41 : decode b_Mod_encode 41 = .ok (.invokevirtual 102, 3) := by decide +kernel
theorem d_Mod_encode_44 : decode b_Mod_encode 44 = .ok (.aload_n 0, 1) := by decide +kernel
theorem d_Mod_encode_45 : decode b_Mod_encode 45 = .ok (.aload_n 0, 1) := by decide +kernel
theorem d_Mod_encode_46 : decode b_Mod_encode 46 = .ok (.getfield 16, 3) := by decide +kernel
theorem d_Mod_encode_49 : decode b_Mod_encode 49 = .ok (.invokevirtual 102, 3) := by decide +kernel
theorem d_Mod_encode_52 : decode b_Mod_encode 52 = .ok (.aload_n 0, 1) := by decide +kernel
theorem d_Mod_encode_53 : decode b_Mod_encode 53 = .ok (.aload_n 0, 1) := by decide +kernel
theorem d_Mod_encode_54 : decode b_Mod_encode 54 = .ok (.getfield 50, 3) := by decide +kernel
theorem d_Mod_encode_57 : decode b_Mod_encode 57 = .ok (.invokevirtual 102, 3) := by decide +kernel
theorem d_Mod_encode_60 : decode b_Mod_encode 60 = .ok (.aload_n 0, 1) := by decide +kernel
theorem d_Mod_encode_61 : decode b_Mod_encode 61 = .ok (.iconst 0, 1) := by decide +kernel
theorem d_Mod_encode_62 : decode b_Mod_encode 62 = .ok (.putfield 96, 3) := by decide +kernel
theorem d_Mod_encode_65 : decode b_Mod_encode 65 = .ok (.aload_n 0, 1) := by decide +kernel
theorem d_Mod_encode_66 : decode b_Mod_encode 66 = .ok (.iconst 0, 1) := by decide +kernel
theorem d_Mod_encode_67 : decode b_Mod_encode 67 = .ok (.putfield 99, 3) := by decide +kernel
theorem d_Mod_encode_70 : decode b_Mod_encode 70 = .ok (.aload_n 0, 1) := by decide +kernel
theorem d_Mod_encode_71 : decode b_Mod_encode 71 = .ok (.iconst 0, 1) := by decide +kernel
theorem d_Mod_encode_72 : decode b_Mod_encode 72 = .ok (.putfield 167, 3) := by decide +kernel
theorem d_Mod_encode_75 : decode b_Mod_encode 75 = .ok (.aload_n 0, 1) := by decide +kernel
theorem d_Mod_encode_76 : decode b_Mod_encode 76 = .ok (.iconst 1, 1) := by decide +kernel
theorem d_Mod_encode_77 : decode b_Mod_encode 77 = .ok (.putfield 118, 3) := by decide +kernel
theorem d_Mod_encode_80 : decode b_Mod_encode 80 = .ok (.aload_n 0, 1) := by decide +kernel
theorem d_Mod_encode_81 : decode b_Mod_encode 81 = .ok (.invokevirtual 210, 3) := by decide +kernel
theorem d_Mod_encode_84 : decode b_Mod_encode 84 = .ok (.aload_n 0, 1) := by decide +kernel
theorem d_Mod_encode_85 : decode b_Mod_encode 85 = .ok (.getfield 99, 3) := by decide +kernel
theorem d_Mod_encode_88 : decode b_Mod_encode 88 = .ok (.ifCond .le 15, 3) := by decide +kernel
theorem d_Mod_encode_91 : decode b_Mod_encode 91 = .ok (.aload_n 0, 1) := by decide +kernel
theorem d_Mod_encode_92 : decode b_Mod_encode 92 = .ok (.iconst 0, 1) := by decide +kernel
theorem d_Mod_encode_93 : decode b_Mod_encode 93 = .ok (.bipush 8, 2) := by decide +kernel
theorem d_Mod_encode_95 : decode b_Mod_encode 95 = .ok (.aload_n 0, 1) := by decide +kernel
theorem d_Mod_encode_96 : decode b_Mod_encode 96 = .ok (.getfield 99, 3) := by decide +kernel
theorem d_Mod_encode_99 : decode b_Mod_encode 99 = .ok (.isub, 1) := by decide +kernel
theorem d_Mod_encode_100 : decode b_Mod_encode 100 = .ok (.invokevirtual 126, 3) := by decide +kernel
theorem d_Mod_encode_103 : decode b_Mod_encode 103 = .ok (.aload_n 0, 1) := by decide +kernel
theorem d_Mod_encode_104 : decode b_Mod_encode 104 = .ok (.sipush 255, 3) := by decide +kernel
theorem d_Mod_encode_107 : decode b_Mod_encode 107 = .ok (.invokevirtual 102, 3) := by decide +kernel
theorem d_Mod_encode_110 : decode b_Mod_encode 110 = .ok (.aload_n 0, 1) := by decide +kernel
theorem d_Mod_encode_111 : decode b_Mod_encode 111 = .ok (.sipush 217, 3) := by decide +kernel
theorem d_Mod_encode_114 : decode b_Mod_encode 114 = .ok (.invokevirtual 102, 3) := by decide +kernel
theorem d_Mod_encode_117 : decode b_Mod_encode 117 = .ok (.aload_n 0, 1) := by decide +kernel
theorem d_Mod_encode_118 : decode b_Mod_encode 118 = .ok (.getfield 91, 3) := by decide +kernel
theorem d_Mod_encode_121 : decode b_Mod_encode 121 = .ok (.ireturn, 1) := by decide +kernel
