theorem d_Mod_endRun_0 : decode b_Mod_endRun 0 = .ok (.aload_n 0, 1) := by decide +kernel
theorem d_Mod_endRun_1 : decode b_Mod_endRun 1 = .ok (.iload_n 1, 1) := by decide +kernel
theorem d_Mod_endRun_2 : decode b_Mod_endRun 2 = .ok (.iload_n 2, 1) := by decide +kernel
theorem d_Mod_endRun_3 : decode b_Mod_endRun 3 = .ok (.invokevirtual 140, 3) := by decide +kernel
theorem d_Mod_endRun_6 : decode b_Mod_endRun 6 = .ok (.istore 4, 2) := by decide +kernel
theorem d_Mod_endRun_8 : decode b_Mod_endRun 8 = .ok (.aload_n 0, 1) := by decide +kernel
theorem d_Mod_endRun_9 : decode b_Mod_endRun 9 = .ok (.iload_n 1, 1) := by decide +kernel
theorem d_Mod_endRun_10 : decode b_Mod_endRun 10 = .ok (.iload_n 2, 1) := by decide +kernel
theorem d_Mod_endRun_11 : decode b_Mod_endRun 11 = .ok (.invokevirtual 137, 3) := by decide +kernel
theorem d_Mod_endRun_14 : decode b_Mod_endRun 14 = .ok (.istore 5, 2) := by decide +kernel
theorem d_Mod_endRun_16 : decode b_Mod_endRun 16 = .ok (.aload_n 0, 1) := by decide +kernel
theorem d_Mod_endRun_17 : decode b_Mod_endRun 17 = .ok (.iload 4, 2) := by decide +kernel
theorem d_Mod_endRun_19 : decode b_Mod_endRun 19 = .ok (.iload 5, 2) := by decide +kernel
theorem d_Mod_endRun_21 : decode b_Mod_endRun 21 = .ok (.isub, 1) := by decide +kernel
theorem d_Mod_endRun_22 : decode b_Mod_endRun 22 = .ok (.invokevirtual 191, 3) := by decide +kernel
theorem d_Mod_endRun_25 : decode b_Mod_endRun 25 = .ok (.ifCond .eq 7, 3) := by decide +kernel
theorem d_Mod_endRun_28 : decode b_Mod_endRun 28 = .ok (.iconst 1, 1) := by decide +kernel
theorem d_Mod_endRun_29 : decode b_Mod_endRun 29 = .ok (.goto 4, 3) := by decide +kernel
theorem d_Mod_endRun_32 : decode b_Mod_endRun 32 = .ok (.iconst 0, 1) := by decide +kernel
theorem d_Mod_endRun_33 : decode b_Mod_endRun 33 = .ok (.istore 6, 2) := by decide +kernel
theorem d_Mod_endRun_35 : decode b_Mod_endRun 35 = .ok (.iload 6, 2) := by decide +kernel
theorem d_Mod_endRun_37 : decode b_Mod_endRun 37 = .ok (.iconst 1, 1) := by decide +kernel
theorem d_Mod_endRun_38 : decode b_Mod_endRun 38 = .ok (.if_icmp .ne 8, 3) := by decide +kernel
theorem d_Mod_endRun_41 : decode b_Mod_endRun 41 = .ok (.iload 4, 2) := by decide +kernel
theorem d_Mod_endRun_43 : decode b_Mod_endRun 43 = .ok (.goto 5, 3) := by decide +kernel
theorem d_Mod_endRun_46 : decode b_Mod_endRun 46 = .ok (.iload 5, 2) := by decide +kernel
theorem d_Mod_endRun_48 : decode b_Mod_endRun 48 = .ok (.istore 7, 2) := by decide +kernel
theorem d_Mod_endRun_50 : decode b_Mod_endRun 50 = .ok (.iload 6, 2) := by decide +kernel
theorem d_Mod_endRun_52 : decode b_Mod_endRun 52 = .ok (.ifCond .ne 14, 3) := by decide +kernel
theorem d_Mod_endRun_55 : decode b_Mod_endRun 55 = .ok (.iload 4, 2) := by decide +kernel
theorem d_Mod_endRun_57 : decode b_Mod_endRun 57 = .ok (.iload 5, 2) := by decide +kernel
theorem d_Mod_endRun_59 : decode b_Mod_endRun 59 = .ok (.if_icmp .le 7, 3) := by decide +kernel
theorem d_Mod_endRun_62 : decode b_Mod_endRun 62 = .ok (.iconst (-1), 1) := by decide +kernel
theorem d_Mod_endRun_63 : decode b_Mod_endRun 63 = .ok (.goto 4, 3) := by decide +kernel
theorem d_Mod_endRun_66 : decode b_Mod_endRun 66 = .ok (.iconst 1, 1) := by decide +kernel
theorem d_Mod_endRun_67 : decode b_Mod_endRun 67 = .ok (.istore 8, 2) := by decide +kernel
theorem d_Mod_endRun_69 : decode b_Mod_endRun 69 = .ok (.iconst 5, 1) := by decide +kernel
theorem d_Mod_endRun_70 : decode b_Mod_endRun 70 = .ok (.sipush 365, 3) := by decide +kernel
theorem d_Mod_endRun_73 : decode b_Mod_endRun 73 = .ok (.iload 6, 2) := by decide +kernel
theorem d_Mod_endRun_75 : decode b_Mod_endRun 75 = .ok (.iadd, 1) := by decide +kernel
theorem d_Mod_endRun_76 : decode b_Mod_endRun 76 = .ok (.imul, 1) := by decide +kernel
theorem d_Mod_endRun_77 : decode b_Mod_endRun 77 = .ok (.istore 9, 2) := by decide +kernel
theorem d_Mod_endRun_79 : decode b_Mod_endRun 79 = .ok (.aload_n 0, 1) := by decide +kernel
theorem d_Mod_endRun_80 : decode b_Mod_endRun 80 = .ok (.getfield 26, 3) := by decide +kernel
theorem d_Mod_endRun_83 : decode b_Mod_endRun 83 = .ok (.iload 9, 2) := by decide +kernel
theorem d_Mod_endRun_85 : decode b_Mod_endRun 85 = .ok (.iconst 3, 1) := by decide +kernel
theorem d_Mod_endRun_86 : decode b_Mod_endRun 86 = .ok (.iadd, 1) := by decide +kernel
theorem d_Mod_endRun_87 : decode b_Mod_endRun 87 = .ok (.iaload, 1) := by decide +kernel
theorem d_Mod_endRun_88 : decode b_Mod_endRun 88 = .ok (.istore 10, 2) := by decide +kernel
theorem d_Mod_endRun_90 : decode b_Mod_endRun 90 = .ok (.iload 10, 2) := by decide +kernel
theorem d_Mod_endRun_92 : decode b_Mod_endRun 92 = .ok (.aload_n 0, 1) := by decide +kernel
theorem d_Mod_endRun_93 : decode b_Mod_endRun 93 = .ok (.getfield 26, 3) := by decide +kernel
theorem d_Mod_endRun_96 : decode b_Mod_endRun 96 = .ok (.iload 9, 2) := by decide +kernel
theorem d_Mod_endRun_98 : decode b_Mod_endRun 98 = .ok (.iaload, 1) := by decide +kernel
theorem d_Mod_endRun_99 : decode b_Mod_endRun 99 = .ok (.iload 6, 2) := by decide +kernel
theorem d_Mod_endRun_101 : decode b_Mod_endRun 101 = .ok (.iload 10, 2) := by decide +kernel
theorem d_Mod_endRun_103 : decode b_Mod_endRun 103 = .ok (.iconst 2, 1) := by decide +kernel
theorem d_Mod_endRun_104 : decode b_Mod_endRun 104 = .ok (.idiv, 1) := by decide +kernel
theorem d_Mod_endRun_105 : decode b_Mod_endRun 105 = .ok (.imul, 1) := by decide +kernel
theorem d_Mod_endRun_106 : decode b_Mod_endRun 106 = .ok (.iadd, 1) := by decide +kernel
theorem d_Mod_endRun_107 : decode b_Mod_endRun 107 = .ok (.invokestatic 164, 3) := by decide +kernel
theorem d_Mod_endRun_110 : decode b_Mod_endRun 110 = .ok (.istore 11, 2) := by decide +kernel
theorem d_Mod_endRun_112 : decode b_Mod_endRun 112 = .ok (.iload 11, 2) := by decide +kernel
theorem d_Mod_endRun_114 : decode b_Mod_endRun 114 = .ok (.ifCond .ne 19, 3) := by decide +kernel
theorem d_Mod_endRun_117 : decode b_Mod_endRun 117 = .ok (.iconst 2, 1) := by decide +kernel
theorem d_Mod_endRun_118 : decode b_Mod_endRun 118 = .ok (.aload_n 0, 1) := by decide +kernel
theorem d_Mod_endRun_119 : decode b_Mod_endRun 119 = .ok (.getfield 26, 3) := by decide +kernel
theorem d_Mod_endRun_122 : decode b_Mod_endRun 122 = .ok (.iload 9, 2) := by decide +kernel
theorem d_Mod_endRun_124 : decode b_Mod_endRun 124 = .ok (.iconst 4, 1) := by decide +kernel
theorem d_Mod_endRun_125 : decode b_Mod_endRun 125 = .ok (.iadd, 1) := by decide +kernel
theorem d_Mod_endRun_126 : decode b_Mod_endRun 126 = .ok (.iaload, 1) := by decide +kernel
theorem d_Mod_endRun_127 : decode b_Mod_endRun 127 = .ok (.imul, 1) := by decide +kernel
theorem d_Mod_endRun_128 : decode b_Mod_endRun 128 = .ok (.iload 10, 2) := by decide +kernel
theorem d_Mod_endRun_130 : decode b_Mod_endRun 130 = .ok (.if_icmp .lt 7, 3) := by decide +kernel
theorem d_Mod_endRun_133 : decode b_Mod_endRun 133 = .ok (.iconst 1, 1) := by decide +kernel
theorem d_Mod_endRun_134 : decode b_Mod_endRun 134 = .ok (.goto 4, 3) := by decide +kernel
theorem d_Mod_endRun_137 : decode b_Mod_endRun 137 = .ok (.iconst 0, 1) := by decide +kernel
theorem d_Mod_endRun_138 : decode b_Mod_endRun 138 = .ok (.istore 12, 2) := by decide +kernel
theorem d_Mod_endRun_140 : decode b_Mod_endRun 140 = .ok (.aload_n 0, 1) := by decide +kernel
theorem d_Mod_endRun_141 : decode b_Mod_endRun 141 = .ok (.getfield 69, 3) := by decide +kernel
theorem d_Mod_endRun_144 : decode b_Mod_endRun 144 = .ok (.iload_n 3, 1) := by decide +kernel
theorem d_Mod_endRun_145 : decode b_Mod_endRun 145 = .ok (.isub, 1) := by decide +kernel
theorem d_Mod_endRun_146 : decode b_Mod_endRun 146 = .ok (.iconst 1, 1) := by decide +kernel
theorem d_Mod_endRun_147 : decode b_Mod_endRun 147 = .ok (.isub, 1) := by decide +kernel
theorem d_Mod_endRun_148 : decode b_Mod_endRun 148 = .ok (.istore 13, 2) := by decide +kernel
theorem d_Mod_endRun_150 : decode b_Mod_endRun 150 = .ok (.aload_n 0, 1) := by decide +kernel
theorem d_Mod_endRun_151 : decode b_Mod_endRun 151 = .ok (.getfield 167, 3) := by decide +kernel
theorem d_Mod_endRun_154 : decode b_Mod_endRun 154 = .ok (.ifCond .eq 75, 3) := by decide +kernel
theorem d_Mod_endRun_157 : decode b_Mod_endRun 157 = .ok (.aload_n 0, 1) := by decide +kernel
theorem d_Mod_endRun_158 : decode b_Mod_endRun 158 = .ok (.iload 11, 2) := by decide +kernel
theorem d_Mod_endRun_160 : decode b_Mod_endRun 160 = .ok (.iload 13, 2) := by decide +kernel
theorem d_Mod_endRun_162 : decode b_Mod_endRun 162 = .ok (.invokevirtual 170, 3) := by decide +kernel
theorem d_Mod_endRun_165 : decode b_Mod_endRun 165 = .ok (.istore 15, 2) := by decide +kernel
theorem d_Mod_endRun_167 : decode b_Mod_endRun 167 = .ok (.iload 15, 2) := by decide +kernel
theorem d_Mod_endRun_169 : decode b_Mod_endRun 169 = .ok (.iload 6, 2) := by decide +kernel
theorem d_Mod_endRun_171 : decode b_Mod_endRun 171 = .ok (.iadd, 1) := by decide +kernel
theorem d_Mod_endRun_172 : decode b_Mod_endRun 172 = .ok (.iconst 2, 1) := by decide +kernel
theorem d_Mod_endRun_173 : decode b_Mod_endRun 173 = .ok (.irem, 1) := by decide +kernel
theorem d_Mod_endRun_174 : decode b_Mod_endRun 174 = .ok (.istore 16, 2) := by decide +kernel
theorem d_Mod_endRun_176 : decode b_Mod_endRun 176 = .ok (.iload 15, 2) := by decide +kernel
theorem d_Mod_endRun_178 : decode b_Mod_endRun 178 = .ok (.iload 6, 2) := by decide +kernel
theorem d_Mod_endRun_180 : decode b_Mod_endRun 180 = .ok (.iadd, 1) := by decide +kernel
theorem d_Mod_endRun_181 : decode b_Mod_endRun 181 = .ok (.iload 16, 2) := by decide +kernel
theorem d_Mod_endRun_183 : decode b_Mod_endRun 183 = .ok (.iadd, 1) := by decide +kernel
theorem d_Mod_endRun_184 : decode b_Mod_endRun 184 = .ok (.iconst 2, 1) := by decide +kernel
theorem d_Mod_endRun_185 : decode b_Mod_endRun 185 = .ok (.idiv, 1) := by decide +kernel
theorem d_Mod_endRun_186 : decode b_Mod_endRun 186 = .ok (.istore 14, 2) := by decide +kernel
theorem d_Mod_endRun_188 : decode b_Mod_endRun 188 = .ok (.iload 16, 2) := by decide +kernel
theorem d_Mod_endRun_190 : decode b_Mod_endRun 190 = .ok (.iconst 1, 1) := by decide +kernel
theorem d_Mod_endRun_191 : decode b_Mod_endRun 191 = .ok (.if_icmp .ne 7, 3) := by decide +kernel
theorem d_Mod_endRun_194 : decode b_Mod_endRun 194 = .ok (.iconst 1, 1) := by decide +kernel
theorem d_Mod_endRun_195 : decode b_Mod_endRun 195 = .ok (.goto 4, 3) := by decide +kernel
theorem d_Mod_endRun_198 : decode b_Mod_endRun 198 = .ok (.iconst 0, 1) := by decide +kernel
theorem d_Mod_endRun_199 : decode b_Mod_endRun 199 = .ok (.iload 12, 2) := by decide +kernel
theorem d_Mod_endRun_201 : decode b_Mod_endRun 201 = .ok (.if_icmp .ne 9, 3) := by decide +kernel
theorem d_Mod_endRun_204 : decode b_Mod_endRun 204 = .ok (.iload 14, 2) := by decide +kernel
theorem d_Mod_endRun_206 : decode b_Mod_endRun 206 = .ok (.ineg, 1) := by decide +kernel
theorem d_Mod_endRun_207 : decode b_Mod_endRun 207 = .ok (.goto 5, 3) := by decide +kernel
theorem d_Mod_endRun_210 : decode b_Mod_endRun 210 = .ok (.iload 14, 2) := by decide +kernel
theorem d_Mod_endRun_212 : decode b_Mod_endRun 212 = .ok (.istore 14, 2) := by decide +kernel
theorem d_Mod_endRun_214 : decode b_Mod_endRun 214 = .ok (.aload_n 0, 1) := by decide +kernel
theorem d_Mod_endRun_215 : decode b_Mod_endRun 215 = .ok (.iload_n 1, 1) := by decide +kernel
theorem d_Mod_endRun_216 : decode b_Mod_endRun 216 = .ok (.iload_n 2, 1) := by decide +kernel
theorem d_Mod_endRun_217 : decode b_Mod_endRun 217 = .ok (.iload 7, 2) := by decide +kernel
theorem d_Mod_endRun_219 : decode b_Mod_endRun 219 = .ok (.iload 8, 2) := by decide +kernel
theorem d_Mod_endRun_221 : decode b_Mod_endRun 221 = .ok (.iload 14, 2) := by decide +kernel
theorem d_Mod_endRun_223 : decode b_Mod_endRun 223 = .ok (.invokevirtual 173, 3) := by decide +kernel
theorem d_Mod_endRun_226 : decode b_Mod_endRun 226 = .ok (.goto 75, 3) := by decide +kernel
theorem d_Mod_endRun_229 : decode b_Mod_endRun 229 = .ok (.aload_n 0, 1) := by decide +kernel
theorem d_Mod_endRun_230 : decode b_Mod_endRun 230 = .ok (.iload_n 1, 1) := by decide +kernel
theorem d_Mod_endRun_231 : decode b_Mod_endRun 231 = .ok (.iload_n 2, 1) := by decide +kernel
theorem d_Mod_endRun_232 : decode b_Mod_endRun 232 = .ok (.iload 7, 2) := by decide +kernel
theorem d_Mod_endRun_234 : decode b_Mod_endRun 234 = .ok (.iload 8, 2) := by decide +kernel
theorem d_Mod_endRun_236 : decode b_Mod_endRun 236 = .ok (.invokevirtual 177, 3) := by decide +kernel
theorem d_Mod_endRun_239 : decode b_Mod_endRun 239 = .ok (.istore 14, 2) := by decide +kernel
theorem d_Mod_endRun_241 : decode b_Mod_endRun 241 = .ok (.iload 14, 2) := by decide +kernel
theorem d_Mod_endRun_243 : decode b_Mod_endRun 243 = .ok (.ifCond .ge 8, 3) := by decide +kernel
theorem d_Mod_endRun_246 : decode b_Mod_endRun 246 = .ok (.iload 12, 2) := by decide +kernel
theorem d_Mod_endRun_248 : decode b_Mod_endRun 248 = .ok (.ifCond .ne 13, 3) := by decide +kernel
theorem d_Mod_endRun_251 : decode b_Mod_endRun 251 = .ok (.iload 14, 2) := by decide +kernel
theorem d_Mod_endRun_253 : decode b_Mod_endRun 253 = .ok (.ifCond .le 12, 3) := by decide +kernel
theorem d_Mod_endRun_256 : decode b_Mod_endRun 256 = .ok (.iload 12, 2) := by decide +kernel
theorem d_Mod_endRun_258 : decode b_Mod_endRun 258 = .ok (.ifCond .ne 7, 3) := by decide +kernel
theorem d_Mod_endRun_261 : decode b_Mod_endRun 261 = .ok (.iconst 1, 1) := by decide +kernel
theorem d_Mod_endRun_262 : decode b_Mod_endRun 262 = .ok (.goto 4, 3) := by decide +kernel
theorem d_Mod_endRun_265 : decode b_Mod_endRun 265 = .ok (.iconst 0, 1) := by decide +kernel
theorem d_Mod_endRun_266 : decode b_Mod_endRun 266 = .ok (.istore 16, 2) := by decide +kernel
theorem d_Mod_endRun_268 : decode b_Mod_endRun 268 = .ok (.iconst 2, 1) := by decide +kernel
theorem d_Mod_endRun_269 : decode b_Mod_endRun 269 = .ok (.iload 14, 2) := by decide +kernel
theorem d_Mod_endRun_271 : decode b_Mod_endRun 271 = .ok (.ifCond .ge 9, 3) := by decide +kernel
theorem d_Mod_endRun_274 : decode b_Mod_endRun 274 = .ok (.iload 14, 2) := by decide +kernel
theorem d_Mod_endRun_276 : decode b_Mod_endRun 276 = .ok (.ineg, 1) := by decide +kernel
theorem d_Mod_endRun_277 : decode b_Mod_endRun 277 = .ok (.goto 5, 3) := by decide +kernel
theorem d_Mod_endRun_280 : decode b_Mod_endRun 280 = .ok (.iload 14, 2) := by decide +kernel
theorem d_Mod_endRun_282 : decode b_Mod_endRun 282 = .ok (.imul, 1) := by decide +kernel
theorem d_Mod_endRun_283 : decode b_Mod_endRun 283 = .ok (.iload 6, 2) := by decide +kernel
theorem d_Mod_endRun_285 : decode b_Mod_endRun 285 = .ok (.isub, 1) := by decide +kernel
theorem d_Mod_endRun_286 : decode b_Mod_endRun 286 = .ok (.iload 16, 2) := by decide +kernel
theorem d_Mod_endRun_288 : decode b_Mod_endRun 288 = .ok (.isub, 1) := by decide +kernel
theorem d_Mod_endRun_289 : decode b_Mod_endRun 289 = .ok (.istore 15, 2) := by decide +kernel
theorem d_Mod_endRun_291 : decode b_Mod_endRun 291 = .ok (.aload_n 0, 1) := by decide +kernel
theorem d_Mod_endRun_292 : decode b_Mod_endRun 292 = .ok (.iload 15, 2) := by decide +kernel
theorem d_Mod_endRun_294 : decode b_Mod_endRun 294 = .ok (.iload 11, 2) := by decide +kernel
theorem d_Mod_endRun_296 : decode b_Mod_endRun 296 = .ok (.iload 13, 2) := by decide +kernel
theorem d_Mod_endRun_298 : decode b_Mod_endRun 298 = .ok (.invokevirtual 181, 3) := by decide +kernel
theorem d_Mod_endRun_301 : decode b_Mod_endRun 301 = .ok (.aload_n 0, 1) := by decide +kernel
theorem d_Mod_endRun_302 : decode b_Mod_endRun 302 = .ok (.getfield 26, 3) := by decide +kernel
theorem d_Mod_endRun_305 : decode b_Mod_endRun 305 = .ok (.iload 9, 2) := by decide +kernel
theorem d_Mod_endRun_307 : decode b_Mod_endRun 307 = .ok (.iconst 4, 1) := by decide +kernel
theorem d_Mod_endRun_308 : decode b_Mod_endRun 308 = .ok (.iadd, 1) := by decide +kernel
theorem d_Mod_endRun_309 : decode b_Mod_endRun 309 = .ok (.dup2, 1) := by decide +kernel
theorem d_Mod_endRun_310 : decode b_Mod_endRun 310 = .ok (.iaload, 1) := by decide +kernel
theorem d_Mod_endRun_311 : decode b_Mod_endRun 311 = .ok (.iload 14, 2) := by decide +kernel
theorem d_Mod_endRun_313 : decode b_Mod_endRun 313 = .ok (.ifCond .ge 7, 3) := by decide +kernel
theorem d_Mod_endRun_316 : decode b_Mod_endRun 316 = .ok (.iconst 1, 1) := by decide +kernel
theorem d_Mod_endRun_317 : decode b_Mod_endRun 317 = .ok (.goto 4, 3) := by decide +kernel
theorem d_Mod_endRun_320 : decode b_Mod_endRun 320 = .ok (.iconst 0, 1) := by decide +kernel
theorem d_Mod_endRun_321 : decode b_Mod_endRun 321 = .ok (.iadd, 1) := by decide +kernel
theorem d_Mod_endRun_322 : decode b_Mod_endRun 322 = .ok (.iastore, 1) := by decide +kernel
theorem d_Mod_endRun_323 : decode b_Mod_endRun 323 = .ok (.aload_n 0, 1) := by decide +kernel
theorem d_Mod_endRun_324 : decode b_Mod_endRun 324 = .ok (.getfield 26, 3) := by decide +kernel
theorem d_Mod_endRun_327 : decode b_Mod_endRun 327 = .ok (.iload 9, 2) := by decide +kernel
theorem d_Mod_endRun_329 : decode b_Mod_endRun 329 = .ok (.dup2, 1) := by decide +kernel
theorem d_Mod_endRun_330 : decode b_Mod_endRun 330 = .ok (.iaload, 1) := by decide +kernel
theorem d_Mod_endRun_331 : decode b_Mod_endRun 331 = .ok (.iload 15, 2) := by decide +kernel
theorem d_Mod_endRun_333 : decode b_Mod_endRun 333 = .ok (.iconst 1, 1) := by decide +kernel
theorem d_Mod_endRun_334 : decode b_Mod_endRun 334 = .ok (.iadd, 1) := by decide +kernel
theorem d_Mod_endRun_335 : decode b_Mod_endRun 335 = .ok (.iload 6, 2) := by decide +kernel
theorem d_Mod_endRun_337 : decode b_Mod_endRun 337 = .ok (.isub, 1) := by decide +kernel
theorem d_Mod_endRun_338 : decode b_Mod_endRun 338 = .ok (.iconst 2, 1) := by decide +kernel
theorem d_Mod_endRun_339 : decode b_Mod_endRun 339 = .ok (.idiv, 1) := by decide +kernel
theorem d_Mod_endRun_340 : decode b_Mod_endRun 340 = .ok (.iadd, 1) := by decide +kernel
theorem d_Mod_endRun_341 : decode b_Mod_endRun 341 = .ok (.iastore, 1) := by decide +kernel
theorem d_Mod_endRun_342 : decode b_Mod_endRun 342 = .ok (.iload 10, 2) := by decide +kernel
theorem d_Mod_endRun_344 : decode b_Mod_endRun 344 = .ok (.bipush 64, 2) := by decide +kernel
theorem d_Mod_endRun_346 : decode b_Mod_endRun 346 = .ok (.if_icmp .ne 52, 3) := by decide +kernel
theorem d_Mod_endRun_349 : decode b_Mod_endRun 349 = .ok (.aload_n 0, 1) := by decide +kernel
theorem d_Mod_endRun_350 : decode b_Mod_endRun 350 = .ok (.getfield 26, 3) := by decide +kernel
theorem d_Mod_endRun_353 : decode b_Mod_endRun 353 = .ok (.iload 9, 2) := by decide +kernel
theorem d_Mod_endRun_355 : decode b_Mod_endRun 355 = .ok (.aload_n 0, 1) := by decide +kernel
theorem d_Mod_endRun_356 : decode b_Mod_endRun 356 = .ok (.getfield 26, 3) := by decide +kernel
theorem d_Mod_endRun_359 : decode b_Mod_endRun 359 = .ok (.iload 9, 2) := by decide +kernel
theorem d_Mod_endRun_361 : decode b_Mod_endRun 361 = .ok (.iaload, 1) := by decide +kernel
theorem d_Mod_endRun_362 : decode b_Mod_endRun 362 = .ok (.invokestatic 188, 3) := by decide +kernel
theorem d_Mod_endRun_365 : decode b_Mod_endRun 365 = .ok (.iastore, 1) := by decide +kernel
theorem d_Mod_endRun_366 : decode b_Mod_endRun 366 = .ok (.aload_n 0, 1) := by decide +kernel
theorem d_Mod_endRun_367 : decode b_Mod_endRun 367 = .ok (.getfield 26, 3) := by decide +kernel
theorem d_Mod_endRun_370 : decode b_Mod_endRun 370 = .ok (.iload 9, 2) := by decide +kernel
theorem d_Mod_endRun_372 : decode b_Mod_endRun 372 = .ok (.iconst 4, 1) := by decide +kernel
theorem d_Mod_endRun_373 : decode b_Mod_endRun 373 = .ok (.iadd, 1) := by decide +kernel
theorem d_Mod_endRun_374 : decode b_Mod_endRun 374 = .ok (.aload_n 0, 1) := by decide +kernel
theorem d_Mod_endRun_375 : decode b_Mod_endRun 375 = .ok (.getfield 26, 3) := by decide +kernel
theorem d_Mod_endRun_378 : decode b_Mod_endRun 378 = .ok (.iload 9, 2) := by decide +kernel
theorem d_Mod_endRun_380 : decode b_Mod_endRun 380 = .ok (.iconst 4, 1) := by decide +kernel
theorem d_Mod_endRun_381 : decode b_Mod_endRun 381 = .ok (.iadd, 1) := by decide +kernel
theorem d_Mod_endRun_382 : decode b_Mod_endRun 382 = .ok (.iaload, 1) := by decide +kernel
theorem d_Mod_endRun_383 : decode b_Mod_endRun 383 = .ok (.invokestatic 188, 3) := by decide +kernel
theorem d_Mod_endRun_386 : decode b_Mod_endRun 386 = .ok (.iastore, 1) := by decide +kernel
theorem d_Mod_endRun_387 : decode b_Mod_endRun 387 = .ok (.aload_n 0, 1) := by decide +kernel
theorem d_Mod_endRun_388 : decode b_Mod_endRun 388 = .ok (.getfield 26, 3) := by decide +kernel
theorem d_Mod_endRun_391 : decode b_Mod_endRun 391 = .ok (.iload 9, 2) := by decide +kernel
theorem d_Mod_endRun_393 : decode b_Mod_endRun 393 = .ok (.iconst 3, 1) := by decide +kernel
theorem d_Mod_endRun_394 : decode b_Mod_endRun 394 = .ok (.iadd, 1) := by decide +kernel
theorem d_Mod_endRun_395 : decode b_Mod_endRun 395 = .ok (.bipush 32, 2) := by decide +kernel
theorem d_Mod_endRun_397 : decode b_Mod_endRun 397 = .ok (.iastore, 1) := by decide +kernel
theorem d_Mod_endRun_398 : decode b_Mod_endRun 398 = .ok (.aload_n 0, 1) := by decide +kernel
theorem d_Mod_endRun_399 : decode b_Mod_endRun 399 = .ok (.getfield 26, 3) := by decide +kernel
theorem d_Mod_endRun_402 : decode b_Mod_endRun 402 = .ok (.iload 9, 2) := by decide +kernel
theorem d_Mod_endRun_404 : decode b_Mod_endRun 404 = .ok (.iconst 3, 1) := by decide +kernel
theorem d_Mod_endRun_405 : decode b_Mod_endRun 405 = .ok (.iadd, 1) := by decide +kernel
theorem d_Mod_endRun_406 : decode b_Mod_endRun 406 = .ok (.dup2, 1) := by decide +kernel
theorem d_Mod_endRun_407 : decode b_Mod_endRun 407 = .ok (.iaload, 1) := by decide +kernel
theorem d_Mod_endRun_408 : decode b_Mod_endRun 408 = .ok (.iconst 1, 1) := by decide +kernel
theorem d_Mod_endRun_409 : decode b_Mod_endRun 409 = .ok (.iadd, 1) := by decide +kernel
theorem d_Mod_endRun_410 : decode b_Mod_endRun 410 = .ok (.iastore, 1) := by decide +kernel
theorem d_Mod_endRun_411 : decode b_Mod_endRun 411 = .ok (.aload_n 0, 1) := by decide +kernel
theorem d_Mod_endRun_412 : decode b_Mod_endRun 412 = .ok (.aload_n 0, 1) := by decide +kernel
theorem d_Mod_endRun_413 : decode b_Mod_endRun 413 = .ok (.getfield 84, 3) := by decide +kernel
theorem d_Mod_endRun_416 : decode b_Mod_endRun 416 = .ok (.ifCond .le 12, 3) := by decide +kernel
theorem d_Mod_endRun_419 : decode b_Mod_endRun 419 = .ok (.aload_n 0, 1) := by decide +kernel
theorem d_Mod_endRun_420 : decode b_Mod_endRun 420 = .ok (.getfield 84, 3) := by decide +kernel
theorem d_Mod_endRun_423 : decode b_Mod_endRun 423 = .ok (.iconst 1, 1) := by decide +kernel
theorem d_Mod_endRun_424 : decode b_Mod_endRun 424 = .ok (.isub, 1) := by decide +kernel
theorem d_Mod_endRun_425 : decode b_Mod_endRun 425 = .ok (.goto 4, 3) := by decide +kernel
theorem d_Mod_endRun_428 : decode b_Mod_endRun 428 = .ok (.iconst 0, 1) := by decide +kernel
theorem d_Mod_endRun_429 : decode b_Mod_endRun 429 = .ok (.putfield 84, 3) := by decide +kernel
theorem d_Mod_endRun_432 : decode b_Mod_endRun 432 = .ok (.return_, 1) := by decide +kernel
theorem d_Mod_endsWell_0 : decode b_Mod_endsWell 0 = .ok (.aload_n 0, 1) := by decide +kernel
theorem d_Mod_endsWell_1 : decode b_Mod_endsWell 1 = .ok (.getfield 109, 3) := by decide +kernel
theorem d_Mod_endsWell_4 : decode b_Mod_endsWell 4 = .ok (.ifCond .le 13, 3) := by decide +kernel
theorem d_Mod_endsWell_7 : decode b_Mod_endsWell 7 = .ok (.aload_n 0, 1) := by decide +kernel
theorem d_Mod_endsWell_8 : decode b_Mod_endsWell 8 = .ok (.invokevirtual 122, 3) := by decide +kernel
theorem d_Mod_endsWell_11 : decode b_Mod_endsWell 11 = .ok (.iconst 1, 1) := by decide +kernel
theorem d_Mod_endsWell_12 : decode b_Mod_endsWell 12 = .ok (.if_icmp .ne (-12), 3) := by decide +kernel
theorem d_Mod_endsWell_15 : decode b_Mod_endsWell 15 = .ok (.iconst 0, 1) := by decide +kernel
theorem d_Mod_endsWell_16 : decode b_Mod_endsWell 16 = .ok (.ireturn, 1) := by decide +kernel
theorem d_Mod_endsWell_17 : decode b_Mod_endsWell 17 = .ok (.aload_n 0, 1) := by decide +kernel
theorem d_Mod_endsWell_18 : decode b_Mod_endsWell 18 = .ok (.getfield 112, 3) := by decide +kernel
theorem d_Mod_endsWell_21 : decode b_Mod_endsWell 21 = .ok (.sipush 255, 3) := by decide +kernel
theorem d_Mod_endsWell_24 : decode b_Mod_endsWell 24 = .ok (.if_icmp .ne 40, 3) := by decide +kernel
theorem d_Mod_endsWell_27 : decode b_Mod_endsWell 27 = .ok (.aload_n 0, 1) := by decide +kernel
theorem d_Mod_endsWell_28 : decode b_Mod_endsWell 28 = .ok (.getfield 115, 3) := by decide +kernel
theorem d_Mod_endsWell_31 : decode b_Mod_endsWell 31 = .ok (.aload_n 0, 1) := by decide +kernel
theorem d_Mod_endsWell_32 : decode b_Mod_endsWell 32 = .ok (.getfield 91, 3) := by decide +kernel
theorem d_Mod_endsWell_35 : decode b_Mod_endsWell 35 = .ok (.iconst 2, 1) := by decide +kernel
theorem d_Mod_endsWell_36 : decode b_Mod_endsWell 36 = .ok (.isub, 1) := by decide +kernel
theorem d_Mod_endsWell_37 : decode b_Mod_endsWell 37 = .ok (.if_icmp .ge 15, 3) := by decide +kernel
theorem d_Mod_endsWell_40 : decode b_Mod_endsWell 40 = .ok (.aload_n 0, 1) := by decide +kernel
theorem d_Mod_endsWell_41 : decode b_Mod_endsWell 41 = .ok (.getfield 29, 3) := by decide +kernel
theorem d_Mod_endsWell_44 : decode b_Mod_endsWell 44 = .ok (.aload_n 0, 1) := by decide +kernel
theorem d_Mod_endsWell_45 : decode b_Mod_endsWell 45 = .ok (.getfield 115, 3) := by decide +kernel
theorem d_Mod_endsWell_48 : decode b_Mod_endsWell 48 = .ok (.iaload, 1) := by decide +kernel
theorem d_Mod_endsWell_49 : decode b_Mod_endsWell 49 = .ok (.ifCond .eq 5, 3) := by decide +kernel
theorem d_Mod_endsWell_52 : decode b_Mod_endsWell 52 = .ok (.iconst 0, 1) := by decide +kernel
theorem d_Mod_endsWell_53 : decode b_Mod_endsWell 53 = .ok (.ireturn, 1) := by decide +kernel
theorem d_Mod_endsWell_54 : decode b_Mod_endsWell 54 = .ok (.aload_n 0, 1) := by decide +kernel
theorem d_Mod_endsWell_55 : decode b_Mod_endsWell 55 = .ok (.dup, 1) := by decide +kernel
theorem d_Mod_endsWell_56 : decode b_Mod_endsWell 56 = .ok (.getfield 115, 3) := by decide +kernel
theorem d_Mod_endsWell_59 : decode b_Mod_endsWell 59 = .ok (.iconst 1, 1) := by decide +kernel
theorem d_Mod_endsWell_60 : decode b_Mod_endsWell 60 = .ok (.iadd, 1) := by decide +kernel
theorem d_Mod_endsWell_61 : decode b_Mod_endsWell 61 = .ok (.putfield 115, 3) := by decide +kernel
theorem d_Mod_endsWell_64 : decode b_Mod_endsWell 64 = .ok (.aload_n 0, 1) := by decide +kernel
theorem d_Mod_endsWell_65 : decode b_Mod_endsWell 65 = .ok (.getfield 115, 3) := by decide +kernel
theorem d_Mod_endsWell_68 : decode b_Mod_endsWell 68 = .ok (.aload_n 0, 1) := by decide +kernel
theorem d_Mod_endsWell_69 : decode b_Mod_endsWell 69 = .ok (.getfield 91, 3) := by decide +kernel
theorem d_Mod_endsWell_72 : decode b_Mod_endsWell 72 = .ok (.iconst 2, 1) := by decide +kernel
theorem d_Mod_endsWell_73 : decode b_Mod_endsWell 73 = .ok (.isub, 1) := by decide +kernel
theorem d_Mod_endsWell_74 : decode b_Mod_endsWell 74 = .ok (.if_icmp .ne 39, 3) := by decide +kernel
theorem d_Mod_endsWell_77 : decode b_Mod_endsWell 77 = .ok (.aload_n 0, 1) := by decide +kernel
theorem d_Mod_endsWell_78 : decode b_Mod_endsWell 78 = .ok (.getfield 29, 3) := by decide +kernel
theorem d_Mod_endsWell_81 : decode b_Mod_endsWell 81 = .ok (.aload_n 0, 1) := by decide +kernel
theorem d_Mod_endsWell_82 : decode b_Mod_endsWell 82 = .ok (.getfield 115, 3) := by decide +kernel
theorem d_Mod_endsWell_85 : decode b_Mod_endsWell 85 = .ok (.iaload, 1) := by decide +kernel
theorem d_Mod_endsWell_86 : decode b_Mod_endsWell 86 = .ok (.sipush 255, 3) := by decide +kernel
theorem d_Mod_endsWell_89 : decode b_Mod_endsWell 89 = .ok (.if_icmp .ne 24, 3) := by decide +kernel
theorem d_Mod_endsWell_92 : decode b_Mod_endsWell 92 = .ok (.aload_n 0, 1) := by decide +kernel
theorem d_Mod_endsWell_93 : decode b_Mod_endsWell 93 = .ok (.getfield 29, 3) := by decide +kernel
theorem d_Mod_endsWell_96 : decode b_Mod_endsWell 96 = .ok (.aload_n 0, 1) := by decide +kernel
theorem d_Mod_endsWell_97 : decode b_Mod_endsWell 97 = .ok (.getfield 115, 3) := by decide +kernel
theorem d_Mod_endsWell_100 : decode b_Mod_endsWell 100 = .ok (.iconst 1, 1) := by decide +kernel
theorem d_Mod_endsWell_101 : decode b_Mod_endsWell 101 = .ok (.iadd, 1) := by decide +kernel
theorem d_Mod_endsWell_102 : decode b_Mod_endsWell 102 = .ok (.iaload, 1) := by decide +kernel
theorem d_Mod_endsWell_103 : decode b_Mod_endsWell 103 = .ok (.sipush 217, 3) := by decide +kernel
theorem d_Mod_endsWell_106 : decode b_Mod_endsWell 106 = .ok (.if_icmp .ne 7, 3) := by decide +kernel
theorem d_Mod_endsWell_109 : decode b_Mod_endsWell 109 = .ok (.iconst 1, 1) := by decide +kernel
theorem d_Mod_endsWell_110 : decode b_Mod_endsWell 110 = .ok (.goto 4, 3) := by decide +kernel
theorem d_Mod_endsWell_113 : decode b_Mod_endsWell 113 = .ok (.iconst 0, 1) := by decide +kernel
theorem d_Mod_endsWell_114 : decode b_Mod_endsWell 114 = .ok (.ireturn, 1) := by decide +kernel
theorem d_Mod_errorOf_0 : decode b_Mod_errorOf 0 = .ok (.aload_n 0, 1) := by decide +kernel
theorem d_Mod_errorOf_1 : decode b_Mod_errorOf 1 = .ok (.iload 4, 2) := by decide +kernel
theorem d_Mod_errorOf_3 : decode b_Mod_errorOf 3 = .ok (.aload_n 0, 1) := by decide +kernel
theorem d_Mod_errorOf_4 : decode b_Mod_errorOf 4 = .ok (.getfield 19, 3) := by decide +kernel
theorem d_Mod_errorOf_7 : decode b_Mod_errorOf 7 = .ok (.bipush 8, 2) := by decide +kernel
theorem d_Mod_errorOf_9 : decode b_Mod_errorOf 9 = .ok (.iload_n 2, 1) := by decide +kernel
theorem d_Mod_errorOf_10 : decode b_Mod_errorOf 10 = .ok (.imul, 1) := by decide +kernel
theorem d_Mod_errorOf_11 : decode b_Mod_errorOf 11 = .ok (.iload_n 1, 1) := by decide +kernel
theorem d_Mod_errorOf_12 : decode b_Mod_errorOf 12 = .ok (.iadd, 1) := by decide +kernel
theorem d_Mod_errorOf_13 : decode b_Mod_errorOf 13 = .ok (.iaload, 1) := by decide +kernel
theorem d_Mod_errorOf_14 : decode b_Mod_errorOf 14 = .ok (.iload_n 3, 1) := by decide +kernel
theorem d_Mod_errorOf_15 : decode b_Mod_errorOf 15 = .ok (.isub, 1) := by decide +kernel
theorem d_Mod_errorOf_16 : decode b_Mod_errorOf 16 = .ok (.imul, 1) := by decide +kernel
theorem d_Mod_errorOf_17 : decode b_Mod_errorOf 17 = .ok (.invokevirtual 143, 3) := by decide +kernel
theorem d_Mod_errorOf_20 : decode b_Mod_errorOf 20 = .ok (.istore 5, 2) := by decide +kernel
theorem d_Mod_errorOf_22 : decode b_Mod_errorOf 22 = .ok (.aload_n 0, 1) := by decide +kernel
theorem d_Mod_errorOf_23 : decode b_Mod_errorOf 23 = .ok (.getfield 23, 3) := by decide +kernel
theorem d_Mod_errorOf_26 : decode b_Mod_errorOf 26 = .ok (.bipush 8, 2) := by decide +kernel
theorem d_Mod_errorOf_28 : decode b_Mod_errorOf 28 = .ok (.iload_n 2, 1) := by decide +kernel
theorem d_Mod_errorOf_29 : decode b_Mod_errorOf 29 = .ok (.imul, 1) := by decide +kernel
theorem d_Mod_errorOf_30 : decode b_Mod_errorOf 30 = .ok (.iload_n 1, 1) := by decide +kernel
theorem d_Mod_errorOf_31 : decode b_Mod_errorOf 31 = .ok (.iadd, 1) := by decide +kernel
theorem d_Mod_errorOf_32 : decode b_Mod_errorOf 32 = .ok (.aload_n 0, 1) := by decide +kernel
theorem d_Mod_errorOf_33 : decode b_Mod_errorOf 33 = .ok (.iload_n 3, 1) := by decide +kernel
theorem d_Mod_errorOf_34 : decode b_Mod_errorOf 34 = .ok (.iload 4, 2) := by decide +kernel
theorem d_Mod_errorOf_36 : decode b_Mod_errorOf 36 = .ok (.iload 5, 2) := by decide +kernel
theorem d_Mod_errorOf_38 : decode b_Mod_errorOf 38 = .ok (.imul, 1) := by decide +kernel
theorem d_Mod_errorOf_39 : decode b_Mod_errorOf 39 = .ok (.aload_n 0, 1) := by decide +kernel
theorem d_Mod_errorOf_40 : decode b_Mod_errorOf 40 = .ok (.getfield 53, 3) := by decide +kernel
theorem d_Mod_errorOf_43 : decode b_Mod_errorOf 43 = .ok (.imul, 1) := by decide +kernel
theorem d_Mod_errorOf_44 : decode b_Mod_errorOf 44 = .ok (.iadd, 1) := by decide +kernel
theorem d_Mod_errorOf_45 : decode b_Mod_errorOf 45 = .ok (.invokevirtual 146, 3) := by decide +kernel
theorem d_Mod_errorOf_48 : decode b_Mod_errorOf 48 = .ok (.iastore, 1) := by decide +kernel
theorem d_Mod_errorOf_49 : decode b_Mod_errorOf 49 = .ok (.aload_n 0, 1) := by decide +kernel
theorem d_Mod_errorOf_50 : decode b_Mod_errorOf 50 = .ok (.iload 5, 2) := by decide +kernel
theorem d_Mod_errorOf_52 : decode b_Mod_errorOf 52 = .ok (.invokevirtual 149, 3) := by decide +kernel
theorem d_Mod_errorOf_55 : decode b_Mod_errorOf 55 = .ok (.ireturn, 1) := by decide +kernel
theorem d_Mod_fits_0 : decode b_Mod_fits 0 = .ok (.iload_n 0, 1) := by decide +kernel
theorem d_Mod_fits_1 : decode b_Mod_fits 1 = .ok (.iconst 1, 1) := by decide +kernel
theorem d_Mod_fits_2 : decode b_Mod_fits 2 = .ok (.if_icmp .lt 52, 3) := by decide +kernel
theorem d_Mod_fits_5 : decode b_Mod_fits 5 = .ok (.iload_n 0, 1) := by decide +kernel
theorem d_Mod_fits_6 : decode b_Mod_fits 6 = .ok (.bipush 8, 2) := by decide +kernel
theorem d_Mod_fits_8 : decode b_Mod_fits 8 = .ok (.if_icmp .gt 46, 3) := by decide +kernel
theorem d_Mod_fits_11 : decode b_Mod_fits 11 = .ok (.iload_n 1, 1) := by decide +kernel
theorem d_Mod_fits_12 : decode b_Mod_fits 12 = .ok (.iconst 1, 1) := by decide +kernel
theorem d_Mod_fits_13 : decode b_Mod_fits 13 = .ok (.if_icmp .lt 41, 3) := by decide +kernel
theorem d_Mod_fits_16 : decode b_Mod_fits 16 = .ok (.iload_n 1, 1) := by decide +kernel
theorem d_Mod_fits_17 : decode b_Mod_fits 17 = .ok (.bipush 8, 2) := by decide +kernel
theorem d_Mod_fits_19 : decode b_Mod_fits 19 = .ok (.if_icmp .gt 35, 3) := by decide +kernel
theorem d_Mod_fits_22 : decode b_Mod_fits 22 = .ok (.iload_n 2, 1) := by decide +kernel
theorem d_Mod_fits_23 : decode b_Mod_fits 23 = .ok (.iconst 3, 1) := by decide +kernel
theorem d_Mod_fits_24 : decode b_Mod_fits 24 = .ok (.if_icmp .lt 30, 3) := by decide +kernel
theorem d_Mod_fits_27 : decode b_Mod_fits 27 = .ok (.iload_n 2, 1) := by decide +kernel
theorem d_Mod_fits_28 : decode b_Mod_fits 28 = .ok (.sipush 255, 3) := by decide +kernel
theorem d_Mod_fits_31 : decode b_Mod_fits 31 = .ok (.if_icmp .gt 23, 3) := by decide +kernel
theorem d_Mod_fits_34 : decode b_Mod_fits 34 = .ok (.iload_n 3, 1) := by decide +kernel
theorem d_Mod_fits_35 : decode b_Mod_fits 35 = .ok (.ifCond .lt 19, 3) := by decide +kernel
theorem d_Mod_fits_38 : decode b_Mod_fits 38 = .ok (.iload_n 3, 1) := by decide +kernel
theorem d_Mod_fits_39 : decode b_Mod_fits 39 = .ok (.iconst 3, 1) := by decide +kernel
theorem d_Mod_fits_40 : decode b_Mod_fits 40 = .ok (.if_icmp .gt 14, 3) := by decide +kernel
theorem d_Mod_fits_43 : decode b_Mod_fits 43 = .ok (.iload_n 3, 1) := by decide +kernel
theorem d_Mod_fits_44 : decode b_Mod_fits 44 = .ok (.iload_n 2, 1) := by decide +kernel
theorem d_Mod_fits_45 : decode b_Mod_fits 45 = .ok (.iconst 2, 1) := by decide +kernel
theorem d_Mod_fits_46 : decode b_Mod_fits 46 = .ok (.idiv, 1) := by decide +kernel
theorem d_Mod_fits_47 : decode b_Mod_fits 47 = .ok (.if_icmp .gt 7, 3) := by decide +kernel
theorem d_Mod_fits_50 : decode b_Mod_fits 50 = .ok (.iconst 1, 1) := by decide +kernel
theorem d_Mod_fits_51 : decode b_Mod_fits 51 = .ok (.goto 4, 3) := by decide +kernel
theorem d_Mod_fits_54 : decode b_Mod_fits 54 = .ok (.iconst 0, 1) := by decide +kernel
theorem d_Mod_fits_55 : decode b_Mod_fits 55 = .ok (.ireturn, 1) := by decide +kernel
theorem d_Mod_forget_0 : decode b_Mod_forget 0 = .ok (.iconst 0, 1) := by decide +kernel
theorem d_Mod_forget_1 : decode b_Mod_forget 1 = .ok (.istore_n 1, 1) := by decide +kernel
theorem d_Mod_forget_2 : decode b_Mod_forget 2 = .ok (.iload_n 1, 1) := by decide +kernel
theorem d_Mod_forget_3 : decode b_Mod_forget 3 = .ok (.sipush 367, 3) := by decide +kernel
theorem d_Mod_forget_6 : decode b_Mod_forget 6 = .ok (.if_icmp .ge 75, 3) := by decide +kernel
theorem d_Mod_forget_9 : decode b_Mod_forget 9 = .ok (.aload_n 0, 1) := by decide +kernel
theorem d_Mod_forget_10 : decode b_Mod_forget 10 = .ok (.getfield 26, 3) := by decide +kernel
theorem d_Mod_forget_13 : decode b_Mod_forget 13 = .ok (.iconst 5, 1) := by decide +kernel
theorem d_Mod_forget_14 : decode b_Mod_forget 14 = .ok (.iload_n 1, 1) := by decide +kernel
theorem d_Mod_forget_15 : decode b_Mod_forget 15 = .ok (.imul, 1) := by decide +kernel
theorem d_Mod_forget_16 : decode b_Mod_forget 16 = .ok (.iconst 2, 1) := by decide +kernel
theorem d_Mod_forget_17 : decode b_Mod_forget 17 = .ok (.aload_n 0, 1) := by decide +kernel
theorem d_Mod_forget_18 : decode b_Mod_forget 18 = .ok (.getfield 56, 3) := by decide +kernel
theorem d_Mod_forget_21 : decode b_Mod_forget 21 = .ok (.bipush 32, 2) := by decide +kernel
theorem d_Mod_forget_23 : decode b_Mod_forget 23 = .ok (.iadd, 1) := by decide +kernel
theorem d_Mod_forget_24 : decode b_Mod_forget 24 = .ok (.bipush 64, 2) := by decide +kernel
theorem d_Mod_forget_26 : decode b_Mod_forget 26 = .ok (.idiv, 1) := by decide +kernel
theorem d_Mod_forget_27 : decode b_Mod_forget 27 = .ok (.invokestatic 66, 3) := by decide +kernel
theorem d_Mod_forget_30 : decode b_Mod_forget 30 = .ok (.iastore, 1) := by decide +kernel
theorem d_Mod_forget_31 : decode b_Mod_forget 31 = .ok (.aload_n 0, 1) := by decide +kernel
theorem d_Mod_forget_32 : decode b_Mod_forget 32 = .ok (.getfield 26, 3) := by decide +kernel
theorem d_Mod_forget_35 : decode b_Mod_forget 35 = .ok (.iconst 5, 1) := by decide +kernel
theorem d_Mod_forget_36 : decode b_Mod_forget 36 = .ok (.iload_n 1, 1) := by decide +kernel
theorem d_Mod_forget_37 : decode b_Mod_forget 37 = .ok (.imul, 1) := by decide +kernel
theorem d_Mod_forget_38 : decode b_Mod_forget 38 = .ok (.iconst 1, 1) := by decide +kernel
theorem d_Mod_forget_39 : decode b_Mod_forget 39 = .ok (.iadd, 1) := by decide +kernel
theorem d_Mod_forget_40 : decode b_Mod_forget 40 = .ok (.iconst 0, 1) := by decide +kernel
theorem d_Mod_forget_41 : decode b_Mod_forget 41 = .ok (.iastore, 1) := by decide +kernel
theorem d_Mod_forget_42 : decode b_Mod_forget 42 = .ok (.aload_n 0, 1) := by decide +kernel
theorem d_Mod_forget_43 : decode b_Mod_forget 43 = .ok (.getfield 26, 3) := by decide +kernel
theorem d_Mod_forget_46 : decode b_Mod_forget 46 = .ok (.iconst 5, 1) := by decide +kernel
theorem d_Mod_forget_47 : decode b_Mod_forget 47 = .ok (.iload_n 1, 1) := by decide +kernel
theorem d_Mod_forget_48 : decode b_Mod_forget 48 = .ok (.imul, 1) := by decide +kernel
theorem d_Mod_forget_49 : decode b_Mod_forget 49 = .ok (.iconst 2, 1) := by decide +kernel
theorem d_Mod_forget_50 : decode b_Mod_forget 50 = .ok (.iadd, 1) := by decide +kernel
theorem d_Mod_forget_51 : decode b_Mod_forget 51 = .ok (.iconst 0, 1) := by decide +kernel
theorem d_Mod_forget_52 : decode b_Mod_forget 52 = .ok (.iastore, 1) := by decide +kernel
theorem d_Mod_forget_53 : decode b_Mod_forget 53 = .ok (.aload_n 0, 1) := by decide +kernel
theorem d_Mod_forget_54 : decode b_Mod_forget 54 = .ok (.getfield 26, 3) := by decide +kernel
theorem d_Mod_forget_57 : decode b_Mod_forget 57 = .ok (.iconst 5, 1) := by decide +kernel
theorem d_Mod_forget_58 : decode b_Mod_forget 58 = .ok (.iload_n 1, 1) := by decide +kernel
theorem d_Mod_forget_59 : decode b_Mod_forget 59 = .ok (.imul, 1) := by decide +kernel
theorem d_Mod_forget_60 : decode b_Mod_forget 60 = .ok (.iconst 3, 1) := by decide +kernel
theorem d_Mod_forget_61 : decode b_Mod_forget 61 = .ok (.iadd, 1) := by decide +kernel
theorem d_Mod_forget_62 : decode b_Mod_forget 62 = .ok (.iconst 1, 1) := by decide +kernel
theorem d_Mod_forget_63 : decode b_Mod_forget 63 = .ok (.iastore, 1) := by decide +kernel
theorem d_Mod_forget_64 : decode b_Mod_forget 64 = .ok (.aload_n 0, 1) := by decide +kernel
theorem d_Mod_forget_65 : decode b_Mod_forget 65 = .ok (.getfield 26, 3) := by decide +kernel
theorem d_Mod_forget_68 : decode b_Mod_forget 68 = .ok (.iconst 5, 1) := by decide +kernel
theorem d_Mod_forget_69 : decode b_Mod_forget 69 = .ok (.iload_n 1, 1) := by decide +kernel
theorem d_Mod_forget_70 : decode b_Mod_forget 70 = .ok (.imul, 1) := by decide +kernel
theorem d_Mod_forget_71 : decode b_Mod_forget 71 = .ok (.iconst 4, 1) := by decide +kernel
theorem d_Mod_forget_72 : decode b_Mod_forget 72 = .ok (.iadd, 1) := by decide +kernel
theorem d_Mod_forget_73 : decode b_Mod_forget 73 = .ok (.iconst 0, 1) := by decide +kernel
theorem d_Mod_forget_74 : decode b_Mod_forget 74 = .ok (.iastore, 1) := by decide +kernel
theorem d_Mod_forget_75 : decode b_Mod_forget 75 = .ok (.iinc 1 1, 3) := by decide +kernel
theorem d_Mod_forget_78 : decode b_Mod_forget 78 = .ok (.goto (-76), 3) := by decide +kernel
theorem d_Mod_forget_81 : decode b_Mod_forget 81 = .ok (.aload_n 0, 1) := by decide +kernel
theorem d_Mod_forget_82 : decode b_Mod_forget 82 = .ok (.iconst 0, 1) := by decide +kernel
theorem d_Mod_forget_83 : decode b_Mod_forget 83 = .ok (.putfield 84, 3) := by decide +kernel
theorem d_Mod_forget_86 : decode b_Mod_forget 86 = .ok (.iconst 0, 1) := by decide +kernel
theorem d_Mod_forget_87 : decode b_Mod_forget 87 = .ok (.istore_n 1, 1) := by decide +kernel
theorem d_Mod_forget_88 : decode b_Mod_forget 88 = .ok (.iload_n 1, 1) := by decide +kernel
theorem d_Mod_forget_89 : decode b_Mod_forget 89 = .ok (.bipush 64, 2) := by decide +kernel
theorem d_Mod_forget_91 : decode b_Mod_forget 91 = .ok (.if_icmp .ge 16, 3) := by decide +kernel
theorem d_Mod_forget_94 : decode b_Mod_forget 94 = .ok (.aload_n 0, 1) := by decide +kernel
theorem d_Mod_forget_95 : decode b_Mod_forget 95 = .ok (.getfield 23, 3) := by decide +kernel
theorem d_Mod_forget_98 : decode b_Mod_forget 98 = .ok (.iload_n 1, 1) := by decide +kernel
theorem d_Mod_forget_99 : decode b_Mod_forget 99 = .ok (.iconst 0, 1) := by decide +kernel
theorem d_Mod_forget_100 : decode b_Mod_forget 100 = .ok (.iastore, 1) := by decide +kernel
theorem d_Mod_forget_101 : decode b_Mod_forget 101 = .ok (.iinc 1 1, 3) := by decide +kernel
theorem d_Mod_forget_104 : decode b_Mod_forget 104 = .ok (.goto (-16), 3) := by decide +kernel
theorem d_Mod_forget_107 : decode b_Mod_forget 107 = .ok (.return_, 1) := by decide +kernel
theorem d_Mod_frame_0 : decode b_Mod_frame 0 = .ok (.aload_n 0, 1) := by decide +kernel
theorem d_Mod_frame_1 : decode b_Mod_frame 1 = .ok (.iconst 0, 1) := by decide +kernel
theorem d_Mod_frame_2 : decode b_Mod_frame 2 = .ok (.putfield 47, 3) := by decide +kernel
theorem d_Mod_frame_5 : decode b_Mod_frame 5 = .ok (.iload_n 1, 1) := by decide +kernel
theorem d_Mod_frame_6 : decode b_Mod_frame 6 = .ok (.iload_n 2, 1) := by decide +kernel
theorem d_Mod_frame_7 : decode b_Mod_frame 7 = .ok (.iload_n 3, 1) := by decide +kernel
theorem d_Mod_frame_8 : decode b_Mod_frame 8 = .ok (.iload 4, 2) := by decide +kernel
theorem d_Mod_frame_10 : decode b_Mod_frame 10 = .ok (.invokestatic 87, 3) := by decide +kernel
theorem d_Mod_frame_13 : decode b_Mod_frame 13 = .ok (.ifCond .ne 5, 3) := by decide +kernel
theorem d_Mod_frame_16 : decode b_Mod_frame 16 = .ok (.iconst 0, 1) := by decide +kernel
theorem d_Mod_frame_17 : decode b_Mod_frame 17 = .ok (.ireturn, 1) := by decide +kernel
theorem d_Mod_frame_18 : decode b_Mod_frame 18 = .ok (.aload_n 0, 1) := by decide +kernel
theorem d_Mod_frame_19 : decode b_Mod_frame 19 = .ok (.iload_n 1, 1) := by decide +kernel
theorem d_Mod_frame_20 : decode b_Mod_frame 20 = .ok (.putfield 7, 3) := by decide +kernel
theorem d_Mod_frame_23 : decode b_Mod_frame 23 = .ok (.aload_n 0, 1) := by decide +kernel
theorem d_Mod_frame_24 : decode b_Mod_frame 24 = .ok (.iload_n 2, 1) := by decide +kernel
theorem d_Mod_frame_25 : decode b_Mod_frame 25 = .ok (.putfield 13, 3) := by decide +kernel
theorem d_Mod_frame_28 : decode b_Mod_frame 28 = .ok (.aload_n 0, 1) := by decide +kernel
theorem d_Mod_frame_29 : decode b_Mod_frame 29 = .ok (.iload_n 3, 1) := by decide +kernel
theorem d_Mod_frame_30 : decode b_Mod_frame 30 = .ok (.putfield 16, 3) := by decide +kernel
theorem d_Mod_frame_33 : decode b_Mod_frame 33 = .ok (.aload_n 0, 1) := by decide +kernel
theorem d_Mod_frame_34 : decode b_Mod_frame 34 = .ok (.iload 4, 2) := by decide +kernel
theorem d_Mod_frame_36 : decode b_Mod_frame 36 = .ok (.putfield 50, 3) := by decide +kernel
theorem d_Mod_frame_39 : decode b_Mod_frame 39 = .ok (.aload_n 0, 1) := by decide +kernel
theorem d_Mod_frame_40 : decode b_Mod_frame 40 = .ok (.invokevirtual 41, 3) := by decide +kernel
theorem d_Mod_frame_43 : decode b_Mod_frame 43 = .ok (.aload_n 0, 1) := by decide +kernel
theorem d_Mod_frame_44 : decode b_Mod_frame 44 = .ok (.invokevirtual 44, 3) := by decide +kernel
theorem d_Mod_frame_47 : decode b_Mod_frame 47 = .ok (.iconst 0, 1) := by decide +kernel
theorem d_Mod_frame_48 : decode b_Mod_frame 48 = .ok (.istore 5, 2) := by decide +kernel
theorem d_Mod_frame_50 : decode b_Mod_frame 50 = .ok (.iload 5, 2) := by decide +kernel
theorem d_Mod_frame_52 : decode b_Mod_frame 52 = .ok (.bipush 64, 2) := by decide +kernel
theorem d_Mod_frame_54 : decode b_Mod_frame 54 = .ok (.if_icmp .ge 17, 3) := by decide +kernel
theorem d_Mod_frame_57 : decode b_Mod_frame 57 = .ok (.aload_n 0, 1) := by decide +kernel
theorem d_Mod_frame_58 : decode b_Mod_frame 58 = .ok (.getfield 19, 3) := by decide +kernel
theorem d_Mod_frame_61 : decode b_Mod_frame 61 = .ok (.iload 5, 2) := by decide +kernel
theorem d_Mod_frame_63 : decode b_Mod_frame 63 = .ok (.iconst 0, 1) := by decide +kernel
theorem d_Mod_frame_64 : decode b_Mod_frame 64 = .ok (.iastore, 1) := by decide +kernel
theorem d_Mod_frame_65 : decode b_Mod_frame 65 = .ok (.iinc 5 1, 3) := by decide +kernel
theorem d_Mod_frame_68 : decode b_Mod_frame 68 = .ok (.goto (-18), 3) := by decide +kernel
theorem d_Mod_frame_71 : decode b_Mod_frame 71 = .ok (.aload_n 0, 1) := by decide +kernel
theorem d_Mod_frame_72 : decode b_Mod_frame 72 = .ok (.iconst 0, 1) := by decide +kernel
theorem d_Mod_frame_73 : decode b_Mod_frame 73 = .ok (.putfield 91, 3) := by decide +kernel
theorem d_Mod_frame_76 : decode b_Mod_frame 76 = .ok (.iconst 1, 1) := by decide +kernel
theorem d_Mod_frame_77 : decode b_Mod_frame 77 = .ok (.ireturn, 1) := by decide +kernel
theorem d_Mod_get_0 : decode b_Mod_get 0 = .ok (.aload_n 0, 1) := by decide +kernel
theorem d_Mod_get_1 : decode b_Mod_get 1 = .ok (.getfield 109, 3) := by decide +kernel
theorem d_Mod_get_4 : decode b_Mod_get 4 = .ok (.ifCond .ne 95, 3) := by decide +kernel
theorem d_Mod_get_7 : decode b_Mod_get 7 = .ok (.aload_n 0, 1) := by decide +kernel
theorem d_Mod_get_8 : decode b_Mod_get 8 = .ok (.getfield 112, 3) := by decide +kernel
theorem d_Mod_get_11 : decode b_Mod_get 11 = .ok (.sipush 255, 3) := by decide +kernel
theorem d_Mod_get_14 : decode b_Mod_get 14 = .ok (.if_icmp .ne 7, 3) := by decide +kernel
theorem d_Mod_get_17 : decode b_Mod_get 17 = .ok (.iconst 1, 1) := by decide +kernel
theorem d_Mod_get_18 : decode b_Mod_get 18 = .ok (.goto 4, 3) := by decide +kernel
theorem d_Mod_get_21 : decode b_Mod_get 21 = .ok (.iconst 0, 1) := by decide +kernel
theorem d_Mod_get_22 : decode b_Mod_get 22 = .ok (.istore_n 1, 1) := by decide +kernel
theorem d_Mod_get_23 : decode b_Mod_get 23 = .ok (.aload_n 0, 1) := by decide +kernel
theorem d_Mod_get_24 : decode b_Mod_get 24 = .ok (.getfield 115, 3) := by decide +kernel
theorem d_Mod_get_27 : decode b_Mod_get 27 = .ok (.aload_n 0, 1) := by decide +kernel
theorem d_Mod_get_28 : decode b_Mod_get 28 = .ok (.getfield 91, 3) := by decide +kernel
theorem d_Mod_get_31 : decode b_Mod_get 31 = .ok (.iconst 2, 1) := by decide +kernel
theorem d_Mod_get_32 : decode b_Mod_get 32 = .ok (.isub, 1) := by decide +kernel
theorem d_Mod_get_33 : decode b_Mod_get 33 = .ok (.if_icmp .ge 21, 3) := by decide +kernel
theorem d_Mod_get_36 : decode b_Mod_get 36 = .ok (.iload_n 1, 1) := by decide +kernel
theorem d_Mod_get_37 : decode b_Mod_get 37 = .ok (.ifCond .eq 24, 3) := by decide +kernel
theorem d_Mod_get_40 : decode b_Mod_get 40 = .ok (.aload_n 0, 1) := by decide +kernel
theorem d_Mod_get_41 : decode b_Mod_get 41 = .ok (.getfield 29, 3) := by decide +kernel
theorem d_Mod_get_44 : decode b_Mod_get 44 = .ok (.aload_n 0, 1) := by decide +kernel
theorem d_Mod_get_45 : decode b_Mod_get 45 = .ok (.getfield 115, 3) := by decide +kernel
theorem d_Mod_get_48 : decode b_Mod_get 48 = .ok (.iaload, 1) := by decide +kernel
theorem d_Mod_get_49 : decode b_Mod_get 49 = .ok (.bipush 127, 2) := by decide +kernel
theorem d_Mod_get_51 : decode b_Mod_get 51 = .ok (.if_icmp .le 10, 3) := by decide +kernel
theorem d_Mod_get_54 : decode b_Mod_get 54 = .ok (.aload_n 0, 1) := by decide +kernel
theorem d_Mod_get_55 : decode b_Mod_get 55 = .ok (.iconst 0, 1) := by decide +kernel
theorem d_Mod_get_56 : decode b_Mod_get 56 = .ok (.putfield 118, 3) := by decide +kernel
theorem d_Mod_get_59 : decode b_Mod_get 59 = .ok (.iconst 0, 1) := by decide +kernel
theorem d_Mod_get_60 : decode b_Mod_get 60 = .ok (.ireturn, 1) := by decide +kernel
theorem d_Mod_get_61 : decode b_Mod_get 61 = .ok (.aload_n 0, 1) := by decide +kernel
theorem d_Mod_get_62 : decode b_Mod_get 62 = .ok (.aload_n 0, 1) := by decide +kernel
theorem d_Mod_get_63 : decode b_Mod_get 63 = .ok (.getfield 29, 3) := by decide +kernel
theorem d_Mod_get_66 : decode b_Mod_get 66 = .ok (.aload_n 0, 1) := by decide +kernel
theorem d_Mod_get_67 : decode b_Mod_get 67 = .ok (.getfield 115, 3) := by decide +kernel
theorem d_Mod_get_70 : decode b_Mod_get 70 = .ok (.iaload, 1) := by decide +kernel
theorem d_Mod_get_71 : decode b_Mod_get 71 = .ok (.putfield 112, 3) := by decide +kernel
theorem d_Mod_get_74 : decode b_Mod_get 74 = .ok (.aload_n 0, 1) := by decide +kernel
theorem d_Mod_get_75 : decode b_Mod_get 75 = .ok (.dup, 1) := by decide +kernel
theorem d_Mod_get_76 : decode b_Mod_get 76 = .ok (.getfield 115, 3) := by decide +kernel
theorem d_Mod_get_79 : decode b_Mod_get 79 = .ok (.iconst 1, 1) := by decide +kernel
theorem d_Mod_get_80 : decode b_Mod_get 80 = .ok (.iadd, 1) := by decide +kernel
theorem d_Mod_get_81 : decode b_Mod_get 81 = .ok (.putfield 115, 3) := by decide +kernel
theorem d_Mod_get_84 : decode b_Mod_get 84 = .ok (.aload_n 0, 1) := by decide +kernel
theorem d_Mod_get_85 : decode b_Mod_get 85 = .ok (.iload_n 1, 1) := by decide +kernel
theorem d_Mod_get_86 : decode b_Mod_get 86 = .ok (.ifCond .eq 8, 3) := by decide +kernel
theorem d_Mod_get_89 : decode b_Mod_get 89 = .ok (.bipush 7, 2) := by decide +kernel
theorem d_Mod_get_91 : decode b_Mod_get 91 = .ok (.goto 5, 3) := by decide +kernel
theorem d_Mod_get_94 : decode b_Mod_get 94 = .ok (.bipush 8, 2) := by decide +kernel
theorem d_Mod_get_96 : decode b_Mod_get 96 = .ok (.putfield 109, 3) := by decide +kernel
theorem d_Mod_get_99 : decode b_Mod_get 99 = .ok (.aload_n 0, 1) := by decide +kernel
theorem d_Mod_get_100 : decode b_Mod_get 100 = .ok (.dup, 1) := by decide +kernel
theorem d_Mod_get_101 : decode b_Mod_get 101 = .ok (.getfield 109, 3) := by decide +kernel
theorem d_Mod_get_104 : decode b_Mod_get 104 = .ok (.iconst 1, 1) := by decide +kernel
theorem d_Mod_get_105 : decode b_Mod_get 105 = .ok (.isub, 1) := by decide +kernel
theorem d_Mod_get_106 : decode b_Mod_get 106 = .ok (.putfield 109, 3) := by decide +kernel
theorem d_Mod_get_109 : decode b_Mod_get 109 = .ok (.aload_n 0, 1) := by decide +kernel
theorem d_Mod_get_110 : decode b_Mod_get 110 = .ok (.getfield 112, 3) := by decide +kernel
theorem d_Mod_get_113 : decode b_Mod_get 113 = .ok (.aload_n 0, 1) := by decide +kernel
theorem d_Mod_get_114 : decode b_Mod_get 114 = .ok (.getfield 109, 3) := by decide +kernel
theorem d_Mod_get_117 : decode b_Mod_get 117 = .ok (.ishr, 1) := by decide +kernel
theorem d_Mod_get_118 : decode b_Mod_get 118 = .ok (.iconst 1, 1) := by decide +kernel
theorem d_Mod_get_119 : decode b_Mod_get 119 = .ok (.iand, 1) := by decide +kernel
theorem d_Mod_get_120 : decode b_Mod_get 120 = .ok (.ireturn, 1) := by decide +kernel
theorem d_Mod_getMany_0 : decode b_Mod_getMany 0 = .ok (.iconst 0, 1) := by decide +kernel
theorem d_Mod_getMany_1 : decode b_Mod_getMany 1 = .ok (.istore_n 2, 1) := by decide +kernel
theorem d_Mod_getMany_2 : decode b_Mod_getMany 2 = .ok (.iconst 0, 1) := by decide +kernel
theorem d_Mod_getMany_3 : decode b_Mod_getMany 3 = .ok (.istore_n 3, 1) := by decide +kernel
theorem d_Mod_getMany_4 : decode b_Mod_getMany 4 = .ok (.iload_n 3, 1) := by decide +kernel
theorem d_Mod_getMany_5 : decode b_Mod_getMany 5 = .ok (.iload_n 1, 1) := by decide +kernel
theorem d_Mod_getMany_6 : decode b_Mod_getMany 6 = .ok (.if_icmp .ge 25, 3) := by decide +kernel
theorem d_Mod_getMany_9 : decode b_Mod_getMany 9 = .ok (.aload_n 0, 1) := by decide +kernel
theorem d_Mod_getMany_10 : decode b_Mod_getMany 10 = .ok (.getfield 118, 3) := by decide +kernel
theorem d_Mod_getMany_13 : decode b_Mod_getMany 13 = .ok (.ifCond .eq 18, 3) := by decide +kernel
theorem d_Mod_getMany_16 : decode b_Mod_getMany 16 = .ok (.iconst 2, 1) := by decide +kernel
theorem d_Mod_getMany_17 : decode b_Mod_getMany 17 = .ok (.iload_n 2, 1) := by decide +kernel
theorem d_Mod_getMany_18 : decode b_Mod_getMany 18 = .ok (.imul, 1) := by decide +kernel
theorem d_Mod_getMany_19 : decode b_Mod_getMany 19 = .ok (.aload_n 0, 1) := by decide +kernel
theorem d_Mod_getMany_20 : decode b_Mod_getMany 20 = .ok (.invokevirtual 122, 3) := by decide +kernel
theorem d_Mod_getMany_23 : decode b_Mod_getMany 23 = .ok (.iadd, 1) := by decide +kernel
theorem d_Mod_getMany_24 : decode b_Mod_getMany 24 = .ok (.istore_n 2, 1) := by decide +kernel
theorem d_Mod_getMany_25 : decode b_Mod_getMany 25 = .ok (.iinc 3 1, 3) := by decide +kernel
theorem d_Mod_getMany_28 : decode b_Mod_getMany 28 = .ok (.goto (-24), 3) := by decide +kernel
theorem d_Mod_getMany_31 : decode b_Mod_getMany 31 = .ok (.iload_n 2, 1) := by decide +kernel
theorem d_Mod_getMany_32 : decode b_Mod_getMany 32 = .ok (.ireturn, 1) := by decide +kernel
theorem d_Mod_greater_0 : decode b_Mod_greater 0 = .ok (.iload_n 0, 1) := by decide +kernel
theorem d_Mod_greater_1 : decode b_Mod_greater 1 = .ok (.iload_n 1, 1) := by decide +kernel
theorem d_Mod_greater_2 : decode b_Mod_greater 2 = .ok (.if_icmp .le 7, 3) := by decide +kernel
theorem d_Mod_greater_5 : decode b_Mod_greater 5 = .ok (.iload_n 0, 1) := by decide +kernel
theorem d_Mod_greater_6 : decode b_Mod_greater 6 = .ok (.goto 4, 3) := by decide +kernel
theorem d_Mod_greater_9 : decode b_Mod_greater 9 = .ok (.iload_n 1, 1) := by decide +kernel
theorem d_Mod_greater_10 : decode b_Mod_greater 10 = .ok (.ireturn, 1) := by decide +kernel
theorem d_Mod_half_0 : decode b_Mod_half 0 = .ok (.iload_n 0, 1) := by decide +kernel
theorem d_Mod_half_1 : decode b_Mod_half 1 = .ok (.iconst 1, 1) := by decide +kernel
theorem d_Mod_half_2 : decode b_Mod_half 2 = .ok (.ishr, 1) := by decide +kernel
theorem d_Mod_half_3 : decode b_Mod_half 3 = .ok (.ireturn, 1) := by decide +kernel
theorem d_Mod_held_0 : decode b_Mod_held 0 = .ok (.iload_n 1, 1) := by decide +kernel
theorem d_Mod_held_1 : decode b_Mod_held 1 = .ok (.ifCond .ge 7, 3) := by decide +kernel
theorem d_Mod_held_4 : decode b_Mod_held 4 = .ok (.iconst 0, 1) := by decide +kernel
theorem d_Mod_held_5 : decode b_Mod_held 5 = .ok (.goto 19, 3) := by decide +kernel
theorem d_Mod_held_8 : decode b_Mod_held 8 = .ok (.iload_n 1, 1) := by decide +kernel
theorem d_Mod_held_9 : decode b_Mod_held 9 = .ok (.aload_n 0, 1) := by decide +kernel
theorem d_Mod_held_10 : decode b_Mod_held 10 = .ok (.getfield 16, 3) := by decide +kernel
theorem d_Mod_held_13 : decode b_Mod_held 13 = .ok (.if_icmp .le 10, 3) := by decide +kernel
theorem d_Mod_held_16 : decode b_Mod_held 16 = .ok (.aload_n 0, 1) := by decide +kernel
theorem d_Mod_held_17 : decode b_Mod_held 17 = .ok (.getfield 16, 3) := by decide +kernel
theorem d_Mod_held_20 : decode b_Mod_held 20 = .ok (.goto 4, 3) := by decide +kernel
theorem d_Mod_held_23 : decode b_Mod_held 23 = .ok (.iload_n 1, 1) := by decide +kernel
theorem d_Mod_held_24 : decode b_Mod_held 24 = .ok (.ireturn, 1) := by decide +kernel
theorem d_Mod_init_0 : decode b_Mod_init 0 = .ok (.aload_n 0, 1) := by decide +kernel
theorem d_Mod_init_1 : decode b_Mod_init 1 = .ok (.invokespecial 1, 3) := by decide +kernel
theorem d_Mod_init_4 : decode b_Mod_init 4 = .ok (.aload_n 0, 1) := by decide +kernel
theorem d_Mod_init_5 : decode b_Mod_init 5 = .ok (.iconst 1, 1) := by decide +kernel
theorem d_Mod_init_6 : decode b_Mod_init 6 = .ok (.putfield 7, 3) := by decide +kernel
theorem d_Mod_init_9 : decode b_Mod_init 9 = .ok (.aload_n 0, 1) := by decide +kernel
theorem d_Mod_init_10 : decode b_Mod_init 10 = .ok (.iconst 1, 1) := by decide +kernel
theorem d_Mod_init_11 : decode b_Mod_init 11 = .ok (.putfield 13, 3) := by decide +kernel
theorem d_Mod_init_14 : decode b_Mod_init 14 = .ok (.aload_n 0, 1) := by decide +kernel
theorem d_Mod_init_15 : decode b_Mod_init 15 = .ok (.sipush 255, 3) := by decide +kernel
theorem d_Mod_init_18 : decode b_Mod_init 18 = .ok (.putfield 16, 3) := by decide +kernel
theorem d_Mod_init_21 : decode b_Mod_init 21 = .ok (.aload_n 0, 1) := by decide +kernel
theorem d_Mod_init_22 : decode b_Mod_init 22 = .ok (.bipush 64, 2) := by decide +kernel
theorem d_Mod_init_24 : decode b_Mod_init 24 = .ok (.newarray .int, 2) := by decide +kernel
theorem d_Mod_init_26 : decode b_Mod_init 26 = .ok (.putfield 19, 3) := by decide +kernel
theorem d_Mod_init_29 : decode b_Mod_init 29 = .ok (.aload_n 0, 1) := by decide +kernel
theorem d_Mod_init_30 : decode b_Mod_init 30 = .ok (.bipush 64, 2) := by decide +kernel
theorem d_Mod_init_32 : decode b_Mod_init 32 = .ok (.newarray .int, 2) := by decide +kernel
theorem d_Mod_init_34 : decode b_Mod_init 34 = .ok (.putfield 23, 3) := by decide +kernel
theorem d_Mod_init_37 : decode b_Mod_init 37 = .ok (.aload_n 0, 1) := by decide +kernel
theorem d_Mod_init_38 : decode b_Mod_init 38 = .ok (.sipush 1835, 3) := by decide +kernel
theorem d_Mod_init_41 : decode b_Mod_init 41 = .ok (.newarray .int, 2) := by decide +kernel
theorem d_Mod_init_43 : decode b_Mod_init 43 = .ok (.putfield 26, 3) := by decide +kernel
theorem d_Mod_init_46 : decode b_Mod_init 46 = .ok (.aload_n 0, 1) := by decide +kernel
theorem d_Mod_init_47 : decode b_Mod_init 47 = .ok (.sipush 600, 3) := by decide +kernel
theorem d_Mod_init_50 : decode b_Mod_init 50 = .ok (.newarray .int, 2) := by decide +kernel
theorem d_Mod_init_52 : decode b_Mod_init 52 = .ok (.putfield 29, 3) := by decide +kernel
theorem d_Mod_init_55 : decode b_Mod_init 55 = .ok (.aload_n 0, 1) := by decide +kernel
theorem d_Mod_init_56 : decode b_Mod_init 56 = .ok (.bipush 64, 2) := by decide +kernel
theorem d_Mod_init_58 : decode b_Mod_init 58 = .ok (.newarray .int, 2) := by decide +kernel
theorem d_Mod_init_60 : decode b_Mod_init 60 = .ok (.putfield 32, 3) := by decide +kernel
theorem d_Mod_init_63 : decode b_Mod_init 63 = .ok (.aload_n 0, 1) := by decide +kernel
theorem d_Mod_init_64 : decode b_Mod_init 64 = .ok (.bipush 64, 2) := by decide +kernel
theorem d_Mod_init_66 : decode b_Mod_init 66 = .ok (.newarray .int, 2) := by decide +kernel
theorem d_Mod_init_68 : decode b_Mod_init 68 = .ok (.putfield 35, 3) := by decide +kernel
theorem d_Mod_init_71 : decode b_Mod_init 71 = .ok (.aload_n 0, 1) := by decide +kernel
theorem d_Mod_init_72 : decode b_Mod_init 72 = .ok (.sipush 1835, 3) := by decide +kernel
theorem d_Mod_init_75 : decode b_Mod_init 75 = .ok (.newarray .int, 2) := by decide +kernel
theorem d_Mod_init_77 : decode b_Mod_init 77 = .ok (.putfield 38, 3) := by decide +kernel
theorem d_Mod_init_80 : decode b_Mod_init 80 = .ok (.aload_n 0, 1) := by decide +kernel
theorem d_Mod_init_81 : decode b_Mod_init 81 = .ok (.invokevirtual 41, 3) := by decide +kernel
theorem d_Mod_init_84 : decode b_Mod_init 84 = .ok (.aload_n 0, 1) := by decide +kernel
theorem d_Mod_init_85 : decode b_Mod_init 85 = .ok (.invokevirtual 44, 3) := by decide +kernel
theorem d_Mod_init_88 : decode b_Mod_init 88 = .ok (.return_, 1) := by decide +kernel
theorem d_Mod_isNear_0 : decode b_Mod_isNear 0 = .ok (.iload_n 1, 1) := by decide +kernel
theorem d_Mod_isNear_1 : decode b_Mod_isNear 1 = .ok (.aload_n 0, 1) := by decide +kernel
theorem d_Mod_isNear_2 : decode b_Mod_isNear 2 = .ok (.getfield 50, 3) := by decide +kernel
theorem d_Mod_isNear_5 : decode b_Mod_isNear 5 = .ok (.ineg, 1) := by decide +kernel
theorem d_Mod_isNear_6 : decode b_Mod_isNear 6 = .ok (.if_icmp .lt 15, 3) := by decide +kernel
theorem d_Mod_isNear_9 : decode b_Mod_isNear 9 = .ok (.iload_n 1, 1) := by decide +kernel
theorem d_Mod_isNear_10 : decode b_Mod_isNear 10 = .ok (.aload_n 0, 1) := by decide +kernel
theorem d_Mod_isNear_11 : decode b_Mod_isNear 11 = .ok (.getfield 50, 3) := by decide +kernel
theorem d_Mod_isNear_14 : decode b_Mod_isNear 14 = .ok (.if_icmp .gt 7, 3) := by decide +kernel
theorem d_Mod_isNear_17 : decode b_Mod_isNear 17 = .ok (.iconst 1, 1) := by decide +kernel
theorem d_Mod_isNear_18 : decode b_Mod_isNear 18 = .ok (.goto 4, 3) := by decide +kernel
theorem d_Mod_isNear_21 : decode b_Mod_isNear 21 = .ok (.iconst 0, 1) := by decide +kernel
theorem d_Mod_isNear_22 : decode b_Mod_isNear 22 = .ok (.ireturn, 1) := by decide +kernel
theorem d_Mod_isPlace_0 : decode b_Mod_isPlace 0 = .ok (.iload_n 1, 1) := by decide +kernel
theorem d_Mod_isPlace_1 : decode b_Mod_isPlace 1 = .ok (.ifCond .lt 27, 3) := by decide +kernel
theorem d_Mod_isPlace_4 : decode b_Mod_isPlace 4 = .ok (.iload_n 1, 1) := by decide +kernel
theorem d_Mod_isPlace_5 : decode b_Mod_isPlace 5 = .ok (.aload_n 0, 1) := by decide +kernel
theorem d_Mod_isPlace_6 : decode b_Mod_isPlace 6 = .ok (.getfield 7, 3) := by decide +kernel
theorem d_Mod_isPlace_9 : decode b_Mod_isPlace 9 = .ok (.if_icmp .ge 19, 3) := by decide +kernel
theorem d_Mod_isPlace_12 : decode b_Mod_isPlace 12 = .ok (.iload_n 2, 1) := by decide +kernel
theorem d_Mod_isPlace_13 : decode b_Mod_isPlace 13 = .ok (.ifCond .lt 15, 3) := by decide +kernel
theorem d_Mod_isPlace_16 : decode b_Mod_isPlace 16 = .ok (.iload_n 2, 1) := by decide +kernel
theorem d_Mod_isPlace_17 : decode b_Mod_isPlace 17 = .ok (.aload_n 0, 1) := by decide +kernel
theorem d_Mod_isPlace_18 : decode b_Mod_isPlace 18 = .ok (.getfield 13, 3) := by decide +kernel
theorem d_Mod_isPlace_21 : decode b_Mod_isPlace 21 = .ok (.if_icmp .ge 7, 3) := by decide +kernel
theorem d_Mod_isPlace_24 : decode b_Mod_isPlace 24 = .ok (.iconst 1, 1) := by decide +kernel
theorem d_Mod_isPlace_25 : decode b_Mod_isPlace 25 = .ok (.goto 4, 3) := by decide +kernel
theorem d_Mod_isPlace_28 : decode b_Mod_isPlace 28 = .ok (.iconst 0, 1) := by decide +kernel
theorem d_Mod_isPlace_29 : decode b_Mod_isPlace 29 = .ok (.ireturn, 1) := by decide +kernel
theorem d_Mod_jOf_0 : decode b_Mod_jOf 0 = .ok (.iload_n 1, 1) := by decide +kernel
theorem d_Mod_jOf_1 : decode b_Mod_jOf 1 = .ok (.bipush 16, 2) := by decide +kernel
theorem d_Mod_jOf_3 : decode b_Mod_jOf 3 = .ok (.if_icmp .ge 9, 3) := by decide +kernel
theorem d_Mod_jOf_6 : decode b_Mod_jOf 6 = .ok (.iload_n 1, 1) := by decide +kernel
theorem d_Mod_jOf_7 : decode b_Mod_jOf 7 = .ok (.iconst 4, 1) := by decide +kernel
theorem d_Mod_jOf_8 : decode b_Mod_jOf 8 = .ok (.idiv, 1) := by decide +kernel
theorem d_Mod_jOf_9 : decode b_Mod_jOf 9 = .ok (.goto 24, 3) := by decide +kernel
theorem d_Mod_jOf_12 : decode b_Mod_jOf 12 = .ok (.iload_n 1, 1) := by decide +kernel
theorem d_Mod_jOf_13 : decode b_Mod_jOf 13 = .ok (.bipush 24, 2) := by decide +kernel
theorem d_Mod_jOf_15 : decode b_Mod_jOf 15 = .ok (.if_icmp .ge 14, 3) := by decide +kernel
theorem d_Mod_jOf_18 : decode b_Mod_jOf 18 = .ok (.iconst 4, 1) := by decide +kernel
theorem d_Mod_jOf_19 : decode b_Mod_jOf 19 = .ok (.iload_n 1, 1) := by decide +kernel
theorem d_Mod_jOf_20 : decode b_Mod_jOf 20 = .ok (.bipush 16, 2) := by decide +kernel
theorem d_Mod_jOf_22 : decode b_Mod_jOf 22 = .ok (.isub, 1) := by decide +kernel
theorem d_Mod_jOf_23 : decode b_Mod_jOf 23 = .ok (.iconst 2, 1) := by decide +kernel
theorem d_Mod_jOf_24 : decode b_Mod_jOf 24 = .ok (.idiv, 1) := by decide +kernel
theorem d_Mod_jOf_25 : decode b_Mod_jOf 25 = .ok (.iadd, 1) := by decide +kernel
theorem d_Mod_jOf_26 : decode b_Mod_jOf 26 = .ok (.goto 7, 3) := by decide +kernel
theorem d_Mod_jOf_29 : decode b_Mod_jOf 29 = .ok (.iload_n 1, 1) := by decide +kernel
theorem d_Mod_jOf_30 : decode b_Mod_jOf 30 = .ok (.bipush 16, 2) := by decide +kernel
theorem d_Mod_jOf_32 : decode b_Mod_jOf 32 = .ok (.isub, 1) := by decide +kernel
theorem d_Mod_jOf_33 : decode b_Mod_jOf 33 = .ok (.ireturn, 1) := by decide +kernel
