theorem d_Mod_readRun_0 : decode b_Mod_readRun 0 = .ok (.aload_n 0, 1) := by decide +kernel
theorem d_Mod_readRun_1 : decode b_Mod_readRun 1 = .ok (.iload_n 1, 1) := by decide +kernel
theorem d_Mod_readRun_2 : decode b_Mod_readRun 2 = .ok (.iload_n 2, 1) := by decide +kernel
theorem d_Mod_readRun_3 : decode b_Mod_readRun 3 = .ok (.invokevirtual 140, 3) := by decide +kernel
theorem d_Mod_readRun_6 : decode b_Mod_readRun 6 = .ok (.istore_n 3, 1) := by decide +kernel
theorem d_Mod_readRun_7 : decode b_Mod_readRun 7 = .ok (.iload_n 1, 1) := by decide +kernel
theorem d_Mod_readRun_8 : decode b_Mod_readRun 8 = .ok (.istore 4, 2) := by decide +kernel
theorem d_Mod_readRun_10 : decode b_Mod_readRun 10 = .ok (.iconst 1, 1) := by decide +kernel
theorem d_Mod_readRun_11 : decode b_Mod_readRun 11 = .ok (.istore 5, 2) := by decide +kernel
theorem d_Mod_readRun_13 : decode b_Mod_readRun 13 = .ok (.aload_n 0, 1) := by decide +kernel
theorem d_Mod_readRun_14 : decode b_Mod_readRun 14 = .ok (.getfield 118, 3) := by decide +kernel
theorem d_Mod_readRun_17 : decode b_Mod_readRun 17 = .ok (.ifCond .eq 213, 3) := by decide +kernel
theorem d_Mod_readRun_20 : decode b_Mod_readRun 20 = .ok (.iload 5, 2) := by decide +kernel
theorem d_Mod_readRun_22 : decode b_Mod_readRun 22 = .ok (.ifCond .eq 208, 3) := by decide +kernel
theorem d_Mod_readRun_25 : decode b_Mod_readRun 25 = .ok (.iload 4, 2) := by decide +kernel
theorem d_Mod_readRun_27 : decode b_Mod_readRun 27 = .ok (.aload_n 0, 1) := by decide +kernel
theorem d_Mod_readRun_28 : decode b_Mod_readRun 28 = .ok (.getfield 7, 3) := by decide +kernel
theorem d_Mod_readRun_31 : decode b_Mod_readRun 31 = .ok (.if_icmp .ge 199, 3) := by decide +kernel
theorem d_Mod_readRun_34 : decode b_Mod_readRun 34 = .ok (.iconst 1, 1) := by decide +kernel
theorem d_Mod_readRun_35 : decode b_Mod_readRun 35 = .ok (.aload_n 0, 1) := by decide +kernel
theorem d_Mod_readRun_36 : decode b_Mod_readRun 36 = .ok (.aload_n 0, 1) := by decide +kernel
theorem d_Mod_readRun_37 : decode b_Mod_readRun 37 = .ok (.getfield 84, 3) := by decide +kernel
theorem d_Mod_readRun_40 : decode b_Mod_readRun 40 = .ok (.invokevirtual 195, 3) := by decide +kernel
theorem d_Mod_readRun_43 : decode b_Mod_readRun 43 = .ok (.ishl, 1) := by decide +kernel
theorem d_Mod_readRun_44 : decode b_Mod_readRun 44 = .ok (.istore 6, 2) := by decide +kernel
theorem d_Mod_readRun_46 : decode b_Mod_readRun 46 = .ok (.aload_n 0, 1) := by decide +kernel
theorem d_Mod_readRun_47 : decode b_Mod_readRun 47 = .ok (.invokevirtual 122, 3) := by decide +kernel
theorem d_Mod_readRun_50 : decode b_Mod_readRun 50 = .ok (.iconst 1, 1) := by decide +kernel
theorem d_Mod_readRun_51 : decode b_Mod_readRun 51 = .ok (.if_icmp .ne 7, 3) := by decide +kernel
theorem d_Mod_readRun_54 : decode b_Mod_readRun 54 = .ok (.iconst 1, 1) := by decide +kernel
theorem d_Mod_readRun_55 : decode b_Mod_readRun 55 = .ok (.goto 4, 3) := by decide +kernel
theorem d_Mod_readRun_58 : decode b_Mod_readRun 58 = .ok (.iconst 0, 1) := by decide +kernel
theorem d_Mod_readRun_59 : decode b_Mod_readRun 59 = .ok (.istore 5, 2) := by decide +kernel
theorem d_Mod_readRun_61 : decode b_Mod_readRun 61 = .ok (.iload 5, 2) := by decide +kernel
theorem d_Mod_readRun_63 : decode b_Mod_readRun 63 = .ok (.ifCond .eq 70, 3) := by decide +kernel
theorem d_Mod_readRun_66 : decode b_Mod_readRun 66 = .ok (.aload_n 0, 1) := by decide +kernel
theorem d_Mod_readRun_67 : decode b_Mod_readRun 67 = .ok (.iload 6, 2) := by decide +kernel
theorem d_Mod_readRun_69 : decode b_Mod_readRun 69 = .ok (.aload_n 0, 1) := by decide +kernel
theorem d_Mod_readRun_70 : decode b_Mod_readRun 70 = .ok (.getfield 7, 3) := by decide +kernel
theorem d_Mod_readRun_73 : decode b_Mod_readRun 73 = .ok (.iload 4, 2) := by decide +kernel
theorem d_Mod_readRun_75 : decode b_Mod_readRun 75 = .ok (.isub, 1) := by decide +kernel
theorem d_Mod_readRun_76 : decode b_Mod_readRun 76 = .ok (.if_icmp .gt 21, 3) := by decide +kernel
theorem d_Mod_readRun_79 : decode b_Mod_readRun 79 = .ok (.aload_n 0, 1) := by decide +kernel
theorem d_Mod_readRun_80 : decode b_Mod_readRun 80 = .ok (.getfield 84, 3) := by decide +kernel
theorem d_Mod_readRun_83 : decode b_Mod_readRun 83 = .ok (.bipush 31, 2) := by decide +kernel
theorem d_Mod_readRun_85 : decode b_Mod_readRun 85 = .ok (.if_icmp .ge 12, 3) := by decide +kernel
theorem d_Mod_readRun_88 : decode b_Mod_readRun 88 = .ok (.aload_n 0, 1) := by decide +kernel
theorem d_Mod_readRun_89 : decode b_Mod_readRun 89 = .ok (.getfield 84, 3) := by decide +kernel
theorem d_Mod_readRun_92 : decode b_Mod_readRun 92 = .ok (.iconst 1, 1) := by decide +kernel
theorem d_Mod_readRun_93 : decode b_Mod_readRun 93 = .ok (.iadd, 1) := by decide +kernel
theorem d_Mod_readRun_94 : decode b_Mod_readRun 94 = .ok (.goto 7, 3) := by decide +kernel
theorem d_Mod_readRun_97 : decode b_Mod_readRun 97 = .ok (.aload_n 0, 1) := by decide +kernel
theorem d_Mod_readRun_98 : decode b_Mod_readRun 98 = .ok (.getfield 84, 3) := by decide +kernel
theorem d_Mod_readRun_101 : decode b_Mod_readRun 101 = .ok (.putfield 84, 3) := by decide +kernel
theorem d_Mod_readRun_104 : decode b_Mod_readRun 104 = .ok (.iload 6, 2) := by decide +kernel
theorem d_Mod_readRun_106 : decode b_Mod_readRun 106 = .ok (.aload_n 0, 1) := by decide +kernel
theorem d_Mod_readRun_107 : decode b_Mod_readRun 107 = .ok (.getfield 7, 3) := by decide +kernel
theorem d_Mod_readRun_110 : decode b_Mod_readRun 110 = .ok (.iload 4, 2) := by decide +kernel
theorem d_Mod_readRun_112 : decode b_Mod_readRun 112 = .ok (.isub, 1) := by decide +kernel
theorem d_Mod_readRun_113 : decode b_Mod_readRun 113 = .ok (.if_icmp .gt 8, 3) := by decide +kernel
theorem d_Mod_readRun_116 : decode b_Mod_readRun 116 = .ok (.iload 6, 2) := by decide +kernel
theorem d_Mod_readRun_118 : decode b_Mod_readRun 118 = .ok (.goto 10, 3) := by decide +kernel
theorem d_Mod_readRun_121 : decode b_Mod_readRun 121 = .ok (.aload_n 0, 1) := by decide +kernel
theorem d_Mod_readRun_122 : decode b_Mod_readRun 122 = .ok (.getfield 7, 3) := by decide +kernel
theorem d_Mod_readRun_125 : decode b_Mod_readRun 125 = .ok (.iload 4, 2) := by decide +kernel
theorem d_Mod_readRun_127 : decode b_Mod_readRun 127 = .ok (.isub, 1) := by decide +kernel
theorem d_Mod_readRun_128 : decode b_Mod_readRun 128 = .ok (.istore 6, 2) := by decide +kernel
theorem d_Mod_readRun_130 : decode b_Mod_readRun 130 = .ok (.goto 45, 3) := by decide +kernel
theorem d_Mod_readRun_133 : decode b_Mod_readRun 133 = .ok (.aload_n 0, 1) := by decide +kernel
theorem d_Mod_readRun_134 : decode b_Mod_readRun 134 = .ok (.aload_n 0, 1) := by decide +kernel
theorem d_Mod_readRun_135 : decode b_Mod_readRun 135 = .ok (.aload_n 0, 1) := by decide +kernel
theorem d_Mod_readRun_136 : decode b_Mod_readRun 136 = .ok (.getfield 84, 3) := by decide +kernel
theorem d_Mod_readRun_139 : decode b_Mod_readRun 139 = .ok (.invokevirtual 195, 3) := by decide +kernel
theorem d_Mod_readRun_142 : decode b_Mod_readRun 142 = .ok (.invokevirtual 130, 3) := by decide +kernel
theorem d_Mod_readRun_145 : decode b_Mod_readRun 145 = .ok (.istore 6, 2) := by decide +kernel
theorem d_Mod_readRun_147 : decode b_Mod_readRun 147 = .ok (.aload_n 0, 1) := by decide +kernel
theorem d_Mod_readRun_148 : decode b_Mod_readRun 148 = .ok (.aload_n 0, 1) := by decide +kernel
theorem d_Mod_readRun_149 : decode b_Mod_readRun 149 = .ok (.getfield 118, 3) := by decide +kernel
theorem d_Mod_readRun_152 : decode b_Mod_readRun 152 = .ok (.ifCond .eq 19, 3) := by decide +kernel
theorem d_Mod_readRun_155 : decode b_Mod_readRun 155 = .ok (.iload 6, 2) := by decide +kernel
theorem d_Mod_readRun_157 : decode b_Mod_readRun 157 = .ok (.aload_n 0, 1) := by decide +kernel
theorem d_Mod_readRun_158 : decode b_Mod_readRun 158 = .ok (.getfield 7, 3) := by decide +kernel
theorem d_Mod_readRun_161 : decode b_Mod_readRun 161 = .ok (.iload 4, 2) := by decide +kernel
theorem d_Mod_readRun_163 : decode b_Mod_readRun 163 = .ok (.isub, 1) := by decide +kernel
theorem d_Mod_readRun_164 : decode b_Mod_readRun 164 = .ok (.if_icmp .ge 7, 3) := by decide +kernel
theorem d_Mod_readRun_167 : decode b_Mod_readRun 167 = .ok (.iconst 1, 1) := by decide +kernel
theorem d_Mod_readRun_168 : decode b_Mod_readRun 168 = .ok (.goto 4, 3) := by decide +kernel
theorem d_Mod_readRun_171 : decode b_Mod_readRun 171 = .ok (.iconst 0, 1) := by decide +kernel
theorem d_Mod_readRun_172 : decode b_Mod_readRun 172 = .ok (.putfield 118, 3) := by decide +kernel
theorem d_Mod_readRun_175 : decode b_Mod_readRun 175 = .ok (.iconst 0, 1) := by decide +kernel
theorem d_Mod_readRun_176 : decode b_Mod_readRun 176 = .ok (.istore 7, 2) := by decide +kernel
theorem d_Mod_readRun_178 : decode b_Mod_readRun 178 = .ok (.iload 7, 2) := by decide +kernel
theorem d_Mod_readRun_180 : decode b_Mod_readRun 180 = .ok (.iload 6, 2) := by decide +kernel
theorem d_Mod_readRun_182 : decode b_Mod_readRun 182 = .ok (.if_icmp .ge 45, 3) := by decide +kernel
theorem d_Mod_readRun_185 : decode b_Mod_readRun 185 = .ok (.aload_n 0, 1) := by decide +kernel
theorem d_Mod_readRun_186 : decode b_Mod_readRun 186 = .ok (.getfield 118, 3) := by decide +kernel
theorem d_Mod_readRun_189 : decode b_Mod_readRun 189 = .ok (.ifCond .eq 38, 3) := by decide +kernel
theorem d_Mod_readRun_192 : decode b_Mod_readRun 192 = .ok (.aload_n 0, 1) := by decide +kernel
theorem d_Mod_readRun_193 : decode b_Mod_readRun 193 = .ok (.getfield 23, 3) := by decide +kernel
theorem d_Mod_readRun_196 : decode b_Mod_readRun 196 = .ok (.bipush 8, 2) := by decide +kernel
theorem d_Mod_readRun_198 : decode b_Mod_readRun 198 = .ok (.iload_n 2, 1) := by decide +kernel
theorem d_Mod_readRun_199 : decode b_Mod_readRun 199 = .ok (.imul, 1) := by decide +kernel
theorem d_Mod_readRun_200 : decode b_Mod_readRun 200 = .ok (.iload 4, 2) := by decide +kernel
theorem d_Mod_readRun_202 : decode b_Mod_readRun 202 = .ok (.iadd, 1) := by decide +kernel
theorem d_Mod_readRun_203 : decode b_Mod_readRun 203 = .ok (.iload_n 3, 1) := by decide +kernel
theorem d_Mod_readRun_204 : decode b_Mod_readRun 204 = .ok (.iastore, 1) := by decide +kernel
theorem d_Mod_readRun_205 : decode b_Mod_readRun 205 = .ok (.aload_n 0, 1) := by decide +kernel
theorem d_Mod_readRun_206 : decode b_Mod_readRun 206 = .ok (.getfield 19, 3) := by decide +kernel
theorem d_Mod_readRun_209 : decode b_Mod_readRun 209 = .ok (.bipush 8, 2) := by decide +kernel
theorem d_Mod_readRun_211 : decode b_Mod_readRun 211 = .ok (.iload_n 2, 1) := by decide +kernel
theorem d_Mod_readRun_212 : decode b_Mod_readRun 212 = .ok (.imul, 1) := by decide +kernel
theorem d_Mod_readRun_213 : decode b_Mod_readRun 213 = .ok (.iload 4, 2) := by decide +kernel
theorem d_Mod_readRun_215 : decode b_Mod_readRun 215 = .ok (.iadd, 1) := by decide +kernel
theorem d_Mod_readRun_216 : decode b_Mod_readRun 216 = .ok (.iload_n 3, 1) := by decide +kernel
theorem d_Mod_readRun_217 : decode b_Mod_readRun 217 = .ok (.iastore, 1) := by decide +kernel
theorem d_Mod_readRun_218 : decode b_Mod_readRun 218 = .ok (.iinc 4 1, 3) := by decide +kernel
theorem d_Mod_readRun_221 : decode b_Mod_readRun 221 = .ok (.iinc 7 1, 3) := by decide +kernel
theorem d_Mod_readRun_224 : decode b_Mod_readRun 224 = .ok (.goto (-46), 3) := by decide +kernel
theorem d_Mod_readRun_227 : decode b_Mod_readRun 227 = .ok (.goto (-214), 3) := by decide +kernel
theorem d_Mod_readRun_230 : decode b_Mod_readRun 230 = .ok (.iload 5, 2) := by decide +kernel
theorem d_Mod_readRun_232 : decode b_Mod_readRun 232 = .ok (.ifCond .ne 10, 3) := by decide +kernel
theorem d_Mod_readRun_235 : decode b_Mod_readRun 235 = .ok (.aload_n 0, 1) := by decide +kernel
theorem d_Mod_readRun_236 : decode b_Mod_readRun 236 = .ok (.getfield 118, 3) := by decide +kernel
theorem d_Mod_readRun_239 : decode b_Mod_readRun 239 = .ok (.ifCond .ne 8, 3) := by decide +kernel
theorem d_Mod_readRun_242 : decode b_Mod_readRun 242 = .ok (.aload_n 0, 1) := by decide +kernel
theorem d_Mod_readRun_243 : decode b_Mod_readRun 243 = .ok (.getfield 7, 3) := by decide +kernel
theorem d_Mod_readRun_246 : decode b_Mod_readRun 246 = .ok (.ireturn, 1) := by decide +kernel
theorem d_Mod_readRun_247 : decode b_Mod_readRun 247 = .ok (.aload_n 0, 1) := by decide +kernel
theorem d_Mod_readRun_248 : decode b_Mod_readRun 248 = .ok (.iload 4, 2) := by decide +kernel
theorem d_Mod_readRun_250 : decode b_Mod_readRun 250 = .ok (.iload_n 2, 1) := by decide +kernel
theorem d_Mod_readRun_251 : decode b_Mod_readRun 251 = .ok (.aload_n 0, 1) := by decide +kernel
theorem d_Mod_readRun_252 : decode b_Mod_readRun 252 = .ok (.aload_n 0, 1) := by decide +kernel
theorem d_Mod_readRun_253 : decode b_Mod_readRun 253 = .ok (.getfield 84, 3) := by decide +kernel
theorem d_Mod_readRun_256 : decode b_Mod_readRun 256 = .ok (.invokevirtual 195, 3) := by decide +kernel
theorem d_Mod_readRun_259 : decode b_Mod_readRun 259 = .ok (.invokevirtual 198, 3) := by decide +kernel
theorem d_Mod_readRun_262 : decode b_Mod_readRun 262 = .ok (.iload 4, 2) := by decide +kernel
theorem d_Mod_readRun_264 : decode b_Mod_readRun 264 = .ok (.iconst 1, 1) := by decide +kernel
theorem d_Mod_readRun_265 : decode b_Mod_readRun 265 = .ok (.iadd, 1) := by decide +kernel
theorem d_Mod_readRun_266 : decode b_Mod_readRun 266 = .ok (.ireturn, 1) := by decide +kernel
theorem d_Mod_rebuilt_0 : decode b_Mod_rebuilt 0 = .ok (.aload_n 0, 1) := by decide +kernel
theorem d_Mod_rebuilt_1 : decode b_Mod_rebuilt 1 = .ok (.iconst 0, 1) := by decide +kernel
theorem d_Mod_rebuilt_2 : decode b_Mod_rebuilt 2 = .ok (.putfield 47, 3) := by decide +kernel
theorem d_Mod_rebuilt_5 : decode b_Mod_rebuilt 5 = .ok (.aload_n 0, 1) := by decide +kernel
theorem d_Mod_rebuilt_6 : decode b_Mod_rebuilt 6 = .ok (.iload_n 1, 1) := by decide +kernel
theorem d_Mod_rebuilt_7 : decode b_Mod_rebuilt 7 = .ok (.iload_n 2, 1) := by decide +kernel
theorem d_Mod_rebuilt_8 : decode b_Mod_rebuilt 8 = .ok (.invokevirtual 223, 3) := by decide +kernel
theorem d_Mod_rebuilt_11 : decode b_Mod_rebuilt 11 = .ok (.ifCond .eq 17, 3) := by decide +kernel
theorem d_Mod_rebuilt_14 : decode b_Mod_rebuilt 14 = .ok (.aload_n 0, 1) := by decide +kernel
theorem d_Mod_rebuilt_15 : decode b_Mod_rebuilt 15 = .ok (.getfield 23, 3) := by decide +kernel
theorem d_Mod_rebuilt_18 : decode b_Mod_rebuilt 18 = .ok (.bipush 8, 2) := by decide +kernel
theorem d_Mod_rebuilt_20 : decode b_Mod_rebuilt 20 = .ok (.iload_n 2, 1) := by decide +kernel
theorem d_Mod_rebuilt_21 : decode b_Mod_rebuilt 21 = .ok (.imul, 1) := by decide +kernel
theorem d_Mod_rebuilt_22 : decode b_Mod_rebuilt 22 = .ok (.iload_n 1, 1) := by decide +kernel
theorem d_Mod_rebuilt_23 : decode b_Mod_rebuilt 23 = .ok (.iadd, 1) := by decide +kernel
theorem d_Mod_rebuilt_24 : decode b_Mod_rebuilt 24 = .ok (.iaload, 1) := by decide +kernel
theorem d_Mod_rebuilt_25 : decode b_Mod_rebuilt 25 = .ok (.goto 4, 3) := by decide +kernel
theorem d_Mod_rebuilt_28 : decode b_Mod_rebuilt 28 = .ok (.iconst (-1), 1) := by decide +kernel
theorem d_Mod_rebuilt_29 : decode b_Mod_rebuilt 29 = .ok (.ireturn, 1) := by decide +kernel
theorem d_Mod_reduced_0 : decode b_Mod_reduced 0 = .ok (.iload_n 1, 1) := by decide +kernel
theorem d_Mod_reduced_1 : decode b_Mod_reduced 1 = .ok (.ifCond .ge 12, 3) := by decide +kernel
theorem d_Mod_reduced_4 : decode b_Mod_reduced 4 = .ok (.iload_n 1, 1) := by decide +kernel
theorem d_Mod_reduced_5 : decode b_Mod_reduced 5 = .ok (.aload_n 0, 1) := by decide +kernel
theorem d_Mod_reduced_6 : decode b_Mod_reduced 6 = .ok (.getfield 56, 3) := by decide +kernel
theorem d_Mod_reduced_9 : decode b_Mod_reduced 9 = .ok (.iadd, 1) := by decide +kernel
theorem d_Mod_reduced_10 : decode b_Mod_reduced 10 = .ok (.goto 4, 3) := by decide +kernel
theorem d_Mod_reduced_13 : decode b_Mod_reduced 13 = .ok (.iload_n 1, 1) := by decide +kernel
theorem d_Mod_reduced_14 : decode b_Mod_reduced 14 = .ok (.istore_n 2, 1) := by decide +kernel
theorem d_Mod_reduced_15 : decode b_Mod_reduced 15 = .ok (.iload_n 2, 1) := by decide +kernel
theorem d_Mod_reduced_16 : decode b_Mod_reduced 16 = .ok (.aload_n 0, 1) := by decide +kernel
theorem d_Mod_reduced_17 : decode b_Mod_reduced 17 = .ok (.getfield 56, 3) := by decide +kernel
theorem d_Mod_reduced_20 : decode b_Mod_reduced 20 = .ok (.iconst 1, 1) := by decide +kernel
theorem d_Mod_reduced_21 : decode b_Mod_reduced 21 = .ok (.iadd, 1) := by decide +kernel
theorem d_Mod_reduced_22 : decode b_Mod_reduced 22 = .ok (.iconst 2, 1) := by decide +kernel
theorem d_Mod_reduced_23 : decode b_Mod_reduced 23 = .ok (.idiv, 1) := by decide +kernel
theorem d_Mod_reduced_24 : decode b_Mod_reduced 24 = .ok (.if_icmp .lt 12, 3) := by decide +kernel
theorem d_Mod_reduced_27 : decode b_Mod_reduced 27 = .ok (.iload_n 2, 1) := by decide +kernel
theorem d_Mod_reduced_28 : decode b_Mod_reduced 28 = .ok (.aload_n 0, 1) := by decide +kernel
theorem d_Mod_reduced_29 : decode b_Mod_reduced 29 = .ok (.getfield 56, 3) := by decide +kernel
theorem d_Mod_reduced_32 : decode b_Mod_reduced 32 = .ok (.isub, 1) := by decide +kernel
theorem d_Mod_reduced_33 : decode b_Mod_reduced 33 = .ok (.goto 4, 3) := by decide +kernel
theorem d_Mod_reduced_36 : decode b_Mod_reduced 36 = .ok (.iload_n 2, 1) := by decide +kernel
theorem d_Mod_reduced_37 : decode b_Mod_reduced 37 = .ok (.ireturn, 1) := by decide +kernel
theorem d_Mod_regular_0 : decode b_Mod_regular 0 = .ok (.aload_n 0, 1) := by decide +kernel
theorem d_Mod_regular_1 : decode b_Mod_regular 1 = .ok (.iload_n 1, 1) := by decide +kernel
theorem d_Mod_regular_2 : decode b_Mod_regular 2 = .ok (.iload_n 2, 1) := by decide +kernel
theorem d_Mod_regular_3 : decode b_Mod_regular 3 = .ok (.invokevirtual 140, 3) := by decide +kernel
theorem d_Mod_regular_6 : decode b_Mod_regular 6 = .ok (.istore_n 3, 1) := by decide +kernel
theorem d_Mod_regular_7 : decode b_Mod_regular 7 = .ok (.aload_n 0, 1) := by decide +kernel
theorem d_Mod_regular_8 : decode b_Mod_regular 8 = .ok (.iload_n 1, 1) := by decide +kernel
theorem d_Mod_regular_9 : decode b_Mod_regular 9 = .ok (.iload_n 2, 1) := by decide +kernel
theorem d_Mod_regular_10 : decode b_Mod_regular 10 = .ok (.invokevirtual 137, 3) := by decide +kernel
theorem d_Mod_regular_13 : decode b_Mod_regular 13 = .ok (.istore 4, 2) := by decide +kernel
theorem d_Mod_regular_15 : decode b_Mod_regular 15 = .ok (.aload_n 0, 1) := by decide +kernel
theorem d_Mod_regular_16 : decode b_Mod_regular 16 = .ok (.iload_n 1, 1) := by decide +kernel
theorem d_Mod_regular_17 : decode b_Mod_regular 17 = .ok (.iload_n 2, 1) := by decide +kernel
theorem d_Mod_regular_18 : decode b_Mod_regular 18 = .ok (.invokevirtual 152, 3) := by decide +kernel
theorem d_Mod_regular_21 : decode b_Mod_regular 21 = .ok (.istore 5, 2) := by decide +kernel
theorem d_Mod_regular_23 : decode b_Mod_regular 23 = .ok (.aload_n 0, 1) := by decide +kernel
theorem d_Mod_regular_24 : decode b_Mod_regular 24 = .ok (.iload_n 1, 1) := by decide +kernel
theorem d_Mod_regular_25 : decode b_Mod_regular 25 = .ok (.iload_n 2, 1) := by decide +kernel
theorem d_Mod_regular_26 : decode b_Mod_regular 26 = .ok (.invokevirtual 155, 3) := by decide +kernel
theorem d_Mod_regular_29 : decode b_Mod_regular 29 = .ok (.istore 6, 2) := by decide +kernel
theorem d_Mod_regular_31 : decode b_Mod_regular 31 = .ok (.bipush 81, 2) := by decide +kernel
theorem d_Mod_regular_33 : decode b_Mod_regular 33 = .ok (.aload_n 0, 1) := by decide +kernel
theorem d_Mod_regular_34 : decode b_Mod_regular 34 = .ok (.iload 6, 2) := by decide +kernel
theorem d_Mod_regular_36 : decode b_Mod_regular 36 = .ok (.iload 4, 2) := by decide +kernel
theorem d_Mod_regular_38 : decode b_Mod_regular 38 = .ok (.isub, 1) := by decide +kernel
theorem d_Mod_regular_39 : decode b_Mod_regular 39 = .ok (.invokevirtual 158, 3) := by decide +kernel
theorem d_Mod_regular_42 : decode b_Mod_regular 42 = .ok (.imul, 1) := by decide +kernel
theorem d_Mod_regular_43 : decode b_Mod_regular 43 = .ok (.bipush 9, 2) := by decide +kernel
theorem d_Mod_regular_45 : decode b_Mod_regular 45 = .ok (.aload_n 0, 1) := by decide +kernel
theorem d_Mod_regular_46 : decode b_Mod_regular 46 = .ok (.iload 4, 2) := by decide +kernel
theorem d_Mod_regular_48 : decode b_Mod_regular 48 = .ok (.iload 5, 2) := by decide +kernel
theorem d_Mod_regular_50 : decode b_Mod_regular 50 = .ok (.isub, 1) := by decide +kernel
theorem d_Mod_regular_51 : decode b_Mod_regular 51 = .ok (.invokevirtual 158, 3) := by decide +kernel
theorem d_Mod_regular_54 : decode b_Mod_regular 54 = .ok (.imul, 1) := by decide +kernel
theorem d_Mod_regular_55 : decode b_Mod_regular 55 = .ok (.iadd, 1) := by decide +kernel
theorem d_Mod_regular_56 : decode b_Mod_regular 56 = .ok (.aload_n 0, 1) := by decide +kernel
theorem d_Mod_regular_57 : decode b_Mod_regular 57 = .ok (.iload 5, 2) := by decide +kernel
theorem d_Mod_regular_59 : decode b_Mod_regular 59 = .ok (.iload_n 3, 1) := by decide +kernel
theorem d_Mod_regular_60 : decode b_Mod_regular 60 = .ok (.isub, 1) := by decide +kernel
theorem d_Mod_regular_61 : decode b_Mod_regular 61 = .ok (.invokevirtual 158, 3) := by decide +kernel
theorem d_Mod_regular_64 : decode b_Mod_regular 64 = .ok (.iadd, 1) := by decide +kernel
theorem d_Mod_regular_65 : decode b_Mod_regular 65 = .ok (.istore 7, 2) := by decide +kernel
theorem d_Mod_regular_67 : decode b_Mod_regular 67 = .ok (.iload 7, 2) := by decide +kernel
theorem d_Mod_regular_69 : decode b_Mod_regular 69 = .ok (.ifCond .ge 7, 3) := by decide +kernel
theorem d_Mod_regular_72 : decode b_Mod_regular 72 = .ok (.iconst (-1), 1) := by decide +kernel
theorem d_Mod_regular_73 : decode b_Mod_regular 73 = .ok (.goto 4, 3) := by decide +kernel
theorem d_Mod_regular_76 : decode b_Mod_regular 76 = .ok (.iconst 1, 1) := by decide +kernel
theorem d_Mod_regular_77 : decode b_Mod_regular 77 = .ok (.istore 8, 2) := by decide +kernel
theorem d_Mod_regular_79 : decode b_Mod_regular 79 = .ok (.iconst 5, 1) := by decide +kernel
theorem d_Mod_regular_80 : decode b_Mod_regular 80 = .ok (.iload 8, 2) := by decide +kernel
theorem d_Mod_regular_82 : decode b_Mod_regular 82 = .ok (.imul, 1) := by decide +kernel
theorem d_Mod_regular_83 : decode b_Mod_regular 83 = .ok (.iload 7, 2) := by decide +kernel
theorem d_Mod_regular_85 : decode b_Mod_regular 85 = .ok (.imul, 1) := by decide +kernel
theorem d_Mod_regular_86 : decode b_Mod_regular 86 = .ok (.istore 7, 2) := by decide +kernel
theorem d_Mod_regular_88 : decode b_Mod_regular 88 = .ok (.iload_n 3, 1) := by decide +kernel
theorem d_Mod_regular_89 : decode b_Mod_regular 89 = .ok (.iload 4, 2) := by decide +kernel
theorem d_Mod_regular_91 : decode b_Mod_regular 91 = .ok (.invokestatic 161, 3) := by decide +kernel
theorem d_Mod_regular_94 : decode b_Mod_regular 94 = .ok (.istore 9, 2) := by decide +kernel
theorem d_Mod_regular_96 : decode b_Mod_regular 96 = .ok (.iload_n 3, 1) := by decide +kernel
theorem d_Mod_regular_97 : decode b_Mod_regular 97 = .ok (.iload 4, 2) := by decide +kernel
theorem d_Mod_regular_99 : decode b_Mod_regular 99 = .ok (.invokestatic 66, 3) := by decide +kernel
theorem d_Mod_regular_102 : decode b_Mod_regular 102 = .ok (.istore 10, 2) := by decide +kernel
theorem d_Mod_regular_104 : decode b_Mod_regular 104 = .ok (.aload_n 0, 1) := by decide +kernel
theorem d_Mod_regular_105 : decode b_Mod_regular 105 = .ok (.iload 5, 2) := by decide +kernel
theorem d_Mod_regular_107 : decode b_Mod_regular 107 = .ok (.iload 10, 2) := by decide +kernel
theorem d_Mod_regular_109 : decode b_Mod_regular 109 = .ok (.if_icmp .lt 8, 3) := by decide +kernel
theorem d_Mod_regular_112 : decode b_Mod_regular 112 = .ok (.iload 9, 2) := by decide +kernel
theorem d_Mod_regular_114 : decode b_Mod_regular 114 = .ok (.goto 22, 3) := by decide +kernel
theorem d_Mod_regular_117 : decode b_Mod_regular 117 = .ok (.iload 5, 2) := by decide +kernel
theorem d_Mod_regular_119 : decode b_Mod_regular 119 = .ok (.iload 9, 2) := by decide +kernel
theorem d_Mod_regular_121 : decode b_Mod_regular 121 = .ok (.if_icmp .gt 8, 3) := by decide +kernel
theorem d_Mod_regular_124 : decode b_Mod_regular 124 = .ok (.iload 10, 2) := by decide +kernel
theorem d_Mod_regular_126 : decode b_Mod_regular 126 = .ok (.goto 10, 3) := by decide +kernel
theorem d_Mod_regular_129 : decode b_Mod_regular 129 = .ok (.iload_n 3, 1) := by decide +kernel
theorem d_Mod_regular_130 : decode b_Mod_regular 130 = .ok (.iload 4, 2) := by decide +kernel
theorem d_Mod_regular_132 : decode b_Mod_regular 132 = .ok (.iadd, 1) := by decide +kernel
theorem d_Mod_regular_133 : decode b_Mod_regular 133 = .ok (.iload 5, 2) := by decide +kernel
theorem d_Mod_regular_135 : decode b_Mod_regular 135 = .ok (.isub, 1) := by decide +kernel
theorem d_Mod_regular_136 : decode b_Mod_regular 136 = .ok (.iload 8, 2) := by decide +kernel
theorem d_Mod_regular_138 : decode b_Mod_regular 138 = .ok (.aload_n 0, 1) := by decide +kernel
theorem d_Mod_regular_139 : decode b_Mod_regular 139 = .ok (.getfield 26, 3) := by decide +kernel
theorem d_Mod_regular_142 : decode b_Mod_regular 142 = .ok (.iload 7, 2) := by decide +kernel
theorem d_Mod_regular_144 : decode b_Mod_regular 144 = .ok (.iconst 2, 1) := by decide +kernel
theorem d_Mod_regular_145 : decode b_Mod_regular 145 = .ok (.iadd, 1) := by decide +kernel
theorem d_Mod_regular_146 : decode b_Mod_regular 146 = .ok (.iaload, 1) := by decide +kernel
theorem d_Mod_regular_147 : decode b_Mod_regular 147 = .ok (.imul, 1) := by decide +kernel
theorem d_Mod_regular_148 : decode b_Mod_regular 148 = .ok (.iadd, 1) := by decide +kernel
theorem d_Mod_regular_149 : decode b_Mod_regular 149 = .ok (.invokevirtual 146, 3) := by decide +kernel
theorem d_Mod_regular_152 : decode b_Mod_regular 152 = .ok (.istore 11, 2) := by decide +kernel
theorem d_Mod_regular_154 : decode b_Mod_regular 154 = .ok (.aload_n 0, 1) := by decide +kernel
theorem d_Mod_regular_155 : decode b_Mod_regular 155 = .ok (.getfield 26, 3) := by decide +kernel
theorem d_Mod_regular_158 : decode b_Mod_regular 158 = .ok (.iload 7, 2) := by decide +kernel
theorem d_Mod_regular_160 : decode b_Mod_regular 160 = .ok (.iconst 3, 1) := by decide +kernel
theorem d_Mod_regular_161 : decode b_Mod_regular 161 = .ok (.iadd, 1) := by decide +kernel
theorem d_Mod_regular_162 : decode b_Mod_regular 162 = .ok (.iaload, 1) := by decide +kernel
theorem d_Mod_regular_163 : decode b_Mod_regular 163 = .ok (.aload_n 0, 1) := by decide +kernel
theorem d_Mod_regular_164 : decode b_Mod_regular 164 = .ok (.getfield 26, 3) := by decide +kernel
theorem d_Mod_regular_167 : decode b_Mod_regular 167 = .ok (.iload 7, 2) := by decide +kernel
theorem d_Mod_regular_169 : decode b_Mod_regular 169 = .ok (.iaload, 1) := by decide +kernel
theorem d_Mod_regular_170 : decode b_Mod_regular 170 = .ok (.invokestatic 164, 3) := by decide +kernel
theorem d_Mod_regular_173 : decode b_Mod_regular 173 = .ok (.istore 12, 2) := by decide +kernel
theorem d_Mod_regular_175 : decode b_Mod_regular 175 = .ok (.aload_n 0, 1) := by decide +kernel
theorem d_Mod_regular_176 : decode b_Mod_regular 176 = .ok (.getfield 50, 3) := by decide +kernel
theorem d_Mod_regular_179 : decode b_Mod_regular 179 = .ok (.ifCond .ne 36, 3) := by decide +kernel
theorem d_Mod_regular_182 : decode b_Mod_regular 182 = .ok (.iload 12, 2) := by decide +kernel
theorem d_Mod_regular_184 : decode b_Mod_regular 184 = .ok (.ifCond .ne 31, 3) := by decide +kernel
theorem d_Mod_regular_187 : decode b_Mod_regular 187 = .ok (.iconst 2, 1) := by decide +kernel
theorem d_Mod_regular_188 : decode b_Mod_regular 188 = .ok (.aload_n 0, 1) := by decide +kernel
theorem d_Mod_regular_189 : decode b_Mod_regular 189 = .ok (.getfield 26, 3) := by decide +kernel
theorem d_Mod_regular_192 : decode b_Mod_regular 192 = .ok (.iload 7, 2) := by decide +kernel
theorem d_Mod_regular_194 : decode b_Mod_regular 194 = .ok (.iconst 1, 1) := by decide +kernel
theorem d_Mod_regular_195 : decode b_Mod_regular 195 = .ok (.iadd, 1) := by decide +kernel
theorem d_Mod_regular_196 : decode b_Mod_regular 196 = .ok (.iaload, 1) := by decide +kernel
theorem d_Mod_regular_197 : decode b_Mod_regular 197 = .ok (.imul, 1) := by decide +kernel
theorem d_Mod_regular_198 : decode b_Mod_regular 198 = .ok (.aload_n 0, 1) := by decide +kernel
theorem d_Mod_regular_199 : decode b_Mod_regular 199 = .ok (.getfield 26, 3) := by decide +kernel
theorem d_Mod_regular_202 : decode b_Mod_regular 202 = .ok (.iload 7, 2) := by decide +kernel
theorem d_Mod_regular_204 : decode b_Mod_regular 204 = .ok (.iconst 3, 1) := by decide +kernel
theorem d_Mod_regular_205 : decode b_Mod_regular 205 = .ok (.iadd, 1) := by decide +kernel
theorem d_Mod_regular_206 : decode b_Mod_regular 206 = .ok (.iaload, 1) := by decide +kernel
theorem d_Mod_regular_207 : decode b_Mod_regular 207 = .ok (.ineg, 1) := by decide +kernel
theorem d_Mod_regular_208 : decode b_Mod_regular 208 = .ok (.if_icmp .gt 7, 3) := by decide +kernel
theorem d_Mod_regular_211 : decode b_Mod_regular 211 = .ok (.iconst 1, 1) := by decide +kernel
theorem d_Mod_regular_212 : decode b_Mod_regular 212 = .ok (.goto 4, 3) := by decide +kernel
theorem d_Mod_regular_215 : decode b_Mod_regular 215 = .ok (.iconst 0, 1) := by decide +kernel
theorem d_Mod_regular_216 : decode b_Mod_regular 216 = .ok (.istore 13, 2) := by decide +kernel
theorem d_Mod_regular_218 : decode b_Mod_regular 218 = .ok (.aload_n 0, 1) := by decide +kernel
theorem d_Mod_regular_219 : decode b_Mod_regular 219 = .ok (.getfield 167, 3) := by decide +kernel
theorem d_Mod_regular_222 : decode b_Mod_regular 222 = .ok (.ifCond .eq 70, 3) := by decide +kernel
theorem d_Mod_regular_225 : decode b_Mod_regular 225 = .ok (.aload_n 0, 1) := by decide +kernel
theorem d_Mod_regular_226 : decode b_Mod_regular 226 = .ok (.iload 12, 2) := by decide +kernel
theorem d_Mod_regular_228 : decode b_Mod_regular 228 = .ok (.aload_n 0, 1) := by decide +kernel
theorem d_Mod_regular_229 : decode b_Mod_regular 229 = .ok (.getfield 69, 3) := by decide +kernel
theorem d_Mod_regular_232 : decode b_Mod_regular 232 = .ok (.invokevirtual 170, 3) := by decide +kernel
theorem d_Mod_regular_235 : decode b_Mod_regular 235 = .ok (.istore 15, 2) := by decide +kernel
theorem d_Mod_regular_237 : decode b_Mod_regular 237 = .ok (.iload 15, 2) := by decide +kernel
theorem d_Mod_regular_239 : decode b_Mod_regular 239 = .ok (.iconst 2, 1) := by decide +kernel
theorem d_Mod_regular_240 : decode b_Mod_regular 240 = .ok (.irem, 1) := by decide +kernel
theorem d_Mod_regular_241 : decode b_Mod_regular 241 = .ok (.ifCond .ne 10, 3) := by decide +kernel
theorem d_Mod_regular_244 : decode b_Mod_regular 244 = .ok (.iload 15, 2) := by decide +kernel
theorem d_Mod_regular_246 : decode b_Mod_regular 246 = .ok (.iconst 2, 1) := by decide +kernel
theorem d_Mod_regular_247 : decode b_Mod_regular 247 = .ok (.idiv, 1) := by decide +kernel
theorem d_Mod_regular_248 : decode b_Mod_regular 248 = .ok (.goto 10, 3) := by decide +kernel
theorem d_Mod_regular_251 : decode b_Mod_regular 251 = .ok (.iload 15, 2) := by decide +kernel
theorem d_Mod_regular_253 : decode b_Mod_regular 253 = .ok (.iconst 1, 1) := by decide +kernel
theorem d_Mod_regular_254 : decode b_Mod_regular 254 = .ok (.iadd, 1) := by decide +kernel
theorem d_Mod_regular_255 : decode b_Mod_regular 255 = .ok (.ineg, 1) := by decide +kernel
theorem d_Mod_regular_256 : decode b_Mod_regular 256 = .ok (.iconst 2, 1) := by decide +kernel
theorem d_Mod_regular_257 : decode b_Mod_regular 257 = .ok (.idiv, 1) := by decide +kernel
theorem d_Mod_regular_258 : decode b_Mod_regular 258 = .ok (.istore 14, 2) := by decide +kernel
theorem d_Mod_regular_260 : decode b_Mod_regular 260 = .ok (.iload 13, 2) := by decide +kernel
theorem d_Mod_regular_262 : decode b_Mod_regular 262 = .ok (.ifCond .eq 11, 3) := by decide +kernel
theorem d_Mod_regular_265 : decode b_Mod_regular 265 = .ok (.iload 14, 2) := by decide +kernel
theorem d_Mod_regular_267 : decode b_Mod_regular 267 = .ok (.ineg, 1) := by decide +kernel
theorem d_Mod_regular_268 : decode b_Mod_regular 268 = .ok (.iconst 1, 1) := by decide +kernel
theorem d_Mod_regular_269 : decode b_Mod_regular 269 = .ok (.isub, 1) := by decide +kernel
theorem d_Mod_regular_270 : decode b_Mod_regular 270 = .ok (.goto 5, 3) := by decide +kernel
theorem d_Mod_regular_273 : decode b_Mod_regular 273 = .ok (.iload 14, 2) := by decide +kernel
theorem d_Mod_regular_275 : decode b_Mod_regular 275 = .ok (.istore 14, 2) := by decide +kernel
theorem d_Mod_regular_277 : decode b_Mod_regular 277 = .ok (.aload_n 0, 1) := by decide +kernel
theorem d_Mod_regular_278 : decode b_Mod_regular 278 = .ok (.iload_n 1, 1) := by decide +kernel
theorem d_Mod_regular_279 : decode b_Mod_regular 279 = .ok (.iload_n 2, 1) := by decide +kernel
theorem d_Mod_regular_280 : decode b_Mod_regular 280 = .ok (.iload 11, 2) := by decide +kernel
theorem d_Mod_regular_282 : decode b_Mod_regular 282 = .ok (.iload 8, 2) := by decide +kernel
theorem d_Mod_regular_284 : decode b_Mod_regular 284 = .ok (.iload 14, 2) := by decide +kernel
theorem d_Mod_regular_286 : decode b_Mod_regular 286 = .ok (.invokevirtual 173, 3) := by decide +kernel
theorem d_Mod_regular_289 : decode b_Mod_regular 289 = .ok (.goto 61, 3) := by decide +kernel
theorem d_Mod_regular_292 : decode b_Mod_regular 292 = .ok (.aload_n 0, 1) := by decide +kernel
theorem d_Mod_regular_293 : decode b_Mod_regular 293 = .ok (.iload_n 1, 1) := by decide +kernel
theorem d_Mod_regular_294 : decode b_Mod_regular 294 = .ok (.iload_n 2, 1) := by decide +kernel
theorem d_Mod_regular_295 : decode b_Mod_regular 295 = .ok (.iload 11, 2) := by decide +kernel
theorem d_Mod_regular_297 : decode b_Mod_regular 297 = .ok (.iload 8, 2) := by decide +kernel
theorem d_Mod_regular_299 : decode b_Mod_regular 299 = .ok (.invokevirtual 177, 3) := by decide +kernel
theorem d_Mod_regular_302 : decode b_Mod_regular 302 = .ok (.istore 14, 2) := by decide +kernel
theorem d_Mod_regular_304 : decode b_Mod_regular 304 = .ok (.iload 13, 2) := by decide +kernel
theorem d_Mod_regular_306 : decode b_Mod_regular 306 = .ok (.ifCond .eq 11, 3) := by decide +kernel
theorem d_Mod_regular_309 : decode b_Mod_regular 309 = .ok (.iload 14, 2) := by decide +kernel
theorem d_Mod_regular_311 : decode b_Mod_regular 311 = .ok (.ineg, 1) := by decide +kernel
theorem d_Mod_regular_312 : decode b_Mod_regular 312 = .ok (.iconst 1, 1) := by decide +kernel
theorem d_Mod_regular_313 : decode b_Mod_regular 313 = .ok (.isub, 1) := by decide +kernel
theorem d_Mod_regular_314 : decode b_Mod_regular 314 = .ok (.goto 5, 3) := by decide +kernel
theorem d_Mod_regular_317 : decode b_Mod_regular 317 = .ok (.iload 14, 2) := by decide +kernel
theorem d_Mod_regular_319 : decode b_Mod_regular 319 = .ok (.istore 15, 2) := by decide +kernel
theorem d_Mod_regular_321 : decode b_Mod_regular 321 = .ok (.aload_n 0, 1) := by decide +kernel
theorem d_Mod_regular_322 : decode b_Mod_regular 322 = .ok (.iload 15, 2) := by decide +kernel
theorem d_Mod_regular_324 : decode b_Mod_regular 324 = .ok (.ifCond .lt 10, 3) := by decide +kernel
theorem d_Mod_regular_327 : decode b_Mod_regular 327 = .ok (.iconst 2, 1) := by decide +kernel
theorem d_Mod_regular_328 : decode b_Mod_regular 328 = .ok (.iload 15, 2) := by decide +kernel
theorem d_Mod_regular_330 : decode b_Mod_regular 330 = .ok (.imul, 1) := by decide +kernel
theorem d_Mod_regular_331 : decode b_Mod_regular 331 = .ok (.goto 10, 3) := by decide +kernel
theorem d_Mod_regular_334 : decode b_Mod_regular 334 = .ok (.bipush (-2), 2) := by decide +kernel
theorem d_Mod_regular_336 : decode b_Mod_regular 336 = .ok (.iload 15, 2) := by decide +kernel
theorem d_Mod_regular_338 : decode b_Mod_regular 338 = .ok (.imul, 1) := by decide +kernel
theorem d_Mod_regular_339 : decode b_Mod_regular 339 = .ok (.iconst 1, 1) := by decide +kernel
theorem d_Mod_regular_340 : decode b_Mod_regular 340 = .ok (.isub, 1) := by decide +kernel
theorem d_Mod_regular_341 : decode b_Mod_regular 341 = .ok (.iload 12, 2) := by decide +kernel
theorem d_Mod_regular_343 : decode b_Mod_regular 343 = .ok (.aload_n 0, 1) := by decide +kernel
theorem d_Mod_regular_344 : decode b_Mod_regular 344 = .ok (.getfield 69, 3) := by decide +kernel
theorem d_Mod_regular_347 : decode b_Mod_regular 347 = .ok (.invokevirtual 181, 3) := by decide +kernel
theorem d_Mod_regular_350 : decode b_Mod_regular 350 = .ok (.aload_n 0, 1) := by decide +kernel
theorem d_Mod_regular_351 : decode b_Mod_regular 351 = .ok (.iload 7, 2) := by decide +kernel
theorem d_Mod_regular_353 : decode b_Mod_regular 353 = .ok (.iload 14, 2) := by decide +kernel
theorem d_Mod_regular_355 : decode b_Mod_regular 355 = .ok (.invokevirtual 185, 3) := by decide +kernel
theorem d_Mod_regular_358 : decode b_Mod_regular 358 = .ok (.return_, 1) := by decide +kernel
theorem d_Mod_row_0 : decode b_Mod_row 0 = .ok (.aload_n 0, 1) := by decide +kernel
theorem d_Mod_row_1 : decode b_Mod_row 1 = .ok (.iconst 0, 1) := by decide +kernel
theorem d_Mod_row_2 : decode b_Mod_row 2 = .ok (.putfield 47, 3) := by decide +kernel
theorem d_Mod_row_5 : decode b_Mod_row 5 = .ok (.iload_n 1, 1) := by decide +kernel
theorem d_Mod_row_6 : decode b_Mod_row 6 = .ok (.ifCond .lt 11, 3) := by decide +kernel
theorem d_Mod_row_9 : decode b_Mod_row 9 = .ok (.iload_n 1, 1) := by decide +kernel
theorem d_Mod_row_10 : decode b_Mod_row 10 = .ok (.aload_n 0, 1) := by decide +kernel
theorem d_Mod_row_11 : decode b_Mod_row 11 = .ok (.getfield 13, 3) := by decide +kernel
theorem d_Mod_row_14 : decode b_Mod_row 14 = .ok (.if_icmp .lt 5, 3) := by decide +kernel
theorem d_Mod_row_17 : decode b_Mod_row 17 = .ok (.iconst 0, 1) := by decide +kernel
theorem d_Mod_row_18 : decode b_Mod_row 18 = .ok (.ireturn, 1) := by decide +kernel
theorem d_Mod_row_19 : decode b_Mod_row 19 = .ok (.iconst 0, 1) := by decide +kernel
theorem d_Mod_row_20 : decode b_Mod_row 20 = .ok (.istore 4, 2) := by decide +kernel
theorem d_Mod_row_22 : decode b_Mod_row 22 = .ok (.iload 4, 2) := by decide +kernel
theorem d_Mod_row_24 : decode b_Mod_row 24 = .ok (.aload_n 0, 1) := by decide +kernel
theorem d_Mod_row_25 : decode b_Mod_row 25 = .ok (.getfield 7, 3) := by decide +kernel
theorem d_Mod_row_28 : decode b_Mod_row 28 = .ok (.if_icmp .ge 34, 3) := by decide +kernel
theorem d_Mod_row_31 : decode b_Mod_row 31 = .ok (.lload_n 2, 1) := by decide +kernel
theorem d_Mod_row_32 : decode b_Mod_row 32 = .ok (.bipush 56, 2) := by decide +kernel
theorem d_Mod_row_34 : decode b_Mod_row 34 = .ok (.bipush 8, 2) := by decide +kernel
theorem d_Mod_row_36 : decode b_Mod_row 36 = .ok (.iload 4, 2) := by decide +kernel
theorem d_Mod_row_38 : decode b_Mod_row 38 = .ok (.imul, 1) := by decide +kernel
theorem d_Mod_row_39 : decode b_Mod_row 39 = .ok (.isub, 1) := by decide +kernel
theorem d_Mod_row_40 : decode b_Mod_row 40 = .ok (.lshr, 1) := by decide +kernel
theorem d_Mod_row_41 : decode b_Mod_row 41 = .ok (.ldc2_w 94, 3) := by decide +kernel
theorem d_Mod_row_44 : decode b_Mod_row 44 = .ok (.land, 1) := by decide +kernel
theorem d_Mod_row_45 : decode b_Mod_row 45 = .ok (.aload_n 0, 1) := by decide +kernel
theorem d_Mod_row_46 : decode b_Mod_row 46 = .ok (.getfield 16, 3) := by decide +kernel
theorem d_Mod_row_49 : decode b_Mod_row 49 = .ok (.i2l, 1) := by decide +kernel
theorem d_Mod_row_50 : decode b_Mod_row 50 = .ok (.lcmp, 1) := by decide +kernel
theorem d_Mod_row_51 : decode b_Mod_row 51 = .ok (.ifCond .le 5, 3) := by decide +kernel
theorem d_Mod_row_54 : decode b_Mod_row 54 = .ok (.iconst 0, 1) := by decide +kernel
theorem d_Mod_row_55 : decode b_Mod_row 55 = .ok (.ireturn, 1) := by decide +kernel
theorem d_Mod_row_56 : decode b_Mod_row 56 = .ok (.iinc 4 1, 3) := by decide +kernel
theorem d_Mod_row_59 : decode b_Mod_row 59 = .ok (.goto (-37), 3) := by decide +kernel
theorem d_Mod_row_62 : decode b_Mod_row 62 = .ok (.iconst 0, 1) := by decide +kernel
theorem d_Mod_row_63 : decode b_Mod_row 63 = .ok (.istore 4, 2) := by decide +kernel
theorem d_Mod_row_65 : decode b_Mod_row 65 = .ok (.iload 4, 2) := by decide +kernel
theorem d_Mod_row_67 : decode b_Mod_row 67 = .ok (.aload_n 0, 1) := by decide +kernel
theorem d_Mod_row_68 : decode b_Mod_row 68 = .ok (.getfield 7, 3) := by decide +kernel
theorem d_Mod_row_71 : decode b_Mod_row 71 = .ok (.if_icmp .ge 36, 3) := by decide +kernel
theorem d_Mod_row_74 : decode b_Mod_row 74 = .ok (.aload_n 0, 1) := by decide +kernel
theorem d_Mod_row_75 : decode b_Mod_row 75 = .ok (.getfield 19, 3) := by decide +kernel
theorem d_Mod_row_78 : decode b_Mod_row 78 = .ok (.bipush 8, 2) := by decide +kernel
theorem d_Mod_row_80 : decode b_Mod_row 80 = .ok (.iload_n 1, 1) := by decide +kernel
theorem d_Mod_row_81 : decode b_Mod_row 81 = .ok (.imul, 1) := by decide +kernel
theorem d_Mod_row_82 : decode b_Mod_row 82 = .ok (.iload 4, 2) := by decide +kernel
theorem d_Mod_row_84 : decode b_Mod_row 84 = .ok (.iadd, 1) := by decide +kernel
theorem d_Mod_row_85 : decode b_Mod_row 85 = .ok (.lload_n 2, 1) := by decide +kernel
theorem d_Mod_row_86 : decode b_Mod_row 86 = .ok (.bipush 56, 2) := by decide +kernel
theorem d_Mod_row_88 : decode b_Mod_row 88 = .ok (.bipush 8, 2) := by decide +kernel
theorem d_Mod_row_90 : decode b_Mod_row 90 = .ok (.iload 4, 2) := by decide +kernel
theorem d_Mod_row_92 : decode b_Mod_row 92 = .ok (.imul, 1) := by decide +kernel
theorem d_Mod_row_93 : decode b_Mod_row 93 = .ok (.isub, 1) := by decide +kernel
theorem d_Mod_row_94 : decode b_Mod_row 94 = .ok (.lshr, 1) := by decide +kernel
theorem d_Mod_row_95 : decode b_Mod_row 95 = .ok (.ldc2_w 94, 3) := by decide +kernel
theorem d_Mod_row_98 : decode b_Mod_row 98 = .ok (.land, 1) := by decide +kernel
theorem d_Mod_row_99 : decode b_Mod_row 99 = .ok (.l2i, 1) := by decide +kernel
theorem d_Mod_row_100 : decode b_Mod_row 100 = .ok (.iastore, 1) := by decide +kernel
theorem d_Mod_row_101 : decode b_Mod_row 101 = .ok (.iinc 4 1, 3) := by decide +kernel
theorem d_Mod_row_104 : decode b_Mod_row 104 = .ok (.goto (-39), 3) := by decide +kernel
theorem d_Mod_row_107 : decode b_Mod_row 107 = .ok (.iconst 1, 1) := by decide +kernel
theorem d_Mod_row_108 : decode b_Mod_row 108 = .ok (.ireturn, 1) := by decide +kernel
theorem d_Mod_runIndex_0 : decode b_Mod_runIndex 0 = .ok (.aload_n 0, 1) := by decide +kernel
theorem d_Mod_runIndex_1 : decode b_Mod_runIndex 1 = .ok (.iconst 0, 1) := by decide +kernel
theorem d_Mod_runIndex_2 : decode b_Mod_runIndex 2 = .ok (.putfield 47, 3) := by decide +kernel
theorem d_Mod_runIndex_5 : decode b_Mod_runIndex 5 = .ok (.aload_n 0, 1) := by decide +kernel
theorem d_Mod_runIndex_6 : decode b_Mod_runIndex 6 = .ok (.getfield 84, 3) := by decide +kernel
theorem d_Mod_runIndex_9 : decode b_Mod_runIndex 9 = .ok (.ireturn, 1) := by decide +kernel
theorem d_Mod_sample_0 : decode b_Mod_sample 0 = .ok (.aload_n 0, 1) := by decide +kernel
theorem d_Mod_sample_1 : decode b_Mod_sample 1 = .ok (.iconst 0, 1) := by decide +kernel
theorem d_Mod_sample_2 : decode b_Mod_sample 2 = .ok (.putfield 47, 3) := by decide +kernel
theorem d_Mod_sample_5 : decode b_Mod_sample 5 = .ok (.aload_n 0, 1) := by decide +kernel
theorem d_Mod_sample_6 : decode b_Mod_sample 6 = .ok (.iload_n 1, 1) := by decide +kernel
theorem d_Mod_sample_7 : decode b_Mod_sample 7 = .ok (.iload_n 2, 1) := by decide +kernel
theorem d_Mod_sample_8 : decode b_Mod_sample 8 = .ok (.invokevirtual 223, 3) := by decide +kernel
theorem d_Mod_sample_11 : decode b_Mod_sample 11 = .ok (.ifCond .eq 17, 3) := by decide +kernel
theorem d_Mod_sample_14 : decode b_Mod_sample 14 = .ok (.aload_n 0, 1) := by decide +kernel
theorem d_Mod_sample_15 : decode b_Mod_sample 15 = .ok (.getfield 19, 3) := by decide +kernel
theorem d_Mod_sample_18 : decode b_Mod_sample 18 = .ok (.bipush 8, 2) := by decide +kernel
theorem d_Mod_sample_20 : decode b_Mod_sample 20 = .ok (.iload_n 2, 1) := by decide +kernel
theorem d_Mod_sample_21 : decode b_Mod_sample 21 = .ok (.imul, 1) := by decide +kernel
theorem d_Mod_sample_22 : decode b_Mod_sample 22 = .ok (.iload_n 1, 1) := by decide +kernel
theorem d_Mod_sample_23 : decode b_Mod_sample 23 = .ok (.iadd, 1) := by decide +kernel
theorem d_Mod_sample_24 : decode b_Mod_sample 24 = .ok (.iaload, 1) := by decide +kernel
theorem d_Mod_sample_25 : decode b_Mod_sample 25 = .ok (.goto 4, 3) := by decide +kernel
theorem d_Mod_sample_28 : decode b_Mod_sample 28 = .ok (.iconst (-1), 1) := by decide +kernel
theorem d_Mod_sample_29 : decode b_Mod_sample 29 = .ok (.ireturn, 1) := by decide +kernel
theorem d_Mod_say_0 : decode b_Mod_say 0 = .ok (.aload_n 0, 1) := by decide +kernel
theorem d_Mod_say_1 : decode b_Mod_say 1 = .ok (.getfield 29, 3) := by decide +kernel
theorem d_Mod_say_4 : decode b_Mod_say 4 = .ok (.aload_n 0, 1) := by decide +kernel
theorem d_Mod_say_5 : decode b_Mod_say 5 = .ok (.getfield 91, 3) := by decide +kernel
theorem d_Mod_say_8 : decode b_Mod_say 8 = .ok (.iload_n 1, 1) := by decide +kernel
theorem d_Mod_say_9 : decode b_Mod_say 9 = .ok (.iastore, 1) := by decide +kernel
theorem d_Mod_say_10 : decode b_Mod_say 10 = .ok (.aload_n 0, 1) := by decide +kernel
theorem d_Mod_say_11 : decode b_Mod_say 11 = .ok (.dup, 1) := by decide +kernel
theorem d_Mod_say_12 : decode b_Mod_say 12 = .ok (.getfield 91, 3) := by decide +kernel
theorem d_Mod_say_15 : decode b_Mod_say 15 = .ok (.iconst 1, 1) := by decide +kernel
theorem d_Mod_say_16 : decode b_Mod_say 16 = .ok (.iadd, 1) := by decide +kernel
theorem d_Mod_say_17 : decode b_Mod_say 17 = .ok (.putfield 91, 3) := by decide +kernel
theorem d_Mod_say_20 : decode b_Mod_say 20 = .ok (.return_, 1) := by decide +kernel
theorem d_Mod_settle_0 : decode b_Mod_settle 0 = .ok (.iload 5, 2) := by decide +kernel
theorem d_Mod_settle_2 : decode b_Mod_settle 2 = .ok (.aload_n 0, 1) := by decide +kernel
theorem d_Mod_settle_3 : decode b_Mod_settle 3 = .ok (.getfield 56, 3) := by decide +kernel
theorem d_Mod_settle_6 : decode b_Mod_settle 6 = .ok (.iconst 2, 1) := by decide +kernel
theorem d_Mod_settle_7 : decode b_Mod_settle 7 = .ok (.idiv, 1) := by decide +kernel
theorem d_Mod_settle_8 : decode b_Mod_settle 8 = .ok (.ineg, 1) := by decide +kernel
theorem d_Mod_settle_9 : decode b_Mod_settle 9 = .ok (.if_icmp .lt 16, 3) := by decide +kernel
theorem d_Mod_settle_12 : decode b_Mod_settle 12 = .ok (.iload 5, 2) := by decide +kernel
theorem d_Mod_settle_14 : decode b_Mod_settle 14 = .ok (.aload_n 0, 1) := by decide +kernel
theorem d_Mod_settle_15 : decode b_Mod_settle 15 = .ok (.getfield 56, 3) := by decide +kernel
theorem d_Mod_settle_18 : decode b_Mod_settle 18 = .ok (.iconst 1, 1) := by decide +kernel
theorem d_Mod_settle_19 : decode b_Mod_settle 19 = .ok (.iadd, 1) := by decide +kernel
theorem d_Mod_settle_20 : decode b_Mod_settle 20 = .ok (.iconst 2, 1) := by decide +kernel
theorem d_Mod_settle_21 : decode b_Mod_settle 21 = .ok (.idiv, 1) := by decide +kernel
theorem d_Mod_settle_22 : decode b_Mod_settle 22 = .ok (.if_icmp .lt 8, 3) := by decide +kernel
theorem d_Mod_settle_25 : decode b_Mod_settle 25 = .ok (.aload_n 0, 1) := by decide +kernel
theorem d_Mod_settle_26 : decode b_Mod_settle 26 = .ok (.iconst 0, 1) := by decide +kernel
theorem d_Mod_settle_27 : decode b_Mod_settle 27 = .ok (.putfield 118, 3) := by decide +kernel
theorem d_Mod_settle_30 : decode b_Mod_settle 30 = .ok (.iload_n 3, 1) := by decide +kernel
theorem d_Mod_settle_31 : decode b_Mod_settle 31 = .ok (.iload 4, 2) := by decide +kernel
theorem d_Mod_settle_33 : decode b_Mod_settle 33 = .ok (.iload 5, 2) := by decide +kernel
theorem d_Mod_settle_35 : decode b_Mod_settle 35 = .ok (.imul, 1) := by decide +kernel
theorem d_Mod_settle_36 : decode b_Mod_settle 36 = .ok (.aload_n 0, 1) := by decide +kernel
theorem d_Mod_settle_37 : decode b_Mod_settle 37 = .ok (.getfield 53, 3) := by decide +kernel
theorem d_Mod_settle_40 : decode b_Mod_settle 40 = .ok (.imul, 1) := by decide +kernel
theorem d_Mod_settle_41 : decode b_Mod_settle 41 = .ok (.iadd, 1) := by decide +kernel
theorem d_Mod_settle_42 : decode b_Mod_settle 42 = .ok (.istore 6, 2) := by decide +kernel
theorem d_Mod_settle_44 : decode b_Mod_settle 44 = .ok (.iload 6, 2) := by decide +kernel
theorem d_Mod_settle_46 : decode b_Mod_settle 46 = .ok (.aload_n 0, 1) := by decide +kernel
theorem d_Mod_settle_47 : decode b_Mod_settle 47 = .ok (.getfield 50, 3) := by decide +kernel
theorem d_Mod_settle_50 : decode b_Mod_settle 50 = .ok (.ineg, 1) := by decide +kernel
theorem d_Mod_settle_51 : decode b_Mod_settle 51 = .ok (.if_icmp .ge 18, 3) := by decide +kernel
theorem d_Mod_settle_54 : decode b_Mod_settle 54 = .ok (.iload 6, 2) := by decide +kernel
theorem d_Mod_settle_56 : decode b_Mod_settle 56 = .ok (.aload_n 0, 1) := by decide +kernel
theorem d_Mod_settle_57 : decode b_Mod_settle 57 = .ok (.getfield 56, 3) := by decide +kernel
theorem d_Mod_settle_60 : decode b_Mod_settle 60 = .ok (.aload_n 0, 1) := by decide +kernel
theorem d_Mod_settle_61 : decode b_Mod_settle 61 = .ok (.getfield 53, 3) := by decide +kernel
theorem d_Mod_settle_64 : decode b_Mod_settle 64 = .ok (.imul, 1) := by decide +kernel
theorem d_Mod_settle_65 : decode b_Mod_settle 65 = .ok (.iadd, 1) := by decide +kernel
theorem d_Mod_settle_66 : decode b_Mod_settle 66 = .ok (.goto 34, 3) := by decide +kernel
theorem d_Mod_settle_69 : decode b_Mod_settle 69 = .ok (.iload 6, 2) := by decide +kernel
theorem d_Mod_settle_71 : decode b_Mod_settle 71 = .ok (.aload_n 0, 1) := by decide +kernel
theorem d_Mod_settle_72 : decode b_Mod_settle 72 = .ok (.getfield 16, 3) := by decide +kernel
theorem d_Mod_settle_75 : decode b_Mod_settle 75 = .ok (.aload_n 0, 1) := by decide +kernel
theorem d_Mod_settle_76 : decode b_Mod_settle 76 = .ok (.getfield 50, 3) := by decide +kernel
theorem d_Mod_settle_79 : decode b_Mod_settle 79 = .ok (.iadd, 1) := by decide +kernel
theorem d_Mod_settle_80 : decode b_Mod_settle 80 = .ok (.if_icmp .le 18, 3) := by decide +kernel
theorem d_Mod_settle_83 : decode b_Mod_settle 83 = .ok (.iload 6, 2) := by decide +kernel
theorem d_Mod_settle_85 : decode b_Mod_settle 85 = .ok (.aload_n 0, 1) := by decide +kernel
theorem d_Mod_settle_86 : decode b_Mod_settle 86 = .ok (.getfield 56, 3) := by decide +kernel
theorem d_Mod_settle_89 : decode b_Mod_settle 89 = .ok (.aload_n 0, 1) := by decide +kernel
theorem d_Mod_settle_90 : decode b_Mod_settle 90 = .ok (.getfield 53, 3) := by decide +kernel
theorem d_Mod_settle_93 : decode b_Mod_settle 93 = .ok (.imul, 1) := by decide +kernel
theorem d_Mod_settle_94 : decode b_Mod_settle 94 = .ok (.isub, 1) := by decide +kernel
theorem d_Mod_settle_95 : decode b_Mod_settle 95 = .ok (.goto 5, 3) := by decide +kernel
theorem d_Mod_settle_98 : decode b_Mod_settle 98 = .ok (.iload 6, 2) := by decide +kernel
theorem d_Mod_settle_100 : decode b_Mod_settle 100 = .ok (.istore 6, 2) := by decide +kernel
theorem d_Mod_settle_102 : decode b_Mod_settle 102 = .ok (.aload_n 0, 1) := by decide +kernel
theorem d_Mod_settle_103 : decode b_Mod_settle 103 = .ok (.getfield 23, 3) := by decide +kernel
theorem d_Mod_settle_106 : decode b_Mod_settle 106 = .ok (.bipush 8, 2) := by decide +kernel
theorem d_Mod_settle_108 : decode b_Mod_settle 108 = .ok (.iload_n 2, 1) := by decide +kernel
theorem d_Mod_settle_109 : decode b_Mod_settle 109 = .ok (.imul, 1) := by decide +kernel
theorem d_Mod_settle_110 : decode b_Mod_settle 110 = .ok (.iload_n 1, 1) := by decide +kernel
theorem d_Mod_settle_111 : decode b_Mod_settle 111 = .ok (.iadd, 1) := by decide +kernel
theorem d_Mod_settle_112 : decode b_Mod_settle 112 = .ok (.aload_n 0, 1) := by decide +kernel
theorem d_Mod_settle_113 : decode b_Mod_settle 113 = .ok (.iload 6, 2) := by decide +kernel
theorem d_Mod_settle_115 : decode b_Mod_settle 115 = .ok (.invokevirtual 146, 3) := by decide +kernel
theorem d_Mod_settle_118 : decode b_Mod_settle 118 = .ok (.iastore, 1) := by decide +kernel
theorem d_Mod_settle_119 : decode b_Mod_settle 119 = .ok (.aload_n 0, 1) := by decide +kernel
theorem d_Mod_settle_120 : decode b_Mod_settle 120 = .ok (.getfield 19, 3) := by decide +kernel
theorem d_Mod_settle_123 : decode b_Mod_settle 123 = .ok (.bipush 8, 2) := by decide +kernel
theorem d_Mod_settle_125 : decode b_Mod_settle 125 = .ok (.iload_n 2, 1) := by decide +kernel
theorem d_Mod_settle_126 : decode b_Mod_settle 126 = .ok (.imul, 1) := by decide +kernel
theorem d_Mod_settle_127 : decode b_Mod_settle 127 = .ok (.iload_n 1, 1) := by decide +kernel
theorem d_Mod_settle_128 : decode b_Mod_settle 128 = .ok (.iadd, 1) := by decide +kernel
theorem d_Mod_settle_129 : decode b_Mod_settle 129 = .ok (.aload_n 0, 1) := by decide +kernel
theorem d_Mod_settle_130 : decode b_Mod_settle 130 = .ok (.iload 6, 2) := by decide +kernel
theorem d_Mod_settle_132 : decode b_Mod_settle 132 = .ok (.invokevirtual 146, 3) := by decide +kernel
theorem d_Mod_settle_135 : decode b_Mod_settle 135 = .ok (.iastore, 1) := by decide +kernel
theorem d_Mod_settle_136 : decode b_Mod_settle 136 = .ok (.return_, 1) := by decide +kernel
theorem d_Mod_size_0 : decode b_Mod_size 0 = .ok (.aload_n 0, 1) := by decide +kernel
theorem d_Mod_size_1 : decode b_Mod_size 1 = .ok (.iconst 0, 1) := by decide +kernel
theorem d_Mod_size_2 : decode b_Mod_size 2 = .ok (.putfield 47, 3) := by decide +kernel
theorem d_Mod_size_5 : decode b_Mod_size 5 = .ok (.aload_n 0, 1) := by decide +kernel
theorem d_Mod_size_6 : decode b_Mod_size 6 = .ok (.getfield 91, 3) := by decide +kernel
theorem d_Mod_size_9 : decode b_Mod_size 9 = .ok (.ireturn, 1) := by decide +kernel
theorem d_Mod_thrown_0 : decode b_Mod_thrown 0 = .ok (.aload_n 0, 1) := by decide +kernel
theorem d_Mod_thrown_1 : decode b_Mod_thrown 1 = .ok (.getfield 47, 3) := by decide +kernel
theorem d_Mod_thrown_4 : decode b_Mod_thrown 4 = .ok (.ireturn, 1) := by decide +kernel
theorem d_Mod_value_0 : decode b_Mod_value 0 = .ok (.iload_n 2, 1) := by decide +kernel
theorem d_Mod_value_1 : decode b_Mod_value 1 = .ok (.ifCond .ge 7, 3) := by decide +kernel
theorem d_Mod_value_4 : decode b_Mod_value 4 = .ok (.iconst 0, 1) := by decide +kernel
theorem d_Mod_value_5 : decode b_Mod_value 5 = .ok (.goto 14, 3) := by decide +kernel
theorem d_Mod_value_8 : decode b_Mod_value 8 = .ok (.aload_n 0, 1) := by decide +kernel
theorem d_Mod_value_9 : decode b_Mod_value 9 = .ok (.getfield 23, 3) := by decide +kernel
theorem d_Mod_value_12 : decode b_Mod_value 12 = .ok (.bipush 8, 2) := by decide +kernel
theorem d_Mod_value_14 : decode b_Mod_value 14 = .ok (.iload_n 2, 1) := by decide +kernel
theorem d_Mod_value_15 : decode b_Mod_value 15 = .ok (.imul, 1) := by decide +kernel
theorem d_Mod_value_16 : decode b_Mod_value 16 = .ok (.iload_n 1, 1) := by decide +kernel
theorem d_Mod_value_17 : decode b_Mod_value 17 = .ok (.iadd, 1) := by decide +kernel
theorem d_Mod_value_18 : decode b_Mod_value 18 = .ok (.iaload, 1) := by decide +kernel
theorem d_Mod_value_19 : decode b_Mod_value 19 = .ok (.ireturn, 1) := by decide +kernel
theorem d_Mod_walk_0 : decode b_Mod_walk 0 = .ok (.iconst 0, 1) := by decide +kernel
theorem d_Mod_walk_1 : decode b_Mod_walk 1 = .ok (.istore_n 1, 1) := by decide +kernel
theorem d_Mod_walk_2 : decode b_Mod_walk 2 = .ok (.iload_n 1, 1) := by decide +kernel
theorem d_Mod_walk_3 : decode b_Mod_walk 3 = .ok (.aload_n 0, 1) := by decide +kernel
theorem d_Mod_walk_4 : decode b_Mod_walk 4 = .ok (.getfield 13, 3) := by decide +kernel
theorem d_Mod_walk_7 : decode b_Mod_walk 7 = .ok (.if_icmp .ge 140, 3) := by decide +kernel
theorem d_Mod_walk_10 : decode b_Mod_walk 10 = .ok (.aload_n 0, 1) := by decide +kernel
theorem d_Mod_walk_11 : decode b_Mod_walk 11 = .ok (.getfield 118, 3) := by decide +kernel
theorem d_Mod_walk_14 : decode b_Mod_walk 14 = .ok (.ifCond .eq 133, 3) := by decide +kernel
theorem d_Mod_walk_17 : decode b_Mod_walk 17 = .ok (.iconst 0, 1) := by decide +kernel
theorem d_Mod_walk_18 : decode b_Mod_walk 18 = .ok (.istore_n 2, 1) := by decide +kernel
theorem d_Mod_walk_19 : decode b_Mod_walk 19 = .ok (.iload_n 2, 1) := by decide +kernel
theorem d_Mod_walk_20 : decode b_Mod_walk 20 = .ok (.aload_n 0, 1) := by decide +kernel
theorem d_Mod_walk_21 : decode b_Mod_walk 21 = .ok (.getfield 7, 3) := by decide +kernel
theorem d_Mod_walk_24 : decode b_Mod_walk 24 = .ok (.if_icmp .ge 117, 3) := by decide +kernel
theorem d_Mod_walk_27 : decode b_Mod_walk 27 = .ok (.aload_n 0, 1) := by decide +kernel
theorem d_Mod_walk_28 : decode b_Mod_walk 28 = .ok (.getfield 118, 3) := by decide +kernel
theorem d_Mod_walk_31 : decode b_Mod_walk 31 = .ok (.ifCond .eq 110, 3) := by decide +kernel
theorem d_Mod_walk_34 : decode b_Mod_walk 34 = .ok (.aload_n 0, 1) := by decide +kernel
theorem d_Mod_walk_35 : decode b_Mod_walk 35 = .ok (.iload_n 2, 1) := by decide +kernel
theorem d_Mod_walk_36 : decode b_Mod_walk 36 = .ok (.iload_n 1, 1) := by decide +kernel
theorem d_Mod_walk_37 : decode b_Mod_walk 37 = .ok (.invokevirtual 137, 3) := by decide +kernel
theorem d_Mod_walk_40 : decode b_Mod_walk 40 = .ok (.istore_n 3, 1) := by decide +kernel
theorem d_Mod_walk_41 : decode b_Mod_walk 41 = .ok (.aload_n 0, 1) := by decide +kernel
theorem d_Mod_walk_42 : decode b_Mod_walk 42 = .ok (.iload_n 2, 1) := by decide +kernel
theorem d_Mod_walk_43 : decode b_Mod_walk 43 = .ok (.iload_n 1, 1) := by decide +kernel
theorem d_Mod_walk_44 : decode b_Mod_walk 44 = .ok (.invokevirtual 152, 3) := by decide +kernel
theorem d_Mod_walk_47 : decode b_Mod_walk 47 = .ok (.istore 4, 2) := by decide +kernel
theorem d_Mod_walk_49 : decode b_Mod_walk 49 = .ok (.aload_n 0, 1) := by decide +kernel
theorem d_Mod_walk_50 : decode b_Mod_walk 50 = .ok (.iload_n 3, 1) := by decide +kernel
theorem d_Mod_walk_51 : decode b_Mod_walk 51 = .ok (.aload_n 0, 1) := by decide +kernel
theorem d_Mod_walk_52 : decode b_Mod_walk 52 = .ok (.iload_n 2, 1) := by decide +kernel
theorem d_Mod_walk_53 : decode b_Mod_walk 53 = .ok (.iload_n 1, 1) := by decide +kernel
theorem d_Mod_walk_54 : decode b_Mod_walk 54 = .ok (.invokevirtual 155, 3) := by decide +kernel
theorem d_Mod_walk_57 : decode b_Mod_walk 57 = .ok (.isub, 1) := by decide +kernel
theorem d_Mod_walk_58 : decode b_Mod_walk 58 = .ok (.invokevirtual 191, 3) := by decide +kernel
theorem d_Mod_walk_61 : decode b_Mod_walk 61 = .ok (.ifCond .eq 34, 3) := by decide +kernel
theorem d_Mod_walk_64 : decode b_Mod_walk 64 = .ok (.aload_n 0, 1) := by decide +kernel
theorem d_Mod_walk_65 : decode b_Mod_walk 65 = .ok (.iload 4, 2) := by decide +kernel
theorem d_Mod_walk_67 : decode b_Mod_walk 67 = .ok (.iload_n 3, 1) := by decide +kernel
theorem d_Mod_walk_68 : decode b_Mod_walk 68 = .ok (.isub, 1) := by decide +kernel
theorem d_Mod_walk_69 : decode b_Mod_walk 69 = .ok (.invokevirtual 191, 3) := by decide +kernel
theorem d_Mod_walk_72 : decode b_Mod_walk 72 = .ok (.ifCond .eq 23, 3) := by decide +kernel
theorem d_Mod_walk_75 : decode b_Mod_walk 75 = .ok (.aload_n 0, 1) := by decide +kernel
theorem d_Mod_walk_76 : decode b_Mod_walk 76 = .ok (.aload_n 0, 1) := by decide +kernel
theorem d_Mod_walk_77 : decode b_Mod_walk 77 = .ok (.iload_n 2, 1) := by decide +kernel
theorem d_Mod_walk_78 : decode b_Mod_walk 78 = .ok (.iload_n 1, 1) := by decide +kernel
theorem d_Mod_walk_79 : decode b_Mod_walk 79 = .ok (.invokevirtual 140, 3) := by decide +kernel
theorem d_Mod_walk_82 : decode b_Mod_walk 82 = .ok (.iload 4, 2) := by decide +kernel
theorem d_Mod_walk_84 : decode b_Mod_walk 84 = .ok (.isub, 1) := by decide +kernel
theorem d_Mod_walk_85 : decode b_Mod_walk 85 = .ok (.invokevirtual 191, 3) := by decide +kernel
theorem d_Mod_walk_88 : decode b_Mod_walk 88 = .ok (.ifCond .eq 7, 3) := by decide +kernel
theorem d_Mod_walk_91 : decode b_Mod_walk 91 = .ok (.iconst 1, 1) := by decide +kernel
theorem d_Mod_walk_92 : decode b_Mod_walk 92 = .ok (.goto 4, 3) := by decide +kernel
theorem d_Mod_walk_95 : decode b_Mod_walk 95 = .ok (.iconst 0, 1) := by decide +kernel
theorem d_Mod_walk_96 : decode b_Mod_walk 96 = .ok (.istore 5, 2) := by decide +kernel
theorem d_Mod_walk_98 : decode b_Mod_walk 98 = .ok (.iload 5, 2) := by decide +kernel
theorem d_Mod_walk_100 : decode b_Mod_walk 100 = .ok (.ifCond .eq 29, 3) := by decide +kernel
theorem d_Mod_walk_103 : decode b_Mod_walk 103 = .ok (.aload_n 0, 1) := by decide +kernel
theorem d_Mod_walk_104 : decode b_Mod_walk 104 = .ok (.getfield 167, 3) := by decide +kernel
theorem d_Mod_walk_107 : decode b_Mod_walk 107 = .ok (.ifCond .eq 12, 3) := by decide +kernel
theorem d_Mod_walk_110 : decode b_Mod_walk 110 = .ok (.aload_n 0, 1) := by decide +kernel
theorem d_Mod_walk_111 : decode b_Mod_walk 111 = .ok (.iload_n 2, 1) := by decide +kernel
theorem d_Mod_walk_112 : decode b_Mod_walk 112 = .ok (.iload_n 1, 1) := by decide +kernel
theorem d_Mod_walk_113 : decode b_Mod_walk 113 = .ok (.invokevirtual 201, 3) := by decide +kernel
theorem d_Mod_walk_116 : decode b_Mod_walk 116 = .ok (.goto 9, 3) := by decide +kernel
theorem d_Mod_walk_119 : decode b_Mod_walk 119 = .ok (.aload_n 0, 1) := by decide +kernel
theorem d_Mod_walk_120 : decode b_Mod_walk 120 = .ok (.iload_n 2, 1) := by decide +kernel
theorem d_Mod_walk_121 : decode b_Mod_walk 121 = .ok (.iload_n 1, 1) := by decide +kernel
theorem d_Mod_walk_122 : decode b_Mod_walk 122 = .ok (.invokevirtual 204, 3) := by decide +kernel
theorem d_Mod_walk_125 : decode b_Mod_walk 125 = .ok (.istore_n 2, 1) := by decide +kernel
theorem d_Mod_walk_126 : decode b_Mod_walk 126 = .ok (.goto 12, 3) := by decide +kernel
theorem d_Mod_walk_129 : decode b_Mod_walk 129 = .ok (.aload_n 0, 1) := by decide +kernel
theorem d_Mod_walk_130 : decode b_Mod_walk 130 = .ok (.iload_n 2, 1) := by decide +kernel
theorem d_Mod_walk_131 : decode b_Mod_walk 131 = .ok (.iload_n 1, 1) := by decide +kernel
theorem d_Mod_walk_132 : decode b_Mod_walk 132 = .ok (.invokevirtual 207, 3) := by decide +kernel
theorem d_Mod_walk_135 : decode b_Mod_walk 135 = .ok (.iinc 2 1, 3) := by decide +kernel
theorem d_Mod_walk_138 : decode b_Mod_walk 138 = .ok (.goto (-119), 3) := by decide +kernel
theorem d_Mod_walk_141 : decode b_Mod_walk 141 = .ok (.iinc 1 1, 3) := by decide +kernel
theorem d_Mod_walk_144 : decode b_Mod_walk 144 = .ok (.goto (-142), 3) := by decide +kernel
theorem d_Mod_walk_147 : decode b_Mod_walk 147 = .ok (.return_, 1) := by decide +kernel
