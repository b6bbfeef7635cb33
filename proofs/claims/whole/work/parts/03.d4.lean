theorem d_Mod_kFor_0 : decode b_Mod_kFor 0 = .ok (.iconst 0, 1) := by decide +kernel
theorem d_Mod_kFor_1 : decode b_Mod_kFor 1 = .ok (.istore_n 2, 1) := by decide +kernel
theorem d_Mod_kFor_2 : decode b_Mod_kFor 2 = .ok (.iload_n 0, 1) := by decide +kernel
theorem d_Mod_kFor_3 : decode b_Mod_kFor 3 = .ok (.iload_n 2, 1) := by decide +kernel
theorem d_Mod_kFor_4 : decode b_Mod_kFor 4 = .ok (.ishl, 1) := by decide +kernel
theorem d_Mod_kFor_5 : decode b_Mod_kFor 5 = .ok (.iload_n 1, 1) := by decide +kernel
theorem d_Mod_kFor_6 : decode b_Mod_kFor 6 = .ok (.if_icmp .ge 9, 3) := by decide +kernel
theorem d_Mod_kFor_9 : decode b_Mod_kFor 9 = .ok (.iinc 2 1, 3) := by decide +kernel
theorem d_Mod_kFor_12 : decode b_Mod_kFor 12 = .ok (.goto (-10), 3) := by decide +kernel
theorem d_Mod_kFor_15 : decode b_Mod_kFor 15 = .ok (.iload_n 2, 1) := by decide +kernel
theorem d_Mod_kFor_16 : decode b_Mod_kFor 16 = .ok (.ireturn, 1) := by decide +kernel
theorem d_Mod_keep_0 : decode b_Mod_keep 0 = .ok (.iconst 0, 1) := by decide +kernel
theorem d_Mod_keep_1 : decode b_Mod_keep 1 = .ok (.istore_n 1, 1) := by decide +kernel
theorem d_Mod_keep_2 : decode b_Mod_keep 2 = .ok (.iload_n 1, 1) := by decide +kernel
theorem d_Mod_keep_3 : decode b_Mod_keep 3 = .ok (.bipush 64, 2) := by decide +kernel
theorem d_Mod_keep_5 : decode b_Mod_keep 5 = .ok (.if_icmp .ge 33, 3) := by decide +kernel
theorem d_Mod_keep_8 : decode b_Mod_keep 8 = .ok (.aload_n 0, 1) := by decide +kernel
theorem d_Mod_keep_9 : decode b_Mod_keep 9 = .ok (.getfield 32, 3) := by decide +kernel
theorem d_Mod_keep_12 : decode b_Mod_keep 12 = .ok (.iload_n 1, 1) := by decide +kernel
theorem d_Mod_keep_13 : decode b_Mod_keep 13 = .ok (.aload_n 0, 1) := by decide +kernel
theorem d_Mod_keep_14 : decode b_Mod_keep 14 = .ok (.getfield 19, 3) := by decide +kernel
theorem d_Mod_keep_17 : decode b_Mod_keep 17 = .ok (.iload_n 1, 1) := by decide +kernel
theorem d_Mod_keep_18 : decode b_Mod_keep 18 = .ok (.iaload, 1) := by decide +kernel
theorem d_Mod_keep_19 : decode b_Mod_keep 19 = .ok (.iastore, 1) := by decide +kernel
theorem d_Mod_keep_20 : decode b_Mod_keep 20 = .ok (.aload_n 0, 1) := by decide +kernel
theorem d_Mod_keep_21 : decode b_Mod_keep 21 = .ok (.getfield 35, 3) := by decide +kernel
theorem d_Mod_keep_24 : decode b_Mod_keep 24 = .ok (.iload_n 1, 1) := by decide +kernel
theorem d_Mod_keep_25 : decode b_Mod_keep 25 = .ok (.aload_n 0, 1) := by decide +kernel
theorem d_Mod_keep_26 : decode b_Mod_keep 26 = .ok (.getfield 23, 3) := by decide +kernel
theorem d_Mod_keep_29 : decode b_Mod_keep 29 = .ok (.iload_n 1, 1) := by decide +kernel
theorem d_Mod_keep_30 : decode b_Mod_keep 30 = .ok (.iaload, 1) := by decide +kernel
theorem d_Mod_keep_31 : decode b_Mod_keep 31 = .ok (.iastore, 1) := by decide +kernel
theorem d_Mod_keep_32 : decode b_Mod_keep 32 = .ok (.iinc 1 1, 3) := by decide +kernel
theorem d_Mod_keep_35 : decode b_Mod_keep 35 = .ok (.goto (-33), 3) := by decide +kernel
theorem d_Mod_keep_38 : decode b_Mod_keep 38 = .ok (.iconst 0, 1) := by decide +kernel
theorem d_Mod_keep_39 : decode b_Mod_keep 39 = .ok (.istore_n 1, 1) := by decide +kernel
theorem d_Mod_keep_40 : decode b_Mod_keep 40 = .ok (.iload_n 1, 1) := by decide +kernel
theorem d_Mod_keep_41 : decode b_Mod_keep 41 = .ok (.sipush 1835, 3) := by decide +kernel
theorem d_Mod_keep_44 : decode b_Mod_keep 44 = .ok (.if_icmp .ge 21, 3) := by decide +kernel
theorem d_Mod_keep_47 : decode b_Mod_keep 47 = .ok (.aload_n 0, 1) := by decide +kernel
theorem d_Mod_keep_48 : decode b_Mod_keep 48 = .ok (.getfield 38, 3) := by decide +kernel
theorem d_Mod_keep_51 : decode b_Mod_keep 51 = .ok (.iload_n 1, 1) := by decide +kernel
theorem d_Mod_keep_52 : decode b_Mod_keep 52 = .ok (.aload_n 0, 1) := by decide +kernel
theorem d_Mod_keep_53 : decode b_Mod_keep 53 = .ok (.getfield 26, 3) := by decide +kernel
theorem d_Mod_keep_56 : decode b_Mod_keep 56 = .ok (.iload_n 1, 1) := by decide +kernel
theorem d_Mod_keep_57 : decode b_Mod_keep 57 = .ok (.iaload, 1) := by decide +kernel
theorem d_Mod_keep_58 : decode b_Mod_keep 58 = .ok (.iastore, 1) := by decide +kernel
theorem d_Mod_keep_59 : decode b_Mod_keep 59 = .ok (.iinc 1 1, 3) := by decide +kernel
theorem d_Mod_keep_62 : decode b_Mod_keep 62 = .ok (.goto (-22), 3) := by decide +kernel
theorem d_Mod_keep_65 : decode b_Mod_keep 65 = .ok (.return_, 1) := by decide +kernel
theorem d_Mod_learn_0 : decode b_Mod_learn 0 = .ok (.aload_n 0, 1) := by decide +kernel
theorem d_Mod_learn_1 : decode b_Mod_learn 1 = .ok (.getfield 26, 3) := by decide +kernel
theorem d_Mod_learn_4 : decode b_Mod_learn 4 = .ok (.iload_n 1, 1) := by decide +kernel
theorem d_Mod_learn_5 : decode b_Mod_learn 5 = .ok (.iconst 1, 1) := by decide +kernel
theorem d_Mod_learn_6 : decode b_Mod_learn 6 = .ok (.iadd, 1) := by decide +kernel
theorem d_Mod_learn_7 : decode b_Mod_learn 7 = .ok (.dup2, 1) := by decide +kernel
theorem d_Mod_learn_8 : decode b_Mod_learn 8 = .ok (.iaload, 1) := by decide +kernel
theorem d_Mod_learn_9 : decode b_Mod_learn 9 = .ok (.iload_n 2, 1) := by decide +kernel
theorem d_Mod_learn_10 : decode b_Mod_learn 10 = .ok (.aload_n 0, 1) := by decide +kernel
theorem d_Mod_learn_11 : decode b_Mod_learn 11 = .ok (.getfield 53, 3) := by decide +kernel
theorem d_Mod_learn_14 : decode b_Mod_learn 14 = .ok (.imul, 1) := by decide +kernel
theorem d_Mod_learn_15 : decode b_Mod_learn 15 = .ok (.iadd, 1) := by decide +kernel
theorem d_Mod_learn_16 : decode b_Mod_learn 16 = .ok (.iastore, 1) := by decide +kernel
theorem d_Mod_learn_17 : decode b_Mod_learn 17 = .ok (.aload_n 0, 1) := by decide +kernel
theorem d_Mod_learn_18 : decode b_Mod_learn 18 = .ok (.getfield 26, 3) := by decide +kernel
theorem d_Mod_learn_21 : decode b_Mod_learn 21 = .ok (.iload_n 1, 1) := by decide +kernel
theorem d_Mod_learn_22 : decode b_Mod_learn 22 = .ok (.dup2, 1) := by decide +kernel
theorem d_Mod_learn_23 : decode b_Mod_learn 23 = .ok (.iaload, 1) := by decide +kernel
theorem d_Mod_learn_24 : decode b_Mod_learn 24 = .ok (.iload_n 2, 1) := by decide +kernel
theorem d_Mod_learn_25 : decode b_Mod_learn 25 = .ok (.ifCond .ge 8, 3) := by decide +kernel
theorem d_Mod_learn_28 : decode b_Mod_learn 28 = .ok (.iload_n 2, 1) := by decide +kernel
theorem d_Mod_learn_29 : decode b_Mod_learn 29 = .ok (.ineg, 1) := by decide +kernel
theorem d_Mod_learn_30 : decode b_Mod_learn 30 = .ok (.goto 4, 3) := by decide +kernel
theorem d_Mod_learn_33 : decode b_Mod_learn 33 = .ok (.iload_n 2, 1) := by decide +kernel
theorem d_Mod_learn_34 : decode b_Mod_learn 34 = .ok (.iadd, 1) := by decide +kernel
theorem d_Mod_learn_35 : decode b_Mod_learn 35 = .ok (.iastore, 1) := by decide +kernel
theorem d_Mod_learn_36 : decode b_Mod_learn 36 = .ok (.aload_n 0, 1) := by decide +kernel
theorem d_Mod_learn_37 : decode b_Mod_learn 37 = .ok (.getfield 26, 3) := by decide +kernel
theorem d_Mod_learn_40 : decode b_Mod_learn 40 = .ok (.iload_n 1, 1) := by decide +kernel
theorem d_Mod_learn_41 : decode b_Mod_learn 41 = .ok (.iconst 3, 1) := by decide +kernel
theorem d_Mod_learn_42 : decode b_Mod_learn 42 = .ok (.iadd, 1) := by decide +kernel
theorem d_Mod_learn_43 : decode b_Mod_learn 43 = .ok (.iaload, 1) := by decide +kernel
theorem d_Mod_learn_44 : decode b_Mod_learn 44 = .ok (.bipush 64, 2) := by decide +kernel
theorem d_Mod_learn_46 : decode b_Mod_learn 46 = .ok (.if_icmp .ne 47, 3) := by decide +kernel
theorem d_Mod_learn_49 : decode b_Mod_learn 49 = .ok (.aload_n 0, 1) := by decide +kernel
theorem d_Mod_learn_50 : decode b_Mod_learn 50 = .ok (.getfield 26, 3) := by decide +kernel
theorem d_Mod_learn_53 : decode b_Mod_learn 53 = .ok (.iload_n 1, 1) := by decide +kernel
theorem d_Mod_learn_54 : decode b_Mod_learn 54 = .ok (.aload_n 0, 1) := by decide +kernel
theorem d_Mod_learn_55 : decode b_Mod_learn 55 = .ok (.getfield 26, 3) := by decide +kernel
theorem d_Mod_learn_58 : decode b_Mod_learn 58 = .ok (.iload_n 1, 1) := by decide +kernel
theorem d_Mod_learn_59 : decode b_Mod_learn 59 = .ok (.iaload, 1) := by decide +kernel
theorem d_Mod_learn_60 : decode b_Mod_learn 60 = .ok (.invokestatic 188, 3) := by decide +kernel
theorem d_Mod_learn_63 : decode b_Mod_learn 63 = .ok (.iastore, 1) := by decide +kernel
theorem d_Mod_learn_64 : decode b_Mod_learn 64 = .ok (.aload_n 0, 1) := by decide +kernel
theorem d_Mod_learn_65 : decode b_Mod_learn 65 = .ok (.getfield 26, 3) := by decide +kernel
theorem d_Mod_learn_68 : decode b_Mod_learn 68 = .ok (.iload_n 1, 1) := by decide +kernel
theorem d_Mod_learn_69 : decode b_Mod_learn 69 = .ok (.iconst 1, 1) := by decide +kernel
theorem d_Mod_learn_70 : decode b_Mod_learn 70 = .ok (.iadd, 1) := by decide +kernel
theorem d_Mod_learn_71 : decode b_Mod_learn 71 = .ok (.aload_n 0, 1) := by decide +kernel
theorem d_Mod_learn_72 : decode b_Mod_learn 72 = .ok (.getfield 26, 3) := by decide +kernel
theorem d_Mod_learn_75 : decode b_Mod_learn 75 = .ok (.iload_n 1, 1) := by decide +kernel
theorem d_Mod_learn_76 : decode b_Mod_learn 76 = .ok (.iconst 1, 1) := by decide +kernel
theorem d_Mod_learn_77 : decode b_Mod_learn 77 = .ok (.iadd, 1) := by decide +kernel
theorem d_Mod_learn_78 : decode b_Mod_learn 78 = .ok (.iaload, 1) := by decide +kernel
theorem d_Mod_learn_79 : decode b_Mod_learn 79 = .ok (.invokestatic 188, 3) := by decide +kernel
theorem d_Mod_learn_82 : decode b_Mod_learn 82 = .ok (.iastore, 1) := by decide +kernel
theorem d_Mod_learn_83 : decode b_Mod_learn 83 = .ok (.aload_n 0, 1) := by decide +kernel
theorem d_Mod_learn_84 : decode b_Mod_learn 84 = .ok (.getfield 26, 3) := by decide +kernel
theorem d_Mod_learn_87 : decode b_Mod_learn 87 = .ok (.iload_n 1, 1) := by decide +kernel
theorem d_Mod_learn_88 : decode b_Mod_learn 88 = .ok (.iconst 3, 1) := by decide +kernel
theorem d_Mod_learn_89 : decode b_Mod_learn 89 = .ok (.iadd, 1) := by decide +kernel
theorem d_Mod_learn_90 : decode b_Mod_learn 90 = .ok (.bipush 32, 2) := by decide +kernel
theorem d_Mod_learn_92 : decode b_Mod_learn 92 = .ok (.iastore, 1) := by decide +kernel
theorem d_Mod_learn_93 : decode b_Mod_learn 93 = .ok (.aload_n 0, 1) := by decide +kernel
theorem d_Mod_learn_94 : decode b_Mod_learn 94 = .ok (.getfield 26, 3) := by decide +kernel
theorem d_Mod_learn_97 : decode b_Mod_learn 97 = .ok (.iload_n 1, 1) := by decide +kernel
theorem d_Mod_learn_98 : decode b_Mod_learn 98 = .ok (.iconst 3, 1) := by decide +kernel
theorem d_Mod_learn_99 : decode b_Mod_learn 99 = .ok (.iadd, 1) := by decide +kernel
theorem d_Mod_learn_100 : decode b_Mod_learn 100 = .ok (.dup2, 1) := by decide +kernel
theorem d_Mod_learn_101 : decode b_Mod_learn 101 = .ok (.iaload, 1) := by decide +kernel
theorem d_Mod_learn_102 : decode b_Mod_learn 102 = .ok (.iconst 1, 1) := by decide +kernel
theorem d_Mod_learn_103 : decode b_Mod_learn 103 = .ok (.iadd, 1) := by decide +kernel
theorem d_Mod_learn_104 : decode b_Mod_learn 104 = .ok (.iastore, 1) := by decide +kernel
theorem d_Mod_learn_105 : decode b_Mod_learn 105 = .ok (.aload_n 0, 1) := by decide +kernel
theorem d_Mod_learn_106 : decode b_Mod_learn 106 = .ok (.getfield 26, 3) := by decide +kernel
theorem d_Mod_learn_109 : decode b_Mod_learn 109 = .ok (.iload_n 1, 1) := by decide +kernel
theorem d_Mod_learn_110 : decode b_Mod_learn 110 = .ok (.iconst 3, 1) := by decide +kernel
theorem d_Mod_learn_111 : decode b_Mod_learn 111 = .ok (.iadd, 1) := by decide +kernel
theorem d_Mod_learn_112 : decode b_Mod_learn 112 = .ok (.iaload, 1) := by decide +kernel
theorem d_Mod_learn_113 : decode b_Mod_learn 113 = .ok (.istore_n 3, 1) := by decide +kernel
theorem d_Mod_learn_114 : decode b_Mod_learn 114 = .ok (.aload_n 0, 1) := by decide +kernel
theorem d_Mod_learn_115 : decode b_Mod_learn 115 = .ok (.getfield 26, 3) := by decide +kernel
theorem d_Mod_learn_118 : decode b_Mod_learn 118 = .ok (.iload_n 1, 1) := by decide +kernel
theorem d_Mod_learn_119 : decode b_Mod_learn 119 = .ok (.iconst 1, 1) := by decide +kernel
theorem d_Mod_learn_120 : decode b_Mod_learn 120 = .ok (.iadd, 1) := by decide +kernel
theorem d_Mod_learn_121 : decode b_Mod_learn 121 = .ok (.iaload, 1) := by decide +kernel
theorem d_Mod_learn_122 : decode b_Mod_learn 122 = .ok (.istore 4, 2) := by decide +kernel
theorem d_Mod_learn_124 : decode b_Mod_learn 124 = .ok (.aload_n 0, 1) := by decide +kernel
theorem d_Mod_learn_125 : decode b_Mod_learn 125 = .ok (.getfield 26, 3) := by decide +kernel
theorem d_Mod_learn_128 : decode b_Mod_learn 128 = .ok (.iload_n 1, 1) := by decide +kernel
theorem d_Mod_learn_129 : decode b_Mod_learn 129 = .ok (.iconst 2, 1) := by decide +kernel
theorem d_Mod_learn_130 : decode b_Mod_learn 130 = .ok (.iadd, 1) := by decide +kernel
theorem d_Mod_learn_131 : decode b_Mod_learn 131 = .ok (.iaload, 1) := by decide +kernel
theorem d_Mod_learn_132 : decode b_Mod_learn 132 = .ok (.istore 5, 2) := by decide +kernel
theorem d_Mod_learn_134 : decode b_Mod_learn 134 = .ok (.iload 4, 2) := by decide +kernel
theorem d_Mod_learn_136 : decode b_Mod_learn 136 = .ok (.iload_n 3, 1) := by decide +kernel
theorem d_Mod_learn_137 : decode b_Mod_learn 137 = .ok (.ineg, 1) := by decide +kernel
theorem d_Mod_learn_138 : decode b_Mod_learn 138 = .ok (.if_icmp .gt 47, 3) := by decide +kernel
theorem d_Mod_learn_141 : decode b_Mod_learn 141 = .ok (.iload 4, 2) := by decide +kernel
theorem d_Mod_learn_143 : decode b_Mod_learn 143 = .ok (.iload_n 3, 1) := by decide +kernel
theorem d_Mod_learn_144 : decode b_Mod_learn 144 = .ok (.iadd, 1) := by decide +kernel
theorem d_Mod_learn_145 : decode b_Mod_learn 145 = .ok (.istore 4, 2) := by decide +kernel
theorem d_Mod_learn_147 : decode b_Mod_learn 147 = .ok (.iload 5, 2) := by decide +kernel
theorem d_Mod_learn_149 : decode b_Mod_learn 149 = .ok (.bipush (-128), 2) := by decide +kernel
theorem d_Mod_learn_151 : decode b_Mod_learn 151 = .ok (.if_icmp .le 10, 3) := by decide +kernel
theorem d_Mod_learn_154 : decode b_Mod_learn 154 = .ok (.iload 5, 2) := by decide +kernel
theorem d_Mod_learn_156 : decode b_Mod_learn 156 = .ok (.iconst 1, 1) := by decide +kernel
theorem d_Mod_learn_157 : decode b_Mod_learn 157 = .ok (.isub, 1) := by decide +kernel
theorem d_Mod_learn_158 : decode b_Mod_learn 158 = .ok (.goto 5, 3) := by decide +kernel
theorem d_Mod_learn_161 : decode b_Mod_learn 161 = .ok (.iload 5, 2) := by decide +kernel
theorem d_Mod_learn_163 : decode b_Mod_learn 163 = .ok (.istore 5, 2) := by decide +kernel
theorem d_Mod_learn_165 : decode b_Mod_learn 165 = .ok (.iload 4, 2) := by decide +kernel
theorem d_Mod_learn_167 : decode b_Mod_learn 167 = .ok (.iload_n 3, 1) := by decide +kernel
theorem d_Mod_learn_168 : decode b_Mod_learn 168 = .ok (.ineg, 1) := by decide +kernel
theorem d_Mod_learn_169 : decode b_Mod_learn 169 = .ok (.if_icmp .gt 9, 3) := by decide +kernel
theorem d_Mod_learn_172 : decode b_Mod_learn 172 = .ok (.iconst 1, 1) := by decide +kernel
theorem d_Mod_learn_173 : decode b_Mod_learn 173 = .ok (.iload_n 3, 1) := by decide +kernel
theorem d_Mod_learn_174 : decode b_Mod_learn 174 = .ok (.isub, 1) := by decide +kernel
theorem d_Mod_learn_175 : decode b_Mod_learn 175 = .ok (.goto 5, 3) := by decide +kernel
theorem d_Mod_learn_178 : decode b_Mod_learn 178 = .ok (.iload 4, 2) := by decide +kernel
theorem d_Mod_learn_180 : decode b_Mod_learn 180 = .ok (.istore 4, 2) := by decide +kernel
theorem d_Mod_learn_182 : decode b_Mod_learn 182 = .ok (.goto 45, 3) := by decide +kernel
theorem d_Mod_learn_185 : decode b_Mod_learn 185 = .ok (.iload 4, 2) := by decide +kernel
theorem d_Mod_learn_187 : decode b_Mod_learn 187 = .ok (.ifCond .le 40, 3) := by decide +kernel
theorem d_Mod_learn_190 : decode b_Mod_learn 190 = .ok (.iload 4, 2) := by decide +kernel
theorem d_Mod_learn_192 : decode b_Mod_learn 192 = .ok (.iload_n 3, 1) := by decide +kernel
theorem d_Mod_learn_193 : decode b_Mod_learn 193 = .ok (.isub, 1) := by decide +kernel
theorem d_Mod_learn_194 : decode b_Mod_learn 194 = .ok (.istore 4, 2) := by decide +kernel
theorem d_Mod_learn_196 : decode b_Mod_learn 196 = .ok (.iload 5, 2) := by decide +kernel
theorem d_Mod_learn_198 : decode b_Mod_learn 198 = .ok (.bipush 127, 2) := by decide +kernel
theorem d_Mod_learn_200 : decode b_Mod_learn 200 = .ok (.if_icmp .ge 10, 3) := by decide +kernel
theorem d_Mod_learn_203 : decode b_Mod_learn 203 = .ok (.iload 5, 2) := by decide +kernel
theorem d_Mod_learn_205 : decode b_Mod_learn 205 = .ok (.iconst 1, 1) := by decide +kernel
theorem d_Mod_learn_206 : decode b_Mod_learn 206 = .ok (.iadd, 1) := by decide +kernel
theorem d_Mod_learn_207 : decode b_Mod_learn 207 = .ok (.goto 5, 3) := by decide +kernel
theorem d_Mod_learn_210 : decode b_Mod_learn 210 = .ok (.iload 5, 2) := by decide +kernel
theorem d_Mod_learn_212 : decode b_Mod_learn 212 = .ok (.istore 5, 2) := by decide +kernel
theorem d_Mod_learn_214 : decode b_Mod_learn 214 = .ok (.iload 4, 2) := by decide +kernel
theorem d_Mod_learn_216 : decode b_Mod_learn 216 = .ok (.ifCond .le 7, 3) := by decide +kernel
theorem d_Mod_learn_219 : decode b_Mod_learn 219 = .ok (.iconst 0, 1) := by decide +kernel
theorem d_Mod_learn_220 : decode b_Mod_learn 220 = .ok (.goto 5, 3) := by decide +kernel
theorem d_Mod_learn_223 : decode b_Mod_learn 223 = .ok (.iload 4, 2) := by decide +kernel
theorem d_Mod_learn_225 : decode b_Mod_learn 225 = .ok (.istore 4, 2) := by decide +kernel
theorem d_Mod_learn_227 : decode b_Mod_learn 227 = .ok (.aload_n 0, 1) := by decide +kernel
theorem d_Mod_learn_228 : decode b_Mod_learn 228 = .ok (.getfield 26, 3) := by decide +kernel
theorem d_Mod_learn_231 : decode b_Mod_learn 231 = .ok (.iload_n 1, 1) := by decide +kernel
theorem d_Mod_learn_232 : decode b_Mod_learn 232 = .ok (.iconst 1, 1) := by decide +kernel
theorem d_Mod_learn_233 : decode b_Mod_learn 233 = .ok (.iadd, 1) := by decide +kernel
theorem d_Mod_learn_234 : decode b_Mod_learn 234 = .ok (.iload 4, 2) := by decide +kernel
theorem d_Mod_learn_236 : decode b_Mod_learn 236 = .ok (.iastore, 1) := by decide +kernel
theorem d_Mod_learn_237 : decode b_Mod_learn 237 = .ok (.aload_n 0, 1) := by decide +kernel
theorem d_Mod_learn_238 : decode b_Mod_learn 238 = .ok (.getfield 26, 3) := by decide +kernel
theorem d_Mod_learn_241 : decode b_Mod_learn 241 = .ok (.iload_n 1, 1) := by decide +kernel
theorem d_Mod_learn_242 : decode b_Mod_learn 242 = .ok (.iconst 2, 1) := by decide +kernel
theorem d_Mod_learn_243 : decode b_Mod_learn 243 = .ok (.iadd, 1) := by decide +kernel
theorem d_Mod_learn_244 : decode b_Mod_learn 244 = .ok (.iload 5, 2) := by decide +kernel
theorem d_Mod_learn_246 : decode b_Mod_learn 246 = .ok (.iastore, 1) := by decide +kernel
theorem d_Mod_learn_247 : decode b_Mod_learn 247 = .ok (.return_, 1) := by decide +kernel
theorem d_Mod_lesser_0 : decode b_Mod_lesser 0 = .ok (.iload_n 0, 1) := by decide +kernel
theorem d_Mod_lesser_1 : decode b_Mod_lesser 1 = .ok (.iload_n 1, 1) := by decide +kernel
theorem d_Mod_lesser_2 : decode b_Mod_lesser 2 = .ok (.if_icmp .ge 7, 3) := by decide +kernel
theorem d_Mod_lesser_5 : decode b_Mod_lesser 5 = .ok (.iload_n 0, 1) := by decide +kernel
theorem d_Mod_lesser_6 : decode b_Mod_lesser 6 = .ok (.goto 4, 3) := by decide +kernel
theorem d_Mod_lesser_9 : decode b_Mod_lesser 9 = .ok (.iload_n 1, 1) := by decide +kernel
theorem d_Mod_lesser_10 : decode b_Mod_lesser 10 = .ok (.ireturn, 1) := by decide +kernel
theorem d_Mod_number_0 : decode b_Mod_number 0 = .ok (.aload_n 0, 1) := by decide +kernel
theorem d_Mod_number_1 : decode b_Mod_number 1 = .ok (.iconst 0, 1) := by decide +kernel
theorem d_Mod_number_2 : decode b_Mod_number 2 = .ok (.putfield 47, 3) := by decide +kernel
theorem d_Mod_number_5 : decode b_Mod_number 5 = .ok (.iload_n 1, 1) := by decide +kernel
theorem d_Mod_number_6 : decode b_Mod_number 6 = .ok (.tableswitch 104 0 9 #[54, 59, 64, 69, 74, 79, 84, 89, 94, 99], 54) := by decide +kernel
theorem d_Mod_number_60 : decode b_Mod_number 60 = .ok (.aload_n 0, 1) := by decide +kernel
theorem d_Mod_number_61 : decode b_Mod_number 61 = .ok (.getfield 7, 3) := by decide +kernel
theorem d_Mod_number_64 : decode b_Mod_number 64 = .ok (.ireturn, 1) := by decide +kernel
theorem d_Mod_number_65 : decode b_Mod_number 65 = .ok (.aload_n 0, 1) := by decide +kernel
theorem d_Mod_number_66 : decode b_Mod_number 66 = .ok (.getfield 13, 3) := by decide +kernel
theorem d_Mod_number_69 : decode b_Mod_number 69 = .ok (.ireturn, 1) := by decide +kernel
theorem d_Mod_number_70 : decode b_Mod_number 70 = .ok (.aload_n 0, 1) := by decide +kernel
theorem d_Mod_number_71 : decode b_Mod_number 71 = .ok (.getfield 16, 3) := by decide +kernel
theorem d_Mod_number_74 : decode b_Mod_number 74 = .ok (.ireturn, 1) := by decide +kernel
theorem d_Mod_number_75 : decode b_Mod_number 75 = .ok (.aload_n 0, 1) := by decide +kernel
theorem d_Mod_number_76 : decode b_Mod_number 76 = .ok (.getfield 50, 3) := by decide +kernel
theorem d_Mod_number_79 : decode b_Mod_number 79 = .ok (.ireturn, 1) := by decide +kernel
theorem d_Mod_number_80 : decode b_Mod_number 80 = .ok (.aload_n 0, 1) := by decide +kernel
theorem d_Mod_number_81 : decode b_Mod_number 81 = .ok (.getfield 56, 3) := by decide +kernel
theorem d_Mod_number_84 : decode b_Mod_number 84 = .ok (.ireturn, 1) := by decide +kernel
theorem d_Mod_number_85 : decode b_Mod_number 85 = .ok (.aload_n 0, 1) := by decide +kernel
theorem d_Mod_number_86 : decode b_Mod_number 86 = .ok (.getfield 63, 3) := by decide +kernel
theorem d_Mod_number_89 : decode b_Mod_number 89 = .ok (.ireturn, 1) := by decide +kernel
theorem d_Mod_number_90 : decode b_Mod_number 90 = .ok (.aload_n 0, 1) := by decide +kernel
theorem d_Mod_number_91 : decode b_Mod_number 91 = .ok (.getfield 69, 3) := by decide +kernel
theorem d_Mod_number_94 : decode b_Mod_number 94 = .ok (.ireturn, 1) := by decide +kernel
theorem d_Mod_number_95 : decode b_Mod_number 95 = .ok (.aload_n 0, 1) := by decide +kernel
theorem d_Mod_number_96 : decode b_Mod_number 96 = .ok (.getfield 75, 3) := by decide +kernel
theorem d_Mod_number_99 : decode b_Mod_number 99 = .ok (.ireturn, 1) := by decide +kernel
theorem d_Mod_number_100 : decode b_Mod_number 100 = .ok (.aload_n 0, 1) := by decide +kernel
theorem d_Mod_number_101 : decode b_Mod_number 101 = .ok (.getfield 78, 3) := by decide +kernel
theorem d_Mod_number_104 : decode b_Mod_number 104 = .ok (.ireturn, 1) := by decide +kernel
theorem d_Mod_number_105 : decode b_Mod_number 105 = .ok (.aload_n 0, 1) := by decide +kernel
theorem d_Mod_number_106 : decode b_Mod_number 106 = .ok (.getfield 81, 3) := by decide +kernel
theorem d_Mod_number_109 : decode b_Mod_number 109 = .ok (.ireturn, 1) := by decide +kernel
theorem d_Mod_number_110 : decode b_Mod_number 110 = .ok (.iconst (-1), 1) := by decide +kernel
theorem d_Mod_number_111 : decode b_Mod_number 111 = .ok (.ireturn, 1) := by decide +kernel
theorem d_Mod_poke_0 : decode b_Mod_poke 0 = .ok (.aload_n 0, 1) := by decide +kernel
theorem d_Mod_poke_1 : decode b_Mod_poke 1 = .ok (.iconst 0, 1) := by decide +kernel
theorem d_Mod_poke_2 : decode b_Mod_poke 2 = .ok (.putfield 47, 3) := by decide +kernel
theorem d_Mod_poke_5 : decode b_Mod_poke 5 = .ok (.iload_n 1, 1) := by decide +kernel
theorem d_Mod_poke_6 : decode b_Mod_poke 6 = .ok (.ifCond .lt 22, 3) := by decide +kernel
theorem d_Mod_poke_9 : decode b_Mod_poke 9 = .ok (.iload_n 1, 1) := by decide +kernel
theorem d_Mod_poke_10 : decode b_Mod_poke 10 = .ok (.aload_n 0, 1) := by decide +kernel
theorem d_Mod_poke_11 : decode b_Mod_poke 11 = .ok (.getfield 91, 3) := by decide +kernel
theorem d_Mod_poke_14 : decode b_Mod_poke 14 = .ok (.if_icmp .ge 14, 3) := by decide +kernel
theorem d_Mod_poke_17 : decode b_Mod_poke 17 = .ok (.iload_n 2, 1) := by decide +kernel
theorem d_Mod_poke_18 : decode b_Mod_poke 18 = .ok (.ifCond .lt 10, 3) := by decide +kernel
theorem d_Mod_poke_21 : decode b_Mod_poke 21 = .ok (.iload_n 2, 1) := by decide +kernel
theorem d_Mod_poke_22 : decode b_Mod_poke 22 = .ok (.sipush 255, 3) := by decide +kernel
theorem d_Mod_poke_25 : decode b_Mod_poke 25 = .ok (.if_icmp .le 5, 3) := by decide +kernel
theorem d_Mod_poke_28 : decode b_Mod_poke 28 = .ok (.iconst 0, 1) := by decide +kernel
theorem d_Mod_poke_29 : decode b_Mod_poke 29 = .ok (.ireturn, 1) := by decide +kernel
theorem d_Mod_poke_30 : decode b_Mod_poke 30 = .ok (.aload_n 0, 1) := by decide +kernel
theorem d_Mod_poke_31 : decode b_Mod_poke 31 = .ok (.getfield 29, 3) := by decide +kernel
theorem d_Mod_poke_34 : decode b_Mod_poke 34 = .ok (.iload_n 1, 1) := by decide +kernel
theorem d_Mod_poke_35 : decode b_Mod_poke 35 = .ok (.iload_n 2, 1) := by decide +kernel
theorem d_Mod_poke_36 : decode b_Mod_poke 36 = .ok (.iastore, 1) := by decide +kernel
theorem d_Mod_poke_37 : decode b_Mod_poke 37 = .ok (.iconst 1, 1) := by decide +kernel
theorem d_Mod_poke_38 : decode b_Mod_poke 38 = .ok (.ireturn, 1) := by decide +kernel
theorem d_Mod_powerFor_0 : decode b_Mod_powerFor 0 = .ok (.iload_n 0, 1) := by decide +kernel
theorem d_Mod_powerFor_1 : decode b_Mod_powerFor 1 = .ok (.istore_n 2, 1) := by decide +kernel
theorem d_Mod_powerFor_2 : decode b_Mod_powerFor 2 = .ok (.iconst 1, 1) := by decide +kernel
theorem d_Mod_powerFor_3 : decode b_Mod_powerFor 3 = .ok (.iload_n 2, 1) := by decide +kernel
theorem d_Mod_powerFor_4 : decode b_Mod_powerFor 4 = .ok (.ishl, 1) := by decide +kernel
theorem d_Mod_powerFor_5 : decode b_Mod_powerFor 5 = .ok (.iload_n 1, 1) := by decide +kernel
theorem d_Mod_powerFor_6 : decode b_Mod_powerFor 6 = .ok (.if_icmp .ge 9, 3) := by decide +kernel
theorem d_Mod_powerFor_9 : decode b_Mod_powerFor 9 = .ok (.iinc 2 1, 3) := by decide +kernel
theorem d_Mod_powerFor_12 : decode b_Mod_powerFor 12 = .ok (.goto (-10), 3) := by decide +kernel
theorem d_Mod_powerFor_15 : decode b_Mod_powerFor 15 = .ok (.iload_n 2, 1) := by decide +kernel
theorem d_Mod_powerFor_16 : decode b_Mod_powerFor 16 = .ok (.ireturn, 1) := by decide +kernel
theorem d_Mod_prepare_0 : decode b_Mod_prepare 0 = .ok (.aload_n 0, 1) := by decide +kernel
theorem d_Mod_prepare_1 : decode b_Mod_prepare 1 = .ok (.iconst 2, 1) := by decide +kernel
theorem d_Mod_prepare_2 : decode b_Mod_prepare 2 = .ok (.aload_n 0, 1) := by decide +kernel
theorem d_Mod_prepare_3 : decode b_Mod_prepare 3 = .ok (.getfield 50, 3) := by decide +kernel
theorem d_Mod_prepare_6 : decode b_Mod_prepare 6 = .ok (.imul, 1) := by decide +kernel
theorem d_Mod_prepare_7 : decode b_Mod_prepare 7 = .ok (.iconst 1, 1) := by decide +kernel
theorem d_Mod_prepare_8 : decode b_Mod_prepare 8 = .ok (.iadd, 1) := by decide +kernel
theorem d_Mod_prepare_9 : decode b_Mod_prepare 9 = .ok (.putfield 53, 3) := by decide +kernel
theorem d_Mod_prepare_12 : decode b_Mod_prepare 12 = .ok (.aload_n 0, 1) := by decide +kernel
theorem d_Mod_prepare_13 : decode b_Mod_prepare 13 = .ok (.aload_n 0, 1) := by decide +kernel
theorem d_Mod_prepare_14 : decode b_Mod_prepare 14 = .ok (.getfield 16, 3) := by decide +kernel
theorem d_Mod_prepare_17 : decode b_Mod_prepare 17 = .ok (.iconst 2, 1) := by decide +kernel
theorem d_Mod_prepare_18 : decode b_Mod_prepare 18 = .ok (.aload_n 0, 1) := by decide +kernel
theorem d_Mod_prepare_19 : decode b_Mod_prepare 19 = .ok (.getfield 50, 3) := by decide +kernel
theorem d_Mod_prepare_22 : decode b_Mod_prepare 22 = .ok (.imul, 1) := by decide +kernel
theorem d_Mod_prepare_23 : decode b_Mod_prepare 23 = .ok (.iadd, 1) := by decide +kernel
theorem d_Mod_prepare_24 : decode b_Mod_prepare 24 = .ok (.aload_n 0, 1) := by decide +kernel
theorem d_Mod_prepare_25 : decode b_Mod_prepare 25 = .ok (.getfield 53, 3) := by decide +kernel
theorem d_Mod_prepare_28 : decode b_Mod_prepare 28 = .ok (.idiv, 1) := by decide +kernel
theorem d_Mod_prepare_29 : decode b_Mod_prepare 29 = .ok (.iconst 1, 1) := by decide +kernel
theorem d_Mod_prepare_30 : decode b_Mod_prepare 30 = .ok (.iadd, 1) := by decide +kernel
theorem d_Mod_prepare_31 : decode b_Mod_prepare 31 = .ok (.putfield 56, 3) := by decide +kernel
theorem d_Mod_prepare_34 : decode b_Mod_prepare 34 = .ok (.aload_n 0, 1) := by decide +kernel
theorem d_Mod_prepare_35 : decode b_Mod_prepare 35 = .ok (.iconst 0, 1) := by decide +kernel
theorem d_Mod_prepare_36 : decode b_Mod_prepare 36 = .ok (.aload_n 0, 1) := by decide +kernel
theorem d_Mod_prepare_37 : decode b_Mod_prepare 37 = .ok (.getfield 56, 3) := by decide +kernel
theorem d_Mod_prepare_40 : decode b_Mod_prepare 40 = .ok (.invokestatic 59, 3) := by decide +kernel
theorem d_Mod_prepare_43 : decode b_Mod_prepare 43 = .ok (.putfield 63, 3) := by decide +kernel
theorem d_Mod_prepare_46 : decode b_Mod_prepare 46 = .ok (.iconst 2, 1) := by decide +kernel
theorem d_Mod_prepare_47 : decode b_Mod_prepare 47 = .ok (.aload_n 0, 1) := by decide +kernel
theorem d_Mod_prepare_48 : decode b_Mod_prepare 48 = .ok (.getfield 16, 3) := by decide +kernel
theorem d_Mod_prepare_51 : decode b_Mod_prepare 51 = .ok (.iconst 1, 1) := by decide +kernel
theorem d_Mod_prepare_52 : decode b_Mod_prepare 52 = .ok (.iadd, 1) := by decide +kernel
theorem d_Mod_prepare_53 : decode b_Mod_prepare 53 = .ok (.invokestatic 59, 3) := by decide +kernel
theorem d_Mod_prepare_56 : decode b_Mod_prepare 56 = .ok (.istore_n 1, 1) := by decide +kernel
theorem d_Mod_prepare_57 : decode b_Mod_prepare 57 = .ok (.aload_n 0, 1) := by decide +kernel
theorem d_Mod_prepare_58 : decode b_Mod_prepare 58 = .ok (.iconst 2, 1) := by decide +kernel
theorem d_Mod_prepare_59 : decode b_Mod_prepare 59 = .ok (.iload_n 1, 1) := by decide +kernel
theorem d_Mod_prepare_60 : decode b_Mod_prepare 60 = .ok (.bipush 8, 2) := by decide +kernel
theorem d_Mod_prepare_62 : decode b_Mod_prepare 62 = .ok (.iload_n 1, 1) := by decide +kernel
theorem d_Mod_prepare_63 : decode b_Mod_prepare 63 = .ok (.invokestatic 66, 3) := by decide +kernel
theorem d_Mod_prepare_66 : decode b_Mod_prepare 66 = .ok (.iadd, 1) := by decide +kernel
theorem d_Mod_prepare_67 : decode b_Mod_prepare 67 = .ok (.imul, 1) := by decide +kernel
theorem d_Mod_prepare_68 : decode b_Mod_prepare 68 = .ok (.putfield 69, 3) := by decide +kernel
theorem d_Mod_prepare_71 : decode b_Mod_prepare 71 = .ok (.aload_n 0, 1) := by decide +kernel
theorem d_Mod_prepare_72 : decode b_Mod_prepare 72 = .ok (.getfield 16, 3) := by decide +kernel
theorem d_Mod_prepare_75 : decode b_Mod_prepare 75 = .ok (.sipush 128, 3) := by decide +kernel
theorem d_Mod_prepare_78 : decode b_Mod_prepare 78 = .ok (.if_icmp .lt 93, 3) := by decide +kernel
theorem d_Mod_prepare_81 : decode b_Mod_prepare 81 = .ok (.aload_n 0, 1) := by decide +kernel
theorem d_Mod_prepare_82 : decode b_Mod_prepare 82 = .ok (.getfield 16, 3) := by decide +kernel
theorem d_Mod_prepare_85 : decode b_Mod_prepare 85 = .ok (.sipush 128, 3) := by decide +kernel
theorem d_Mod_prepare_88 : decode b_Mod_prepare 88 = .ok (.iadd, 1) := by decide +kernel
theorem d_Mod_prepare_89 : decode b_Mod_prepare 89 = .ok (.sipush 256, 3) := by decide +kernel
theorem d_Mod_prepare_92 : decode b_Mod_prepare 92 = .ok (.idiv, 1) := by decide +kernel
theorem d_Mod_prepare_93 : decode b_Mod_prepare 93 = .ok (.istore_n 2, 1) := by decide +kernel
theorem d_Mod_prepare_94 : decode b_Mod_prepare 94 = .ok (.aload_n 0, 1) := by decide +kernel
theorem d_Mod_prepare_95 : decode b_Mod_prepare 95 = .ok (.aload_n 0, 1) := by decide +kernel
theorem d_Mod_prepare_96 : decode b_Mod_prepare 96 = .ok (.iload_n 2, 1) := by decide +kernel
theorem d_Mod_prepare_97 : decode b_Mod_prepare 97 = .ok (.iconst 2, 1) := by decide +kernel
theorem d_Mod_prepare_98 : decode b_Mod_prepare 98 = .ok (.iadd, 1) := by decide +kernel
theorem d_Mod_prepare_99 : decode b_Mod_prepare 99 = .ok (.iconst 3, 1) := by decide +kernel
theorem d_Mod_prepare_100 : decode b_Mod_prepare 100 = .ok (.aload_n 0, 1) := by decide +kernel
theorem d_Mod_prepare_101 : decode b_Mod_prepare 101 = .ok (.getfield 50, 3) := by decide +kernel
theorem d_Mod_prepare_104 : decode b_Mod_prepare 104 = .ok (.imul, 1) := by decide +kernel
theorem d_Mod_prepare_105 : decode b_Mod_prepare 105 = .ok (.iadd, 1) := by decide +kernel
theorem d_Mod_prepare_106 : decode b_Mod_prepare 106 = .ok (.aload_n 0, 1) := by decide +kernel
theorem d_Mod_prepare_107 : decode b_Mod_prepare 107 = .ok (.getfield 50, 3) := by decide +kernel
theorem d_Mod_prepare_110 : decode b_Mod_prepare 110 = .ok (.iconst 1, 1) := by decide +kernel
theorem d_Mod_prepare_111 : decode b_Mod_prepare 111 = .ok (.iadd, 1) := by decide +kernel
theorem d_Mod_prepare_112 : decode b_Mod_prepare 112 = .ok (.invokevirtual 72, 3) := by decide +kernel
theorem d_Mod_prepare_115 : decode b_Mod_prepare 115 = .ok (.putfield 75, 3) := by decide +kernel
theorem d_Mod_prepare_118 : decode b_Mod_prepare 118 = .ok (.aload_n 0, 1) := by decide +kernel
theorem d_Mod_prepare_119 : decode b_Mod_prepare 119 = .ok (.aload_n 0, 1) := by decide +kernel
theorem d_Mod_prepare_120 : decode b_Mod_prepare 120 = .ok (.iconst 4, 1) := by decide +kernel
theorem d_Mod_prepare_121 : decode b_Mod_prepare 121 = .ok (.iload_n 2, 1) := by decide +kernel
theorem d_Mod_prepare_122 : decode b_Mod_prepare 122 = .ok (.imul, 1) := by decide +kernel
theorem d_Mod_prepare_123 : decode b_Mod_prepare 123 = .ok (.iconst 3, 1) := by decide +kernel
theorem d_Mod_prepare_124 : decode b_Mod_prepare 124 = .ok (.iadd, 1) := by decide +kernel
theorem d_Mod_prepare_125 : decode b_Mod_prepare 125 = .ok (.iconst 5, 1) := by decide +kernel
theorem d_Mod_prepare_126 : decode b_Mod_prepare 126 = .ok (.aload_n 0, 1) := by decide +kernel
theorem d_Mod_prepare_127 : decode b_Mod_prepare 127 = .ok (.getfield 50, 3) := by decide +kernel
theorem d_Mod_prepare_130 : decode b_Mod_prepare 130 = .ok (.imul, 1) := by decide +kernel
theorem d_Mod_prepare_131 : decode b_Mod_prepare 131 = .ok (.iadd, 1) := by decide +kernel
theorem d_Mod_prepare_132 : decode b_Mod_prepare 132 = .ok (.aload_n 0, 1) := by decide +kernel
theorem d_Mod_prepare_133 : decode b_Mod_prepare 133 = .ok (.getfield 75, 3) := by decide +kernel
theorem d_Mod_prepare_136 : decode b_Mod_prepare 136 = .ok (.invokevirtual 72, 3) := by decide +kernel
theorem d_Mod_prepare_139 : decode b_Mod_prepare 139 = .ok (.putfield 78, 3) := by decide +kernel
theorem d_Mod_prepare_142 : decode b_Mod_prepare 142 = .ok (.aload_n 0, 1) := by decide +kernel
theorem d_Mod_prepare_143 : decode b_Mod_prepare 143 = .ok (.aload_n 0, 1) := by decide +kernel
theorem d_Mod_prepare_144 : decode b_Mod_prepare 144 = .ok (.bipush 17, 2) := by decide +kernel
theorem d_Mod_prepare_146 : decode b_Mod_prepare 146 = .ok (.iload_n 2, 1) := by decide +kernel
theorem d_Mod_prepare_147 : decode b_Mod_prepare 147 = .ok (.imul, 1) := by decide +kernel
theorem d_Mod_prepare_148 : decode b_Mod_prepare 148 = .ok (.iconst 4, 1) := by decide +kernel
theorem d_Mod_prepare_149 : decode b_Mod_prepare 149 = .ok (.iadd, 1) := by decide +kernel
theorem d_Mod_prepare_150 : decode b_Mod_prepare 150 = .ok (.bipush 7, 2) := by decide +kernel
theorem d_Mod_prepare_152 : decode b_Mod_prepare 152 = .ok (.aload_n 0, 1) := by decide +kernel
theorem d_Mod_prepare_153 : decode b_Mod_prepare 153 = .ok (.getfield 50, 3) := by decide +kernel
theorem d_Mod_prepare_156 : decode b_Mod_prepare 156 = .ok (.imul, 1) := by decide +kernel
theorem d_Mod_prepare_157 : decode b_Mod_prepare 157 = .ok (.iadd, 1) := by decide +kernel
theorem d_Mod_prepare_158 : decode b_Mod_prepare 158 = .ok (.aload_n 0, 1) := by decide +kernel
theorem d_Mod_prepare_159 : decode b_Mod_prepare 159 = .ok (.getfield 78, 3) := by decide +kernel
theorem d_Mod_prepare_162 : decode b_Mod_prepare 162 = .ok (.invokevirtual 72, 3) := by decide +kernel
theorem d_Mod_prepare_165 : decode b_Mod_prepare 165 = .ok (.putfield 81, 3) := by decide +kernel
theorem d_Mod_prepare_168 : decode b_Mod_prepare 168 = .ok (.goto 97, 3) := by decide +kernel
theorem d_Mod_prepare_171 : decode b_Mod_prepare 171 = .ok (.sipush 256, 3) := by decide +kernel
theorem d_Mod_prepare_174 : decode b_Mod_prepare 174 = .ok (.aload_n 0, 1) := by decide +kernel
theorem d_Mod_prepare_175 : decode b_Mod_prepare 175 = .ok (.getfield 16, 3) := by decide +kernel
theorem d_Mod_prepare_178 : decode b_Mod_prepare 178 = .ok (.iconst 1, 1) := by decide +kernel
theorem d_Mod_prepare_179 : decode b_Mod_prepare 179 = .ok (.iadd, 1) := by decide +kernel
theorem d_Mod_prepare_180 : decode b_Mod_prepare 180 = .ok (.idiv, 1) := by decide +kernel
theorem d_Mod_prepare_181 : decode b_Mod_prepare 181 = .ok (.istore_n 2, 1) := by decide +kernel
theorem d_Mod_prepare_182 : decode b_Mod_prepare 182 = .ok (.aload_n 0, 1) := by decide +kernel
theorem d_Mod_prepare_183 : decode b_Mod_prepare 183 = .ok (.aload_n 0, 1) := by decide +kernel
theorem d_Mod_prepare_184 : decode b_Mod_prepare 184 = .ok (.iconst 2, 1) := by decide +kernel
theorem d_Mod_prepare_185 : decode b_Mod_prepare 185 = .ok (.iconst 3, 1) := by decide +kernel
theorem d_Mod_prepare_186 : decode b_Mod_prepare 186 = .ok (.iload_n 2, 1) := by decide +kernel
theorem d_Mod_prepare_187 : decode b_Mod_prepare 187 = .ok (.idiv, 1) := by decide +kernel
theorem d_Mod_prepare_188 : decode b_Mod_prepare 188 = .ok (.iconst 3, 1) := by decide +kernel
theorem d_Mod_prepare_189 : decode b_Mod_prepare 189 = .ok (.aload_n 0, 1) := by decide +kernel
theorem d_Mod_prepare_190 : decode b_Mod_prepare 190 = .ok (.getfield 50, 3) := by decide +kernel
theorem d_Mod_prepare_193 : decode b_Mod_prepare 193 = .ok (.imul, 1) := by decide +kernel
theorem d_Mod_prepare_194 : decode b_Mod_prepare 194 = .ok (.iadd, 1) := by decide +kernel
theorem d_Mod_prepare_195 : decode b_Mod_prepare 195 = .ok (.invokestatic 66, 3) := by decide +kernel
theorem d_Mod_prepare_198 : decode b_Mod_prepare 198 = .ok (.aload_n 0, 1) := by decide +kernel
theorem d_Mod_prepare_199 : decode b_Mod_prepare 199 = .ok (.getfield 50, 3) := by decide +kernel
theorem d_Mod_prepare_202 : decode b_Mod_prepare 202 = .ok (.iconst 1, 1) := by decide +kernel
theorem d_Mod_prepare_203 : decode b_Mod_prepare 203 = .ok (.iadd, 1) := by decide +kernel
theorem d_Mod_prepare_204 : decode b_Mod_prepare 204 = .ok (.invokevirtual 72, 3) := by decide +kernel
theorem d_Mod_prepare_207 : decode b_Mod_prepare 207 = .ok (.putfield 75, 3) := by decide +kernel
theorem d_Mod_prepare_210 : decode b_Mod_prepare 210 = .ok (.aload_n 0, 1) := by decide +kernel
theorem d_Mod_prepare_211 : decode b_Mod_prepare 211 = .ok (.aload_n 0, 1) := by decide +kernel
theorem d_Mod_prepare_212 : decode b_Mod_prepare 212 = .ok (.iconst 3, 1) := by decide +kernel
theorem d_Mod_prepare_213 : decode b_Mod_prepare 213 = .ok (.bipush 7, 2) := by decide +kernel
theorem d_Mod_prepare_215 : decode b_Mod_prepare 215 = .ok (.iload_n 2, 1) := by decide +kernel
theorem d_Mod_prepare_216 : decode b_Mod_prepare 216 = .ok (.idiv, 1) := by decide +kernel
theorem d_Mod_prepare_217 : decode b_Mod_prepare 217 = .ok (.iconst 5, 1) := by decide +kernel
theorem d_Mod_prepare_218 : decode b_Mod_prepare 218 = .ok (.aload_n 0, 1) := by decide +kernel
theorem d_Mod_prepare_219 : decode b_Mod_prepare 219 = .ok (.getfield 50, 3) := by decide +kernel
theorem d_Mod_prepare_222 : decode b_Mod_prepare 222 = .ok (.imul, 1) := by decide +kernel
theorem d_Mod_prepare_223 : decode b_Mod_prepare 223 = .ok (.iadd, 1) := by decide +kernel
theorem d_Mod_prepare_224 : decode b_Mod_prepare 224 = .ok (.invokestatic 66, 3) := by decide +kernel
theorem d_Mod_prepare_227 : decode b_Mod_prepare 227 = .ok (.aload_n 0, 1) := by decide +kernel
theorem d_Mod_prepare_228 : decode b_Mod_prepare 228 = .ok (.getfield 75, 3) := by decide +kernel
theorem d_Mod_prepare_231 : decode b_Mod_prepare 231 = .ok (.invokevirtual 72, 3) := by decide +kernel
theorem d_Mod_prepare_234 : decode b_Mod_prepare 234 = .ok (.putfield 78, 3) := by decide +kernel
theorem d_Mod_prepare_237 : decode b_Mod_prepare 237 = .ok (.aload_n 0, 1) := by decide +kernel
theorem d_Mod_prepare_238 : decode b_Mod_prepare 238 = .ok (.aload_n 0, 1) := by decide +kernel
theorem d_Mod_prepare_239 : decode b_Mod_prepare 239 = .ok (.iconst 4, 1) := by decide +kernel
theorem d_Mod_prepare_240 : decode b_Mod_prepare 240 = .ok (.bipush 21, 2) := by decide +kernel
theorem d_Mod_prepare_242 : decode b_Mod_prepare 242 = .ok (.iload_n 2, 1) := by decide +kernel
theorem d_Mod_prepare_243 : decode b_Mod_prepare 243 = .ok (.idiv, 1) := by decide +kernel
theorem d_Mod_prepare_244 : decode b_Mod_prepare 244 = .ok (.bipush 7, 2) := by decide +kernel
theorem d_Mod_prepare_246 : decode b_Mod_prepare 246 = .ok (.aload_n 0, 1) := by decide +kernel
theorem d_Mod_prepare_247 : decode b_Mod_prepare 247 = .ok (.getfield 50, 3) := by decide +kernel
theorem d_Mod_prepare_250 : decode b_Mod_prepare 250 = .ok (.imul, 1) := by decide +kernel
theorem d_Mod_prepare_251 : decode b_Mod_prepare 251 = .ok (.iadd, 1) := by decide +kernel
theorem d_Mod_prepare_252 : decode b_Mod_prepare 252 = .ok (.invokestatic 66, 3) := by decide +kernel
theorem d_Mod_prepare_255 : decode b_Mod_prepare 255 = .ok (.aload_n 0, 1) := by decide +kernel
theorem d_Mod_prepare_256 : decode b_Mod_prepare 256 = .ok (.getfield 78, 3) := by decide +kernel
theorem d_Mod_prepare_259 : decode b_Mod_prepare 259 = .ok (.invokevirtual 72, 3) := by decide +kernel
theorem d_Mod_prepare_262 : decode b_Mod_prepare 262 = .ok (.putfield 81, 3) := by decide +kernel
theorem d_Mod_prepare_265 : decode b_Mod_prepare 265 = .ok (.return_, 1) := by decide +kernel
theorem d_Mod_put_0 : decode b_Mod_put 0 = .ok (.aload_n 0, 1) := by decide +kernel
theorem d_Mod_put_1 : decode b_Mod_put 1 = .ok (.iconst 2, 1) := by decide +kernel
theorem d_Mod_put_2 : decode b_Mod_put 2 = .ok (.aload_n 0, 1) := by decide +kernel
theorem d_Mod_put_3 : decode b_Mod_put 3 = .ok (.getfield 96, 3) := by decide +kernel
theorem d_Mod_put_6 : decode b_Mod_put 6 = .ok (.imul, 1) := by decide +kernel
theorem d_Mod_put_7 : decode b_Mod_put 7 = .ok (.iload_n 1, 1) := by decide +kernel
theorem d_Mod_put_8 : decode b_Mod_put 8 = .ok (.iadd, 1) := by decide +kernel
theorem d_Mod_put_9 : decode b_Mod_put 9 = .ok (.putfield 96, 3) := by decide +kernel
theorem d_Mod_put_12 : decode b_Mod_put 12 = .ok (.aload_n 0, 1) := by decide +kernel
theorem d_Mod_put_13 : decode b_Mod_put 13 = .ok (.dup, 1) := by decide +kernel
theorem d_Mod_put_14 : decode b_Mod_put 14 = .ok (.getfield 99, 3) := by decide +kernel
theorem d_Mod_put_17 : decode b_Mod_put 17 = .ok (.iconst 1, 1) := by decide +kernel
theorem d_Mod_put_18 : decode b_Mod_put 18 = .ok (.iadd, 1) := by decide +kernel
theorem d_Mod_put_19 : decode b_Mod_put 19 = .ok (.putfield 99, 3) := by decide +kernel
theorem d_Mod_put_22 : decode b_Mod_put 22 = .ok (.aload_n 0, 1) := by decide +kernel
theorem d_Mod_put_23 : decode b_Mod_put 23 = .ok (.getfield 99, 3) := by decide +kernel
theorem d_Mod_put_26 : decode b_Mod_put 26 = .ok (.bipush 8, 2) := by decide +kernel
theorem d_Mod_put_28 : decode b_Mod_put 28 = .ok (.if_icmp .ne 35, 3) := by decide +kernel
theorem d_Mod_put_31 : decode b_Mod_put 31 = .ok (.aload_n 0, 1) := by decide +kernel
theorem d_Mod_put_32 : decode b_Mod_put 32 = .ok (.aload_n 0, 1) := by decide +kernel
theorem d_Mod_put_33 : decode b_Mod_put 33 = .ok (.getfield 96, 3) := by decide +kernel
theorem d_Mod_put_36 : decode b_Mod_put 36 = .ok (.invokevirtual 102, 3) := by decide +kernel
theorem d_Mod_put_39 : decode b_Mod_put 39 = .ok (.aload_n 0, 1) := by decide +kernel
theorem d_Mod_put_40 : decode b_Mod_put 40 = .ok (.aload_n 0, 1) := by decide +kernel
theorem d_Mod_put_41 : decode b_Mod_put 41 = .ok (.getfield 96, 3) := by decide +kernel
theorem d_Mod_put_44 : decode b_Mod_put 44 = .ok (.sipush 255, 3) := by decide +kernel
theorem d_Mod_put_47 : decode b_Mod_put 47 = .ok (.if_icmp .ne 7, 3) := by decide +kernel
theorem d_Mod_put_50 : decode b_Mod_put 50 = .ok (.iconst 1, 1) := by decide +kernel
theorem d_Mod_put_51 : decode b_Mod_put 51 = .ok (.goto 4, 3) := by decide +kernel
theorem d_Mod_put_54 : decode b_Mod_put 54 = .ok (.iconst 0, 1) := by decide +kernel
theorem d_Mod_put_55 : decode b_Mod_put 55 = .ok (.putfield 99, 3) := by decide +kernel
theorem d_Mod_put_58 : decode b_Mod_put 58 = .ok (.aload_n 0, 1) := by decide +kernel
theorem d_Mod_put_59 : decode b_Mod_put 59 = .ok (.iconst 0, 1) := by decide +kernel
theorem d_Mod_put_60 : decode b_Mod_put 60 = .ok (.putfield 96, 3) := by decide +kernel
theorem d_Mod_put_63 : decode b_Mod_put 63 = .ok (.return_, 1) := by decide +kernel
theorem d_Mod_putBack_0 : decode b_Mod_putBack 0 = .ok (.aload_n 0, 1) := by decide +kernel
theorem d_Mod_putBack_1 : decode b_Mod_putBack 1 = .ok (.iload_n 1, 1) := by decide +kernel
theorem d_Mod_putBack_2 : decode b_Mod_putBack 2 = .ok (.putfield 7, 3) := by decide +kernel
theorem d_Mod_putBack_5 : decode b_Mod_putBack 5 = .ok (.aload_n 0, 1) := by decide +kernel
theorem d_Mod_putBack_6 : decode b_Mod_putBack 6 = .ok (.iload_n 2, 1) := by decide +kernel
theorem d_Mod_putBack_7 : decode b_Mod_putBack 7 = .ok (.putfield 13, 3) := by decide +kernel
theorem d_Mod_putBack_10 : decode b_Mod_putBack 10 = .ok (.aload_n 0, 1) := by decide +kernel
theorem d_Mod_putBack_11 : decode b_Mod_putBack 11 = .ok (.iload_n 3, 1) := by decide +kernel
theorem d_Mod_putBack_12 : decode b_Mod_putBack 12 = .ok (.putfield 16, 3) := by decide +kernel
theorem d_Mod_putBack_15 : decode b_Mod_putBack 15 = .ok (.aload_n 0, 1) := by decide +kernel
theorem d_Mod_putBack_16 : decode b_Mod_putBack 16 = .ok (.iload 4, 2) := by decide +kernel
theorem d_Mod_putBack_18 : decode b_Mod_putBack 18 = .ok (.putfield 50, 3) := by decide +kernel
theorem d_Mod_putBack_21 : decode b_Mod_putBack 21 = .ok (.aload_n 0, 1) := by decide +kernel
theorem d_Mod_putBack_22 : decode b_Mod_putBack 22 = .ok (.invokevirtual 41, 3) := by decide +kernel
theorem d_Mod_putBack_25 : decode b_Mod_putBack 25 = .ok (.aload_n 0, 1) := by decide +kernel
theorem d_Mod_putBack_26 : decode b_Mod_putBack 26 = .ok (.iload 5, 2) := by decide +kernel
theorem d_Mod_putBack_28 : decode b_Mod_putBack 28 = .ok (.putfield 84, 3) := by decide +kernel
theorem d_Mod_putBack_31 : decode b_Mod_putBack 31 = .ok (.iconst 0, 1) := by decide +kernel
theorem d_Mod_putBack_32 : decode b_Mod_putBack 32 = .ok (.istore 6, 2) := by decide +kernel
theorem d_Mod_putBack_34 : decode b_Mod_putBack 34 = .ok (.iload 6, 2) := by decide +kernel
theorem d_Mod_putBack_36 : decode b_Mod_putBack 36 = .ok (.bipush 64, 2) := by decide +kernel
theorem d_Mod_putBack_38 : decode b_Mod_putBack 38 = .ok (.if_icmp .ge 37, 3) := by decide +kernel
theorem d_Mod_putBack_41 : decode b_Mod_putBack 41 = .ok (.aload_n 0, 1) := by decide +kernel
theorem d_Mod_putBack_42 : decode b_Mod_putBack 42 = .ok (.getfield 19, 3) := by decide +kernel
theorem d_Mod_putBack_45 : decode b_Mod_putBack 45 = .ok (.iload 6, 2) := by decide +kernel
theorem d_Mod_putBack_47 : decode b_Mod_putBack 47 = .ok (.aload_n 0, 1) := by decide +kernel
theorem d_Mod_putBack_48 : decode b_Mod_putBack 48 = .ok (.getfield 32, 3) := by decide +kernel
theorem d_Mod_putBack_51 : decode b_Mod_putBack 51 = .ok (.iload 6, 2) := by decide +kernel
theorem d_Mod_putBack_53 : decode b_Mod_putBack 53 = .ok (.iaload, 1) := by decide +kernel
theorem d_Mod_putBack_54 : decode b_Mod_putBack 54 = .ok (.iastore, 1) := by decide +kernel
theorem d_Mod_putBack_55 : decode b_Mod_putBack 55 = .ok (.aload_n 0, 1) := by decide +kernel
theorem d_Mod_putBack_56 : decode b_Mod_putBack 56 = .ok (.getfield 23, 3) := by decide +kernel
theorem d_Mod_putBack_59 : decode b_Mod_putBack 59 = .ok (.iload 6, 2) := by decide +kernel
theorem d_Mod_putBack_61 : decode b_Mod_putBack 61 = .ok (.aload_n 0, 1) := by decide +kernel
theorem d_Mod_putBack_62 : decode b_Mod_putBack 62 = .ok (.getfield 35, 3) := by decide +kernel
theorem d_Mod_putBack_65 : decode b_Mod_putBack 65 = .ok (.iload 6, 2) := by decide +kernel
theorem d_Mod_putBack_67 : decode b_Mod_putBack 67 = .ok (.iaload, 1) := by decide +kernel
theorem d_Mod_putBack_68 : decode b_Mod_putBack 68 = .ok (.iastore, 1) := by decide +kernel
theorem d_Mod_putBack_69 : decode b_Mod_putBack 69 = .ok (.iinc 6 1, 3) := by decide +kernel
theorem d_Mod_putBack_72 : decode b_Mod_putBack 72 = .ok (.goto (-38), 3) := by decide +kernel
theorem d_Mod_putBack_75 : decode b_Mod_putBack 75 = .ok (.iconst 0, 1) := by decide +kernel
theorem d_Mod_putBack_76 : decode b_Mod_putBack 76 = .ok (.istore 6, 2) := by decide +kernel
theorem d_Mod_putBack_78 : decode b_Mod_putBack 78 = .ok (.iload 6, 2) := by decide +kernel
theorem d_Mod_putBack_80 : decode b_Mod_putBack 80 = .ok (.sipush 1835, 3) := by decide +kernel
theorem d_Mod_putBack_83 : decode b_Mod_putBack 83 = .ok (.if_icmp .ge 23, 3) := by decide +kernel
theorem d_Mod_putBack_86 : decode b_Mod_putBack 86 = .ok (.aload_n 0, 1) := by decide +kernel
theorem d_Mod_putBack_87 : decode b_Mod_putBack 87 = .ok (.getfield 26, 3) := by decide +kernel
theorem d_Mod_putBack_90 : decode b_Mod_putBack 90 = .ok (.iload 6, 2) := by decide +kernel
theorem d_Mod_putBack_92 : decode b_Mod_putBack 92 = .ok (.aload_n 0, 1) := by decide +kernel
theorem d_Mod_putBack_93 : decode b_Mod_putBack 93 = .ok (.getfield 38, 3) := by decide +kernel
theorem d_Mod_putBack_96 : decode b_Mod_putBack 96 = .ok (.iload 6, 2) := by decide +kernel
theorem d_Mod_putBack_98 : decode b_Mod_putBack 98 = .ok (.iaload, 1) := by decide +kernel
theorem d_Mod_putBack_99 : decode b_Mod_putBack 99 = .ok (.iastore, 1) := by decide +kernel
theorem d_Mod_putBack_100 : decode b_Mod_putBack 100 = .ok (.iinc 6 1, 3) := by decide +kernel
theorem d_Mod_putBack_103 : decode b_Mod_putBack 103 = .ok (.goto (-25), 3) := by decide +kernel
theorem d_Mod_putBack_106 : decode b_Mod_putBack 106 = .ok (.return_, 1) := by decide +kernel
theorem d_Mod_putMany_0 : decode b_Mod_putMany 0 = .ok (.iload_n 2, 1) := by decide +kernel
theorem d_Mod_putMany_1 : decode b_Mod_putMany 1 = .ok (.iconst 1, 1) := by decide +kernel
theorem d_Mod_putMany_2 : decode b_Mod_putMany 2 = .ok (.isub, 1) := by decide +kernel
theorem d_Mod_putMany_3 : decode b_Mod_putMany 3 = .ok (.istore_n 3, 1) := by decide +kernel
theorem d_Mod_putMany_4 : decode b_Mod_putMany 4 = .ok (.iload_n 3, 1) := by decide +kernel
theorem d_Mod_putMany_5 : decode b_Mod_putMany 5 = .ok (.ifCond .lt 18, 3) := by decide +kernel
theorem d_Mod_putMany_8 : decode b_Mod_putMany 8 = .ok (.aload_n 0, 1) := by decide +kernel
theorem d_Mod_putMany_9 : decode b_Mod_putMany 9 = .ok (.iload_n 1, 1) := by decide +kernel
theorem d_Mod_putMany_10 : decode b_Mod_putMany 10 = .ok (.iload_n 3, 1) := by decide +kernel
theorem d_Mod_putMany_11 : decode b_Mod_putMany 11 = .ok (.ishr, 1) := by decide +kernel
theorem d_Mod_putMany_12 : decode b_Mod_putMany 12 = .ok (.iconst 1, 1) := by decide +kernel
theorem d_Mod_putMany_13 : decode b_Mod_putMany 13 = .ok (.iand, 1) := by decide +kernel
theorem d_Mod_putMany_14 : decode b_Mod_putMany 14 = .ok (.invokevirtual 106, 3) := by decide +kernel
theorem d_Mod_putMany_17 : decode b_Mod_putMany 17 = .ok (.iinc 3 (-1), 3) := by decide +kernel
theorem d_Mod_putMany_20 : decode b_Mod_putMany 20 = .ok (.goto (-16), 3) := by decide +kernel
theorem d_Mod_putMany_23 : decode b_Mod_putMany 23 = .ok (.return_, 1) := by decide +kernel
theorem d_Mod_quantized_0 : decode b_Mod_quantized 0 = .ok (.iload_n 1, 1) := by decide +kernel
theorem d_Mod_quantized_1 : decode b_Mod_quantized 1 = .ok (.ifCond .ge 60, 3) := by decide +kernel
theorem d_Mod_quantized_4 : decode b_Mod_quantized 4 = .ok (.iload_n 1, 1) := by decide +kernel
theorem d_Mod_quantized_5 : decode b_Mod_quantized 5 = .ok (.aload_n 0, 1) := by decide +kernel
theorem d_Mod_quantized_6 : decode b_Mod_quantized 6 = .ok (.getfield 81, 3) := by decide +kernel
theorem d_Mod_quantized_9 : decode b_Mod_quantized 9 = .ok (.ineg, 1) := by decide +kernel
theorem d_Mod_quantized_10 : decode b_Mod_quantized 10 = .ok (.if_icmp .gt 8, 3) := by decide +kernel
theorem d_Mod_quantized_13 : decode b_Mod_quantized 13 = .ok (.bipush (-4), 2) := by decide +kernel
theorem d_Mod_quantized_15 : decode b_Mod_quantized 15 = .ok (.goto 45, 3) := by decide +kernel
theorem d_Mod_quantized_18 : decode b_Mod_quantized 18 = .ok (.iload_n 1, 1) := by decide +kernel
theorem d_Mod_quantized_19 : decode b_Mod_quantized 19 = .ok (.aload_n 0, 1) := by decide +kernel
theorem d_Mod_quantized_20 : decode b_Mod_quantized 20 = .ok (.getfield 78, 3) := by decide +kernel
theorem d_Mod_quantized_23 : decode b_Mod_quantized 23 = .ok (.ineg, 1) := by decide +kernel
theorem d_Mod_quantized_24 : decode b_Mod_quantized 24 = .ok (.if_icmp .gt 8, 3) := by decide +kernel
theorem d_Mod_quantized_27 : decode b_Mod_quantized 27 = .ok (.bipush (-3), 2) := by decide +kernel
theorem d_Mod_quantized_29 : decode b_Mod_quantized 29 = .ok (.goto 31, 3) := by decide +kernel
theorem d_Mod_quantized_32 : decode b_Mod_quantized 32 = .ok (.iload_n 1, 1) := by decide +kernel
theorem d_Mod_quantized_33 : decode b_Mod_quantized 33 = .ok (.aload_n 0, 1) := by decide +kernel
theorem d_Mod_quantized_34 : decode b_Mod_quantized 34 = .ok (.getfield 75, 3) := by decide +kernel
theorem d_Mod_quantized_37 : decode b_Mod_quantized 37 = .ok (.ineg, 1) := by decide +kernel
theorem d_Mod_quantized_38 : decode b_Mod_quantized 38 = .ok (.if_icmp .gt 8, 3) := by decide +kernel
theorem d_Mod_quantized_41 : decode b_Mod_quantized 41 = .ok (.bipush (-2), 2) := by decide +kernel
theorem d_Mod_quantized_43 : decode b_Mod_quantized 43 = .ok (.goto 17, 3) := by decide +kernel
theorem d_Mod_quantized_46 : decode b_Mod_quantized 46 = .ok (.iload_n 1, 1) := by decide +kernel
theorem d_Mod_quantized_47 : decode b_Mod_quantized 47 = .ok (.aload_n 0, 1) := by decide +kernel
theorem d_Mod_quantized_48 : decode b_Mod_quantized 48 = .ok (.getfield 50, 3) := by decide +kernel
theorem d_Mod_quantized_51 : decode b_Mod_quantized 51 = .ok (.ineg, 1) := by decide +kernel
theorem d_Mod_quantized_52 : decode b_Mod_quantized 52 = .ok (.if_icmp .ge 7, 3) := by decide +kernel
theorem d_Mod_quantized_55 : decode b_Mod_quantized 55 = .ok (.iconst (-1), 1) := by decide +kernel
theorem d_Mod_quantized_56 : decode b_Mod_quantized 56 = .ok (.goto 4, 3) := by decide +kernel
theorem d_Mod_quantized_59 : decode b_Mod_quantized 59 = .ok (.iconst 0, 1) := by decide +kernel
theorem d_Mod_quantized_60 : decode b_Mod_quantized 60 = .ok (.ireturn, 1) := by decide +kernel
theorem d_Mod_quantized_61 : decode b_Mod_quantized 61 = .ok (.iload_n 1, 1) := by decide +kernel
theorem d_Mod_quantized_62 : decode b_Mod_quantized 62 = .ok (.aload_n 0, 1) := by decide +kernel
theorem d_Mod_quantized_63 : decode b_Mod_quantized 63 = .ok (.getfield 50, 3) := by decide +kernel
theorem d_Mod_quantized_66 : decode b_Mod_quantized 66 = .ok (.if_icmp .gt 7, 3) := by decide +kernel
theorem d_Mod_quantized_69 : decode b_Mod_quantized 69 = .ok (.iconst 0, 1) := by decide +kernel
theorem d_Mod_quantized_70 : decode b_Mod_quantized 70 = .ok (.goto 40, 3) := by decide +kernel
theorem d_Mod_quantized_73 : decode b_Mod_quantized 73 = .ok (.iload_n 1, 1) := by decide +kernel
theorem d_Mod_quantized_74 : decode b_Mod_quantized 74 = .ok (.aload_n 0, 1) := by decide +kernel
theorem d_Mod_quantized_75 : decode b_Mod_quantized 75 = .ok (.getfield 75, 3) := by decide +kernel
theorem d_Mod_quantized_78 : decode b_Mod_quantized 78 = .ok (.if_icmp .ge 7, 3) := by decide +kernel
theorem d_Mod_quantized_81 : decode b_Mod_quantized 81 = .ok (.iconst 1, 1) := by decide +kernel
theorem d_Mod_quantized_82 : decode b_Mod_quantized 82 = .ok (.goto 28, 3) := by decide +kernel
theorem d_Mod_quantized_85 : decode b_Mod_quantized 85 = .ok (.iload_n 1, 1) := by decide +kernel
theorem d_Mod_quantized_86 : decode b_Mod_quantized 86 = .ok (.aload_n 0, 1) := by decide +kernel
theorem d_Mod_quantized_87 : decode b_Mod_quantized 87 = .ok (.getfield 78, 3) := by decide +kernel
theorem d_Mod_quantized_90 : decode b_Mod_quantized 90 = .ok (.if_icmp .ge 7, 3) := by decide +kernel
theorem d_Mod_quantized_93 : decode b_Mod_quantized 93 = .ok (.iconst 2, 1) := by decide +kernel
theorem d_Mod_quantized_94 : decode b_Mod_quantized 94 = .ok (.goto 16, 3) := by decide +kernel
theorem d_Mod_quantized_97 : decode b_Mod_quantized 97 = .ok (.iload_n 1, 1) := by decide +kernel
theorem d_Mod_quantized_98 : decode b_Mod_quantized 98 = .ok (.aload_n 0, 1) := by decide +kernel
theorem d_Mod_quantized_99 : decode b_Mod_quantized 99 = .ok (.getfield 81, 3) := by decide +kernel
theorem d_Mod_quantized_102 : decode b_Mod_quantized 102 = .ok (.if_icmp .ge 7, 3) := by decide +kernel
theorem d_Mod_quantized_105 : decode b_Mod_quantized 105 = .ok (.iconst 3, 1) := by decide +kernel
theorem d_Mod_quantized_106 : decode b_Mod_quantized 106 = .ok (.goto 4, 3) := by decide +kernel
theorem d_Mod_quantized_109 : decode b_Mod_quantized 109 = .ok (.iconst 4, 1) := by decide +kernel
theorem d_Mod_quantized_110 : decode b_Mod_quantized 110 = .ok (.ireturn, 1) := by decide +kernel
theorem d_Mod_read_0 : decode b_Mod_read 0 = .ok (.iload_n 2, 1) := by decide +kernel
theorem d_Mod_read_1 : decode b_Mod_read 1 = .ok (.aload_n 0, 1) := by decide +kernel
theorem d_Mod_read_2 : decode b_Mod_read 2 = .ok (.getfield 63, 3) := by decide +kernel
theorem d_Mod_read_5 : decode b_Mod_read 5 = .ok (.isub, 1) := by decide +kernel
theorem d_Mod_read_6 : decode b_Mod_read 6 = .ok (.iconst 1, 1) := by decide +kernel
theorem d_Mod_read_7 : decode b_Mod_read 7 = .ok (.isub, 1) := by decide +kernel
theorem d_Mod_read_8 : decode b_Mod_read 8 = .ok (.istore_n 3, 1) := by decide +kernel
theorem d_Mod_read_9 : decode b_Mod_read 9 = .ok (.iconst 0, 1) := by decide +kernel
theorem d_Mod_read_10 : decode b_Mod_read 10 = .ok (.istore 4, 2) := by decide +kernel
theorem d_Mod_read_12 : decode b_Mod_read 12 = .ok (.aload_n 0, 1) := by decide +kernel
theorem d_Mod_read_13 : decode b_Mod_read 13 = .ok (.getfield 118, 3) := by decide +kernel
theorem d_Mod_read_16 : decode b_Mod_read 16 = .ok (.ifCond .eq 27, 3) := by decide +kernel
theorem d_Mod_read_19 : decode b_Mod_read 19 = .ok (.aload_n 0, 1) := by decide +kernel
theorem d_Mod_read_20 : decode b_Mod_read 20 = .ok (.invokevirtual 122, 3) := by decide +kernel
theorem d_Mod_read_23 : decode b_Mod_read 23 = .ok (.ifCond .ne 20, 3) := by decide +kernel
theorem d_Mod_read_26 : decode b_Mod_read 26 = .ok (.iinc 4 1, 3) := by decide +kernel
theorem d_Mod_read_29 : decode b_Mod_read 29 = .ok (.iload 4, 2) := by decide +kernel
theorem d_Mod_read_31 : decode b_Mod_read 31 = .ok (.iload_n 3, 1) := by decide +kernel
theorem d_Mod_read_32 : decode b_Mod_read 32 = .ok (.if_icmp .le (-20), 3) := by decide +kernel
theorem d_Mod_read_35 : decode b_Mod_read 35 = .ok (.aload_n 0, 1) := by decide +kernel
theorem d_Mod_read_36 : decode b_Mod_read 36 = .ok (.iconst 0, 1) := by decide +kernel
theorem d_Mod_read_37 : decode b_Mod_read 37 = .ok (.putfield 118, 3) := by decide +kernel
theorem d_Mod_read_40 : decode b_Mod_read 40 = .ok (.goto (-28), 3) := by decide +kernel
theorem d_Mod_read_43 : decode b_Mod_read 43 = .ok (.iload 4, 2) := by decide +kernel
theorem d_Mod_read_45 : decode b_Mod_read 45 = .ok (.iload_n 3, 1) := by decide +kernel
theorem d_Mod_read_46 : decode b_Mod_read 46 = .ok (.if_icmp .ne 16, 3) := by decide +kernel
theorem d_Mod_read_49 : decode b_Mod_read 49 = .ok (.aload_n 0, 1) := by decide +kernel
theorem d_Mod_read_50 : decode b_Mod_read 50 = .ok (.aload_n 0, 1) := by decide +kernel
theorem d_Mod_read_51 : decode b_Mod_read 51 = .ok (.getfield 63, 3) := by decide +kernel
theorem d_Mod_read_54 : decode b_Mod_read 54 = .ok (.invokevirtual 130, 3) := by decide +kernel
theorem d_Mod_read_57 : decode b_Mod_read 57 = .ok (.iconst 1, 1) := by decide +kernel
theorem d_Mod_read_58 : decode b_Mod_read 58 = .ok (.iadd, 1) := by decide +kernel
theorem d_Mod_read_59 : decode b_Mod_read 59 = .ok (.goto 13, 3) := by decide +kernel
theorem d_Mod_read_62 : decode b_Mod_read 62 = .ok (.iload 4, 2) := by decide +kernel
theorem d_Mod_read_64 : decode b_Mod_read 64 = .ok (.iload_n 1, 1) := by decide +kernel
theorem d_Mod_read_65 : decode b_Mod_read 65 = .ok (.ishl, 1) := by decide +kernel
theorem d_Mod_read_66 : decode b_Mod_read 66 = .ok (.aload_n 0, 1) := by decide +kernel
theorem d_Mod_read_67 : decode b_Mod_read 67 = .ok (.iload_n 1, 1) := by decide +kernel
theorem d_Mod_read_68 : decode b_Mod_read 68 = .ok (.invokevirtual 130, 3) := by decide +kernel
theorem d_Mod_read_71 : decode b_Mod_read 71 = .ok (.ior, 1) := by decide +kernel
theorem d_Mod_read_72 : decode b_Mod_read 72 = .ok (.ireturn, 1) := by decide +kernel
