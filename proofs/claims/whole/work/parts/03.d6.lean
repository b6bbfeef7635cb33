theorem d_Mod_write_0 : decode b_Mod_write 0 = .ok (.iload_n 3, 1) := by decide +kernel
theorem d_Mod_write_1 : decode b_Mod_write 1 = .ok (.aload_n 0, 1) := by decide +kernel
theorem d_Mod_write_2 : decode b_Mod_write 2 = .ok (.getfield 63, 3) := by decide +kernel
theorem d_Mod_write_5 : decode b_Mod_write 5 = .ok (.isub, 1) := by decide +kernel
theorem d_Mod_write_6 : decode b_Mod_write 6 = .ok (.iconst 1, 1) := by decide +kernel
theorem d_Mod_write_7 : decode b_Mod_write 7 = .ok (.isub, 1) := by decide +kernel
theorem d_Mod_write_8 : decode b_Mod_write 8 = .ok (.istore 4, 2) := by decide +kernel
theorem d_Mod_write_10 : decode b_Mod_write 10 = .ok (.iload_n 1, 1) := by decide +kernel
theorem d_Mod_write_11 : decode b_Mod_write 11 = .ok (.iload_n 2, 1) := by decide +kernel
theorem d_Mod_write_12 : decode b_Mod_write 12 = .ok (.ishr, 1) := by decide +kernel
theorem d_Mod_write_13 : decode b_Mod_write 13 = .ok (.iload 4, 2) := by decide +kernel
theorem d_Mod_write_15 : decode b_Mod_write 15 = .ok (.if_icmp .lt 7, 3) := by decide +kernel
theorem d_Mod_write_18 : decode b_Mod_write 18 = .ok (.iconst 1, 1) := by decide +kernel
theorem d_Mod_write_19 : decode b_Mod_write 19 = .ok (.goto 4, 3) := by decide +kernel
theorem d_Mod_write_22 : decode b_Mod_write 22 = .ok (.iconst 0, 1) := by decide +kernel
theorem d_Mod_write_23 : decode b_Mod_write 23 = .ok (.istore 5, 2) := by decide +kernel
theorem d_Mod_write_25 : decode b_Mod_write 25 = .ok (.aload_n 0, 1) := by decide +kernel
theorem d_Mod_write_26 : decode b_Mod_write 26 = .ok (.iconst 0, 1) := by decide +kernel
theorem d_Mod_write_27 : decode b_Mod_write 27 = .ok (.iload 5, 2) := by decide +kernel
theorem d_Mod_write_29 : decode b_Mod_write 29 = .ok (.ifCond .eq 8, 3) := by decide +kernel
theorem d_Mod_write_32 : decode b_Mod_write 32 = .ok (.iload 4, 2) := by decide +kernel
theorem d_Mod_write_34 : decode b_Mod_write 34 = .ok (.goto 6, 3) := by decide +kernel
theorem d_Mod_write_37 : decode b_Mod_write 37 = .ok (.iload_n 1, 1) := by decide +kernel
theorem d_Mod_write_38 : decode b_Mod_write 38 = .ok (.iload_n 2, 1) := by decide +kernel
theorem d_Mod_write_39 : decode b_Mod_write 39 = .ok (.ishr, 1) := by decide +kernel
theorem d_Mod_write_40 : decode b_Mod_write 40 = .ok (.invokevirtual 126, 3) := by decide +kernel
theorem d_Mod_write_43 : decode b_Mod_write 43 = .ok (.aload_n 0, 1) := by decide +kernel
theorem d_Mod_write_44 : decode b_Mod_write 44 = .ok (.iconst 1, 1) := by decide +kernel
theorem d_Mod_write_45 : decode b_Mod_write 45 = .ok (.invokevirtual 106, 3) := by decide +kernel
theorem d_Mod_write_48 : decode b_Mod_write 48 = .ok (.iload 5, 2) := by decide +kernel
theorem d_Mod_write_50 : decode b_Mod_write 50 = .ok (.ifCond .eq 17, 3) := by decide +kernel
theorem d_Mod_write_53 : decode b_Mod_write 53 = .ok (.aload_n 0, 1) := by decide +kernel
theorem d_Mod_write_54 : decode b_Mod_write 54 = .ok (.iload_n 1, 1) := by decide +kernel
theorem d_Mod_write_55 : decode b_Mod_write 55 = .ok (.iconst 1, 1) := by decide +kernel
theorem d_Mod_write_56 : decode b_Mod_write 56 = .ok (.isub, 1) := by decide +kernel
theorem d_Mod_write_57 : decode b_Mod_write 57 = .ok (.aload_n 0, 1) := by decide +kernel
theorem d_Mod_write_58 : decode b_Mod_write 58 = .ok (.getfield 63, 3) := by decide +kernel
theorem d_Mod_write_61 : decode b_Mod_write 61 = .ok (.invokevirtual 126, 3) := by decide +kernel
theorem d_Mod_write_64 : decode b_Mod_write 64 = .ok (.goto 15, 3) := by decide +kernel
theorem d_Mod_write_67 : decode b_Mod_write 67 = .ok (.aload_n 0, 1) := by decide +kernel
theorem d_Mod_write_68 : decode b_Mod_write 68 = .ok (.iload_n 1, 1) := by decide +kernel
theorem d_Mod_write_69 : decode b_Mod_write 69 = .ok (.iconst 1, 1) := by decide +kernel
theorem d_Mod_write_70 : decode b_Mod_write 70 = .ok (.iload_n 2, 1) := by decide +kernel
theorem d_Mod_write_71 : decode b_Mod_write 71 = .ok (.ishl, 1) := by decide +kernel
theorem d_Mod_write_72 : decode b_Mod_write 72 = .ok (.iconst 1, 1) := by decide +kernel
theorem d_Mod_write_73 : decode b_Mod_write 73 = .ok (.isub, 1) := by decide +kernel
theorem d_Mod_write_74 : decode b_Mod_write 74 = .ok (.iand, 1) := by decide +kernel
theorem d_Mod_write_75 : decode b_Mod_write 75 = .ok (.iload_n 2, 1) := by decide +kernel
theorem d_Mod_write_76 : decode b_Mod_write 76 = .ok (.invokevirtual 126, 3) := by decide +kernel
theorem d_Mod_write_79 : decode b_Mod_write 79 = .ok (.return_, 1) := by decide +kernel
theorem d_Mod_writeRun_0 : decode b_Mod_writeRun 0 = .ok (.aload_n 0, 1) := by decide +kernel
theorem d_Mod_writeRun_1 : decode b_Mod_writeRun 1 = .ok (.iload_n 1, 1) := by decide +kernel
theorem d_Mod_writeRun_2 : decode b_Mod_writeRun 2 = .ok (.iload_n 2, 1) := by decide +kernel
theorem d_Mod_writeRun_3 : decode b_Mod_writeRun 3 = .ok (.invokevirtual 140, 3) := by decide +kernel
theorem d_Mod_writeRun_6 : decode b_Mod_writeRun 6 = .ok (.istore_n 3, 1) := by decide +kernel
theorem d_Mod_writeRun_7 : decode b_Mod_writeRun 7 = .ok (.iload_n 1, 1) := by decide +kernel
theorem d_Mod_writeRun_8 : decode b_Mod_writeRun 8 = .ok (.istore 4, 2) := by decide +kernel
theorem d_Mod_writeRun_10 : decode b_Mod_writeRun 10 = .ok (.iload 4, 2) := by decide +kernel
theorem d_Mod_writeRun_12 : decode b_Mod_writeRun 12 = .ok (.aload_n 0, 1) := by decide +kernel
theorem d_Mod_writeRun_13 : decode b_Mod_writeRun 13 = .ok (.getfield 7, 3) := by decide +kernel
theorem d_Mod_writeRun_16 : decode b_Mod_writeRun 16 = .ok (.if_icmp .ge 43, 3) := by decide +kernel
theorem d_Mod_writeRun_19 : decode b_Mod_writeRun 19 = .ok (.aload_n 0, 1) := by decide +kernel
theorem d_Mod_writeRun_20 : decode b_Mod_writeRun 20 = .ok (.aload_n 0, 1) := by decide +kernel
theorem d_Mod_writeRun_21 : decode b_Mod_writeRun 21 = .ok (.getfield 19, 3) := by decide +kernel
theorem d_Mod_writeRun_24 : decode b_Mod_writeRun 24 = .ok (.bipush 8, 2) := by decide +kernel
theorem d_Mod_writeRun_26 : decode b_Mod_writeRun 26 = .ok (.iload_n 2, 1) := by decide +kernel
theorem d_Mod_writeRun_27 : decode b_Mod_writeRun 27 = .ok (.imul, 1) := by decide +kernel
theorem d_Mod_writeRun_28 : decode b_Mod_writeRun 28 = .ok (.iload 4, 2) := by decide +kernel
theorem d_Mod_writeRun_30 : decode b_Mod_writeRun 30 = .ok (.iadd, 1) := by decide +kernel
theorem d_Mod_writeRun_31 : decode b_Mod_writeRun 31 = .ok (.iaload, 1) := by decide +kernel
theorem d_Mod_writeRun_32 : decode b_Mod_writeRun 32 = .ok (.iload_n 3, 1) := by decide +kernel
theorem d_Mod_writeRun_33 : decode b_Mod_writeRun 33 = .ok (.isub, 1) := by decide +kernel
theorem d_Mod_writeRun_34 : decode b_Mod_writeRun 34 = .ok (.invokevirtual 191, 3) := by decide +kernel
theorem d_Mod_writeRun_37 : decode b_Mod_writeRun 37 = .ok (.ifCond .eq 22, 3) := by decide +kernel
theorem d_Mod_writeRun_40 : decode b_Mod_writeRun 40 = .ok (.aload_n 0, 1) := by decide +kernel
theorem d_Mod_writeRun_41 : decode b_Mod_writeRun 41 = .ok (.getfield 23, 3) := by decide +kernel
theorem d_Mod_writeRun_44 : decode b_Mod_writeRun 44 = .ok (.bipush 8, 2) := by decide +kernel
theorem d_Mod_writeRun_46 : decode b_Mod_writeRun 46 = .ok (.iload_n 2, 1) := by decide +kernel
theorem d_Mod_writeRun_47 : decode b_Mod_writeRun 47 = .ok (.imul, 1) := by decide +kernel
theorem d_Mod_writeRun_48 : decode b_Mod_writeRun 48 = .ok (.iload 4, 2) := by decide +kernel
theorem d_Mod_writeRun_50 : decode b_Mod_writeRun 50 = .ok (.iadd, 1) := by decide +kernel
theorem d_Mod_writeRun_51 : decode b_Mod_writeRun 51 = .ok (.iload_n 3, 1) := by decide +kernel
theorem d_Mod_writeRun_52 : decode b_Mod_writeRun 52 = .ok (.iastore, 1) := by decide +kernel
theorem d_Mod_writeRun_53 : decode b_Mod_writeRun 53 = .ok (.iinc 4 1, 3) := by decide +kernel
theorem d_Mod_writeRun_56 : decode b_Mod_writeRun 56 = .ok (.goto (-46), 3) := by decide +kernel
theorem d_Mod_writeRun_59 : decode b_Mod_writeRun 59 = .ok (.iload 4, 2) := by decide +kernel
theorem d_Mod_writeRun_61 : decode b_Mod_writeRun 61 = .ok (.iload_n 1, 1) := by decide +kernel
theorem d_Mod_writeRun_62 : decode b_Mod_writeRun 62 = .ok (.isub, 1) := by decide +kernel
theorem d_Mod_writeRun_63 : decode b_Mod_writeRun 63 = .ok (.istore 5, 2) := by decide +kernel
theorem d_Mod_writeRun_65 : decode b_Mod_writeRun 65 = .ok (.iload 5, 2) := by decide +kernel
theorem d_Mod_writeRun_67 : decode b_Mod_writeRun 67 = .ok (.iconst 1, 1) := by decide +kernel
theorem d_Mod_writeRun_68 : decode b_Mod_writeRun 68 = .ok (.aload_n 0, 1) := by decide +kernel
theorem d_Mod_writeRun_69 : decode b_Mod_writeRun 69 = .ok (.aload_n 0, 1) := by decide +kernel
theorem d_Mod_writeRun_70 : decode b_Mod_writeRun 70 = .ok (.getfield 84, 3) := by decide +kernel
theorem d_Mod_writeRun_73 : decode b_Mod_writeRun 73 = .ok (.invokevirtual 195, 3) := by decide +kernel
theorem d_Mod_writeRun_76 : decode b_Mod_writeRun 76 = .ok (.ishl, 1) := by decide +kernel
theorem d_Mod_writeRun_77 : decode b_Mod_writeRun 77 = .ok (.if_icmp .lt 50, 3) := by decide +kernel
theorem d_Mod_writeRun_80 : decode b_Mod_writeRun 80 = .ok (.aload_n 0, 1) := by decide +kernel
theorem d_Mod_writeRun_81 : decode b_Mod_writeRun 81 = .ok (.iconst 1, 1) := by decide +kernel
theorem d_Mod_writeRun_82 : decode b_Mod_writeRun 82 = .ok (.invokevirtual 106, 3) := by decide +kernel
theorem d_Mod_writeRun_85 : decode b_Mod_writeRun 85 = .ok (.iload 5, 2) := by decide +kernel
theorem d_Mod_writeRun_87 : decode b_Mod_writeRun 87 = .ok (.iconst 1, 1) := by decide +kernel
theorem d_Mod_writeRun_88 : decode b_Mod_writeRun 88 = .ok (.aload_n 0, 1) := by decide +kernel
theorem d_Mod_writeRun_89 : decode b_Mod_writeRun 89 = .ok (.aload_n 0, 1) := by decide +kernel
theorem d_Mod_writeRun_90 : decode b_Mod_writeRun 90 = .ok (.getfield 84, 3) := by decide +kernel
theorem d_Mod_writeRun_93 : decode b_Mod_writeRun 93 = .ok (.invokevirtual 195, 3) := by decide +kernel
theorem d_Mod_writeRun_96 : decode b_Mod_writeRun 96 = .ok (.ishl, 1) := by decide +kernel
theorem d_Mod_writeRun_97 : decode b_Mod_writeRun 97 = .ok (.isub, 1) := by decide +kernel
theorem d_Mod_writeRun_98 : decode b_Mod_writeRun 98 = .ok (.istore 5, 2) := by decide +kernel
theorem d_Mod_writeRun_100 : decode b_Mod_writeRun 100 = .ok (.aload_n 0, 1) := by decide +kernel
theorem d_Mod_writeRun_101 : decode b_Mod_writeRun 101 = .ok (.aload_n 0, 1) := by decide +kernel
theorem d_Mod_writeRun_102 : decode b_Mod_writeRun 102 = .ok (.getfield 84, 3) := by decide +kernel
theorem d_Mod_writeRun_105 : decode b_Mod_writeRun 105 = .ok (.bipush 31, 2) := by decide +kernel
theorem d_Mod_writeRun_107 : decode b_Mod_writeRun 107 = .ok (.if_icmp .ge 12, 3) := by decide +kernel
theorem d_Mod_writeRun_110 : decode b_Mod_writeRun 110 = .ok (.aload_n 0, 1) := by decide +kernel
theorem d_Mod_writeRun_111 : decode b_Mod_writeRun 111 = .ok (.getfield 84, 3) := by decide +kernel
theorem d_Mod_writeRun_114 : decode b_Mod_writeRun 114 = .ok (.iconst 1, 1) := by decide +kernel
theorem d_Mod_writeRun_115 : decode b_Mod_writeRun 115 = .ok (.iadd, 1) := by decide +kernel
theorem d_Mod_writeRun_116 : decode b_Mod_writeRun 116 = .ok (.goto 5, 3) := by decide +kernel
theorem d_Mod_writeRun_119 : decode b_Mod_writeRun 119 = .ok (.bipush 31, 2) := by decide +kernel
theorem d_Mod_writeRun_121 : decode b_Mod_writeRun 121 = .ok (.putfield 84, 3) := by decide +kernel
theorem d_Mod_writeRun_124 : decode b_Mod_writeRun 124 = .ok (.goto (-59), 3) := by decide +kernel
theorem d_Mod_writeRun_127 : decode b_Mod_writeRun 127 = .ok (.iload 4, 2) := by decide +kernel
theorem d_Mod_writeRun_129 : decode b_Mod_writeRun 129 = .ok (.aload_n 0, 1) := by decide +kernel
theorem d_Mod_writeRun_130 : decode b_Mod_writeRun 130 = .ok (.getfield 7, 3) := by decide +kernel
theorem d_Mod_writeRun_133 : decode b_Mod_writeRun 133 = .ok (.if_icmp .ne 16, 3) := by decide +kernel
theorem d_Mod_writeRun_136 : decode b_Mod_writeRun 136 = .ok (.iload 5, 2) := by decide +kernel
theorem d_Mod_writeRun_138 : decode b_Mod_writeRun 138 = .ok (.ifCond .le 8, 3) := by decide +kernel
theorem d_Mod_writeRun_141 : decode b_Mod_writeRun 141 = .ok (.aload_n 0, 1) := by decide +kernel
theorem d_Mod_writeRun_142 : decode b_Mod_writeRun 142 = .ok (.iconst 1, 1) := by decide +kernel
theorem d_Mod_writeRun_143 : decode b_Mod_writeRun 143 = .ok (.invokevirtual 106, 3) := by decide +kernel
theorem d_Mod_writeRun_146 : decode b_Mod_writeRun 146 = .ok (.iload 4, 2) := by decide +kernel
theorem d_Mod_writeRun_148 : decode b_Mod_writeRun 148 = .ok (.ireturn, 1) := by decide +kernel
theorem d_Mod_writeRun_149 : decode b_Mod_writeRun 149 = .ok (.aload_n 0, 1) := by decide +kernel
theorem d_Mod_writeRun_150 : decode b_Mod_writeRun 150 = .ok (.iconst 0, 1) := by decide +kernel
theorem d_Mod_writeRun_151 : decode b_Mod_writeRun 151 = .ok (.invokevirtual 106, 3) := by decide +kernel
theorem d_Mod_writeRun_154 : decode b_Mod_writeRun 154 = .ok (.aload_n 0, 1) := by decide +kernel
theorem d_Mod_writeRun_155 : decode b_Mod_writeRun 155 = .ok (.iload 5, 2) := by decide +kernel
theorem d_Mod_writeRun_157 : decode b_Mod_writeRun 157 = .ok (.aload_n 0, 1) := by decide +kernel
theorem d_Mod_writeRun_158 : decode b_Mod_writeRun 158 = .ok (.aload_n 0, 1) := by decide +kernel
theorem d_Mod_writeRun_159 : decode b_Mod_writeRun 159 = .ok (.getfield 84, 3) := by decide +kernel
theorem d_Mod_writeRun_162 : decode b_Mod_writeRun 162 = .ok (.invokevirtual 195, 3) := by decide +kernel
theorem d_Mod_writeRun_165 : decode b_Mod_writeRun 165 = .ok (.invokevirtual 126, 3) := by decide +kernel
theorem d_Mod_writeRun_168 : decode b_Mod_writeRun 168 = .ok (.aload_n 0, 1) := by decide +kernel
theorem d_Mod_writeRun_169 : decode b_Mod_writeRun 169 = .ok (.iload 4, 2) := by decide +kernel
theorem d_Mod_writeRun_171 : decode b_Mod_writeRun 171 = .ok (.iload_n 2, 1) := by decide +kernel
theorem d_Mod_writeRun_172 : decode b_Mod_writeRun 172 = .ok (.aload_n 0, 1) := by decide +kernel
theorem d_Mod_writeRun_173 : decode b_Mod_writeRun 173 = .ok (.aload_n 0, 1) := by decide +kernel
theorem d_Mod_writeRun_174 : decode b_Mod_writeRun 174 = .ok (.getfield 84, 3) := by decide +kernel
theorem d_Mod_writeRun_177 : decode b_Mod_writeRun 177 = .ok (.invokevirtual 195, 3) := by decide +kernel
theorem d_Mod_writeRun_180 : decode b_Mod_writeRun 180 = .ok (.invokevirtual 198, 3) := by decide +kernel
theorem d_Mod_writeRun_183 : decode b_Mod_writeRun 183 = .ok (.iload 4, 2) := by decide +kernel
theorem d_Mod_writeRun_185 : decode b_Mod_writeRun 185 = .ok (.iconst 1, 1) := by decide +kernel
theorem d_Mod_writeRun_186 : decode b_Mod_writeRun 186 = .ok (.iadd, 1) := by decide +kernel
theorem d_Mod_writeRun_187 : decode b_Mod_writeRun 187 = .ok (.ireturn, 1) := by decide +kernel
theorem d_Pas_foretoldByNeighbours_0 : decode b_Pas_foretoldByNeighbours 0 = .ok (.aload_n 0, 1) := by decide +kernel
theorem d_Pas_foretoldByNeighbours_1 : decode b_Pas_foretoldByNeighbours 1 = .ok (.getfield 59, 3) := by decide +kernel
theorem d_Pas_foretoldByNeighbours_4 : decode b_Pas_foretoldByNeighbours 4 = .ok (.aload_n 0, 1) := by decide +kernel
theorem d_Pas_foretoldByNeighbours_5 : decode b_Pas_foretoldByNeighbours 5 = .ok (.getfield 68, 3) := by decide +kernel
theorem d_Pas_foretoldByNeighbours_8 : decode b_Pas_foretoldByNeighbours 8 = .ok (.invokestatic 128, 3) := by decide +kernel
theorem d_Pas_foretoldByNeighbours_11 : decode b_Pas_foretoldByNeighbours 11 = .ok (.istore_n 1, 1) := by decide +kernel
theorem d_Pas_foretoldByNeighbours_12 : decode b_Pas_foretoldByNeighbours 12 = .ok (.aload_n 0, 1) := by decide +kernel
theorem d_Pas_foretoldByNeighbours_13 : decode b_Pas_foretoldByNeighbours 13 = .ok (.getfield 59, 3) := by decide +kernel
theorem d_Pas_foretoldByNeighbours_16 : decode b_Pas_foretoldByNeighbours 16 = .ok (.aload_n 0, 1) := by decide +kernel
theorem d_Pas_foretoldByNeighbours_17 : decode b_Pas_foretoldByNeighbours 17 = .ok (.getfield 68, 3) := by decide +kernel
theorem d_Pas_foretoldByNeighbours_20 : decode b_Pas_foretoldByNeighbours 20 = .ok (.invokestatic 131, 3) := by decide +kernel
theorem d_Pas_foretoldByNeighbours_23 : decode b_Pas_foretoldByNeighbours 23 = .ok (.istore_n 2, 1) := by decide +kernel
theorem d_Pas_foretoldByNeighbours_24 : decode b_Pas_foretoldByNeighbours 24 = .ok (.aload_n 0, 1) := by decide +kernel
theorem d_Pas_foretoldByNeighbours_25 : decode b_Pas_foretoldByNeighbours 25 = .ok (.getfield 71, 3) := by decide +kernel
theorem d_Pas_foretoldByNeighbours_28 : decode b_Pas_foretoldByNeighbours 28 = .ok (.iload_n 2, 1) := by decide +kernel
theorem d_Pas_foretoldByNeighbours_29 : decode b_Pas_foretoldByNeighbours 29 = .ok (.if_icmp .lt 5, 3) := by decide +kernel
theorem d_Pas_foretoldByNeighbours_32 : decode b_Pas_foretoldByNeighbours 32 = .ok (.iload_n 1, 1) := by decide +kernel
theorem d_Pas_foretoldByNeighbours_33 : decode b_Pas_foretoldByNeighbours 33 = .ok (.ireturn, 1) := by decide +kernel
theorem d_Pas_foretoldByNeighbours_34 : decode b_Pas_foretoldByNeighbours 34 = .ok (.aload_n 0, 1) := by decide +kernel
theorem d_Pas_foretoldByNeighbours_35 : decode b_Pas_foretoldByNeighbours 35 = .ok (.getfield 71, 3) := by decide +kernel
theorem d_Pas_foretoldByNeighbours_38 : decode b_Pas_foretoldByNeighbours 38 = .ok (.iload_n 1, 1) := by decide +kernel
theorem d_Pas_foretoldByNeighbours_39 : decode b_Pas_foretoldByNeighbours 39 = .ok (.if_icmp .gt 7, 3) := by decide +kernel
theorem d_Pas_foretoldByNeighbours_42 : decode b_Pas_foretoldByNeighbours 42 = .ok (.iload_n 2, 1) := by decide +kernel
theorem d_Pas_foretoldByNeighbours_43 : decode b_Pas_foretoldByNeighbours 43 = .ok (.goto 17, 3) := by decide +kernel
theorem d_Pas_foretoldByNeighbours_46 : decode b_Pas_foretoldByNeighbours 46 = .ok (.aload_n 0, 1) := by decide +kernel
theorem d_Pas_foretoldByNeighbours_47 : decode b_Pas_foretoldByNeighbours 47 = .ok (.getfield 59, 3) := by decide +kernel
theorem d_Pas_foretoldByNeighbours_50 : decode b_Pas_foretoldByNeighbours 50 = .ok (.aload_n 0, 1) := by decide +kernel
theorem d_Pas_foretoldByNeighbours_51 : decode b_Pas_foretoldByNeighbours 51 = .ok (.getfield 68, 3) := by decide +kernel
theorem d_Pas_foretoldByNeighbours_54 : decode b_Pas_foretoldByNeighbours 54 = .ok (.iadd, 1) := by decide +kernel
theorem d_Pas_foretoldByNeighbours_55 : decode b_Pas_foretoldByNeighbours 55 = .ok (.aload_n 0, 1) := by decide +kernel
theorem d_Pas_foretoldByNeighbours_56 : decode b_Pas_foretoldByNeighbours 56 = .ok (.getfield 71, 3) := by decide +kernel
theorem d_Pas_foretoldByNeighbours_59 : decode b_Pas_foretoldByNeighbours 59 = .ok (.isub, 1) := by decide +kernel
theorem d_Pas_foretoldByNeighbours_60 : decode b_Pas_foretoldByNeighbours 60 = .ok (.ireturn, 1) := by decide +kernel
theorem d_Pas_init_0 : decode b_Pas_init 0 = .ok (.aload_n 0, 1) := by decide +kernel
theorem d_Pas_init_1 : decode b_Pas_init 1 = .ok (.invokespecial 1, 3) := by decide +kernel
theorem d_Pas_init_4 : decode b_Pas_init 4 = .ok (.aload_n 0, 1) := by decide +kernel
theorem d_Pas_init_5 : decode b_Pas_init 5 = .ok (.new 7, 3) := by decide +kernel
theorem d_Pas_init_8 : decode b_Pas_init 8 = .ok (.dup, 1) := by decide +kernel
theorem d_Pas_init_9 : decode b_Pas_init 9 = .ok (.invokespecial 9, 3) := by decide +kernel
theorem d_Pas_init_12 : decode b_Pas_init 12 = .ok (.putfield 10, 3) := by decide +kernel
theorem d_Pas_init_15 : decode b_Pas_init 15 = .ok (.aload_n 0, 1) := by decide +kernel
theorem d_Pas_init_16 : decode b_Pas_init 16 = .ok (.new 16, 3) := by decide +kernel
theorem d_Pas_init_19 : decode b_Pas_init 19 = .ok (.dup, 1) := by decide +kernel
theorem d_Pas_init_20 : decode b_Pas_init 20 = .ok (.invokespecial 18, 3) := by decide +kernel
theorem d_Pas_init_23 : decode b_Pas_init 23 = .ok (.putfield 19, 3) := by decide +kernel
theorem d_Pas_init_26 : decode b_Pas_init 26 = .ok (.aload_n 0, 1) := by decide +kernel
theorem d_Pas_init_27 : decode b_Pas_init 27 = .ok (.bipush 64, 2) := by decide +kernel
theorem d_Pas_init_29 : decode b_Pas_init 29 = .ok (.newarray .int, 2) := by decide +kernel
theorem d_Pas_init_31 : decode b_Pas_init 31 = .ok (.putfield 23, 3) := by decide +kernel
theorem d_Pas_init_34 : decode b_Pas_init 34 = .ok (.return_, 1) := by decide +kernel
theorem d_Pas_isEven_0 : decode b_Pas_isEven 0 = .ok (.aload_n 0, 1) := by decide +kernel
theorem d_Pas_isEven_1 : decode b_Pas_isEven 1 = .ok (.getfield 10, 3) := by decide +kernel
theorem d_Pas_isEven_4 : decode b_Pas_isEven 4 = .ok (.aload_n 0, 1) := by decide +kernel
theorem d_Pas_isEven_5 : decode b_Pas_isEven 5 = .ok (.getfield 68, 3) := by decide +kernel
theorem d_Pas_isEven_8 : decode b_Pas_isEven 8 = .ok (.aload_n 0, 1) := by decide +kernel
theorem d_Pas_isEven_9 : decode b_Pas_isEven 9 = .ok (.getfield 74, 3) := by decide +kernel
theorem d_Pas_isEven_12 : decode b_Pas_isEven 12 = .ok (.isub, 1) := by decide +kernel
theorem d_Pas_isEven_13 : decode b_Pas_isEven 13 = .ok (.invokevirtual 77, 3) := by decide +kernel
theorem d_Pas_isEven_16 : decode b_Pas_isEven 16 = .ok (.ifCond .eq 45, 3) := by decide +kernel
theorem d_Pas_isEven_19 : decode b_Pas_isEven 19 = .ok (.aload_n 0, 1) := by decide +kernel
theorem d_Pas_isEven_20 : decode b_Pas_isEven 20 = .ok (.getfield 10, 3) := by decide +kernel
theorem d_Pas_isEven_23 : decode b_Pas_isEven 23 = .ok (.aload_n 0, 1) := by decide +kernel
theorem d_Pas_isEven_24 : decode b_Pas_isEven 24 = .ok (.getfield 71, 3) := by decide +kernel
theorem d_Pas_isEven_27 : decode b_Pas_isEven 27 = .ok (.aload_n 0, 1) := by decide +kernel
theorem d_Pas_isEven_28 : decode b_Pas_isEven 28 = .ok (.getfield 68, 3) := by decide +kernel
theorem d_Pas_isEven_31 : decode b_Pas_isEven 31 = .ok (.isub, 1) := by decide +kernel
theorem d_Pas_isEven_32 : decode b_Pas_isEven 32 = .ok (.invokevirtual 77, 3) := by decide +kernel
theorem d_Pas_isEven_35 : decode b_Pas_isEven 35 = .ok (.ifCond .eq 26, 3) := by decide +kernel
theorem d_Pas_isEven_38 : decode b_Pas_isEven 38 = .ok (.aload_n 0, 1) := by decide +kernel
theorem d_Pas_isEven_39 : decode b_Pas_isEven 39 = .ok (.getfield 10, 3) := by decide +kernel
theorem d_Pas_isEven_42 : decode b_Pas_isEven 42 = .ok (.aload_n 0, 1) := by decide +kernel
theorem d_Pas_isEven_43 : decode b_Pas_isEven 43 = .ok (.getfield 59, 3) := by decide +kernel
theorem d_Pas_isEven_46 : decode b_Pas_isEven 46 = .ok (.aload_n 0, 1) := by decide +kernel
theorem d_Pas_isEven_47 : decode b_Pas_isEven 47 = .ok (.getfield 71, 3) := by decide +kernel
theorem d_Pas_isEven_50 : decode b_Pas_isEven 50 = .ok (.isub, 1) := by decide +kernel
theorem d_Pas_isEven_51 : decode b_Pas_isEven 51 = .ok (.invokevirtual 77, 3) := by decide +kernel
theorem d_Pas_isEven_54 : decode b_Pas_isEven 54 = .ok (.ifCond .eq 7, 3) := by decide +kernel
theorem d_Pas_isEven_57 : decode b_Pas_isEven 57 = .ok (.iconst 1, 1) := by decide +kernel
theorem d_Pas_isEven_58 : decode b_Pas_isEven 58 = .ok (.goto 4, 3) := by decide +kernel
theorem d_Pas_isEven_61 : decode b_Pas_isEven 61 = .ok (.iconst 0, 1) := by decide +kernel
theorem d_Pas_isEven_62 : decode b_Pas_isEven 62 = .ok (.ireturn, 1) := by decide +kernel
theorem d_Pas_limitOfEnd_0 : decode b_Pas_limitOfEnd 0 = .ok (.aload_n 0, 1) := by decide +kernel
theorem d_Pas_limitOfEnd_1 : decode b_Pas_limitOfEnd 1 = .ok (.getfield 10, 3) := by decide +kernel
theorem d_Pas_limitOfEnd_4 : decode b_Pas_limitOfEnd 4 = .ok (.getfield 155, 3) := by decide +kernel
theorem d_Pas_limitOfEnd_7 : decode b_Pas_limitOfEnd 7 = .ok (.aload_n 0, 1) := by decide +kernel
theorem d_Pas_limitOfEnd_8 : decode b_Pas_limitOfEnd 8 = .ok (.getfield 19, 3) := by decide +kernel
theorem d_Pas_limitOfEnd_11 : decode b_Pas_limitOfEnd 11 = .ok (.invokevirtual 158, 3) := by decide +kernel
theorem d_Pas_limitOfEnd_14 : decode b_Pas_limitOfEnd 14 = .ok (.isub, 1) := by decide +kernel
theorem d_Pas_limitOfEnd_15 : decode b_Pas_limitOfEnd 15 = .ok (.iconst 1, 1) := by decide +kernel
theorem d_Pas_limitOfEnd_16 : decode b_Pas_limitOfEnd 16 = .ok (.isub, 1) := by decide +kernel
theorem d_Pas_limitOfEnd_17 : decode b_Pas_limitOfEnd 17 = .ok (.ireturn, 1) := by decide +kernel
theorem d_Pas_lookAround_0 : decode b_Pas_lookAround 0 = .ok (.aload_n 0, 1) := by decide +kernel
theorem d_Pas_lookAround_1 : decode b_Pas_lookAround 1 = .ok (.aload_n 0, 1) := by decide +kernel
theorem d_Pas_lookAround_2 : decode b_Pas_lookAround 2 = .ok (.iload_n 1, 1) := by decide +kernel
theorem d_Pas_lookAround_3 : decode b_Pas_lookAround 3 = .ok (.iload_n 2, 1) := by decide +kernel
theorem d_Pas_lookAround_4 : decode b_Pas_lookAround 4 = .ok (.iconst 1, 1) := by decide +kernel
theorem d_Pas_lookAround_5 : decode b_Pas_lookAround 5 = .ok (.isub, 1) := by decide +kernel
theorem d_Pas_lookAround_6 : decode b_Pas_lookAround 6 = .ok (.invokevirtual 65, 3) := by decide +kernel
theorem d_Pas_lookAround_9 : decode b_Pas_lookAround 9 = .ok (.putfield 68, 3) := by decide +kernel
theorem d_Pas_lookAround_12 : decode b_Pas_lookAround 12 = .ok (.aload_n 0, 1) := by decide +kernel
theorem d_Pas_lookAround_13 : decode b_Pas_lookAround 13 = .ok (.iload_n 1, 1) := by decide +kernel
theorem d_Pas_lookAround_14 : decode b_Pas_lookAround 14 = .ok (.ifCond .le 14, 3) := by decide +kernel
theorem d_Pas_lookAround_17 : decode b_Pas_lookAround 17 = .ok (.aload_n 0, 1) := by decide +kernel
theorem d_Pas_lookAround_18 : decode b_Pas_lookAround 18 = .ok (.iload_n 1, 1) := by decide +kernel
theorem d_Pas_lookAround_19 : decode b_Pas_lookAround 19 = .ok (.iconst 1, 1) := by decide +kernel
theorem d_Pas_lookAround_20 : decode b_Pas_lookAround 20 = .ok (.isub, 1) := by decide +kernel
theorem d_Pas_lookAround_21 : decode b_Pas_lookAround 21 = .ok (.iload_n 2, 1) := by decide +kernel
theorem d_Pas_lookAround_22 : decode b_Pas_lookAround 22 = .ok (.invokevirtual 65, 3) := by decide +kernel
theorem d_Pas_lookAround_25 : decode b_Pas_lookAround 25 = .ok (.goto 7, 3) := by decide +kernel
theorem d_Pas_lookAround_28 : decode b_Pas_lookAround 28 = .ok (.aload_n 0, 1) := by decide +kernel
theorem d_Pas_lookAround_29 : decode b_Pas_lookAround 29 = .ok (.getfield 68, 3) := by decide +kernel
theorem d_Pas_lookAround_32 : decode b_Pas_lookAround 32 = .ok (.putfield 59, 3) := by decide +kernel
theorem d_Pas_lookAround_35 : decode b_Pas_lookAround 35 = .ok (.aload_n 0, 1) := by decide +kernel
theorem d_Pas_lookAround_36 : decode b_Pas_lookAround 36 = .ok (.iload_n 1, 1) := by decide +kernel
theorem d_Pas_lookAround_37 : decode b_Pas_lookAround 37 = .ok (.ifCond .le 16, 3) := by decide +kernel
theorem d_Pas_lookAround_40 : decode b_Pas_lookAround 40 = .ok (.aload_n 0, 1) := by decide +kernel
theorem d_Pas_lookAround_41 : decode b_Pas_lookAround 41 = .ok (.iload_n 1, 1) := by decide +kernel
theorem d_Pas_lookAround_42 : decode b_Pas_lookAround 42 = .ok (.iconst 1, 1) := by decide +kernel
theorem d_Pas_lookAround_43 : decode b_Pas_lookAround 43 = .ok (.isub, 1) := by decide +kernel
theorem d_Pas_lookAround_44 : decode b_Pas_lookAround 44 = .ok (.iload_n 2, 1) := by decide +kernel
theorem d_Pas_lookAround_45 : decode b_Pas_lookAround 45 = .ok (.iconst 1, 1) := by decide +kernel
theorem d_Pas_lookAround_46 : decode b_Pas_lookAround 46 = .ok (.isub, 1) := by decide +kernel
theorem d_Pas_lookAround_47 : decode b_Pas_lookAround 47 = .ok (.invokevirtual 65, 3) := by decide +kernel
theorem d_Pas_lookAround_50 : decode b_Pas_lookAround 50 = .ok (.goto 11, 3) := by decide +kernel
theorem d_Pas_lookAround_53 : decode b_Pas_lookAround 53 = .ok (.aload_n 0, 1) := by decide +kernel
theorem d_Pas_lookAround_54 : decode b_Pas_lookAround 54 = .ok (.iload_n 1, 1) := by decide +kernel
theorem d_Pas_lookAround_55 : decode b_Pas_lookAround 55 = .ok (.iload_n 2, 1) := by decide +kernel
theorem d_Pas_lookAround_56 : decode b_Pas_lookAround 56 = .ok (.iconst 2, 1) := by decide +kernel
theorem d_Pas_lookAround_57 : decode b_Pas_lookAround 57 = .ok (.isub, 1) := by decide +kernel
theorem d_Pas_lookAround_58 : decode b_Pas_lookAround 58 = .ok (.invokevirtual 65, 3) := by decide +kernel
theorem d_Pas_lookAround_61 : decode b_Pas_lookAround 61 = .ok (.putfield 71, 3) := by decide +kernel
theorem d_Pas_lookAround_64 : decode b_Pas_lookAround 64 = .ok (.aload_n 0, 1) := by decide +kernel
theorem d_Pas_lookAround_65 : decode b_Pas_lookAround 65 = .ok (.iload_n 1, 1) := by decide +kernel
theorem d_Pas_lookAround_66 : decode b_Pas_lookAround 66 = .ok (.aload_n 0, 1) := by decide +kernel
theorem d_Pas_lookAround_67 : decode b_Pas_lookAround 67 = .ok (.getfield 10, 3) := by decide +kernel
theorem d_Pas_lookAround_70 : decode b_Pas_lookAround 70 = .ok (.getfield 38, 3) := by decide +kernel
theorem d_Pas_lookAround_73 : decode b_Pas_lookAround 73 = .ok (.iconst 1, 1) := by decide +kernel
theorem d_Pas_lookAround_74 : decode b_Pas_lookAround 74 = .ok (.isub, 1) := by decide +kernel
theorem d_Pas_lookAround_75 : decode b_Pas_lookAround 75 = .ok (.if_icmp .ge 16, 3) := by decide +kernel
theorem d_Pas_lookAround_78 : decode b_Pas_lookAround 78 = .ok (.aload_n 0, 1) := by decide +kernel
theorem d_Pas_lookAround_79 : decode b_Pas_lookAround 79 = .ok (.iload_n 1, 1) := by decide +kernel
theorem d_Pas_lookAround_80 : decode b_Pas_lookAround 80 = .ok (.iconst 1, 1) := by decide +kernel
theorem d_Pas_lookAround_81 : decode b_Pas_lookAround 81 = .ok (.iadd, 1) := by decide +kernel
theorem d_Pas_lookAround_82 : decode b_Pas_lookAround 82 = .ok (.iload_n 2, 1) := by decide +kernel
theorem d_Pas_lookAround_83 : decode b_Pas_lookAround 83 = .ok (.iconst 1, 1) := by decide +kernel
theorem d_Pas_lookAround_84 : decode b_Pas_lookAround 84 = .ok (.isub, 1) := by decide +kernel
theorem d_Pas_lookAround_85 : decode b_Pas_lookAround 85 = .ok (.invokevirtual 65, 3) := by decide +kernel
theorem d_Pas_lookAround_88 : decode b_Pas_lookAround 88 = .ok (.goto 7, 3) := by decide +kernel
theorem d_Pas_lookAround_91 : decode b_Pas_lookAround 91 = .ok (.aload_n 0, 1) := by decide +kernel
theorem d_Pas_lookAround_92 : decode b_Pas_lookAround 92 = .ok (.getfield 68, 3) := by decide +kernel
theorem d_Pas_lookAround_95 : decode b_Pas_lookAround 95 = .ok (.putfield 74, 3) := by decide +kernel
theorem d_Pas_lookAround_98 : decode b_Pas_lookAround 98 = .ok (.return_, 1) := by decide +kernel
theorem d_Pas_overAll_0 : decode b_Pas_overAll 0 = .ok (.aload_n 0, 1) := by decide +kernel
theorem d_Pas_overAll_1 : decode b_Pas_overAll 1 = .ok (.getfield 19, 3) := by decide +kernel
theorem d_Pas_overAll_4 : decode b_Pas_overAll 4 = .ok (.aload_n 0, 1) := by decide +kernel
theorem d_Pas_overAll_5 : decode b_Pas_overAll 5 = .ok (.getfield 10, 3) := by decide +kernel
theorem d_Pas_overAll_8 : decode b_Pas_overAll 8 = .ok (.getfield 27, 3) := by decide +kernel
theorem d_Pas_overAll_11 : decode b_Pas_overAll 11 = .ok (.invokevirtual 31, 3) := by decide +kernel
theorem d_Pas_overAll_14 : decode b_Pas_overAll 14 = .ok (.iconst 0, 1) := by decide +kernel
theorem d_Pas_overAll_15 : decode b_Pas_overAll 15 = .ok (.istore_n 1, 1) := by decide +kernel
theorem d_Pas_overAll_16 : decode b_Pas_overAll 16 = .ok (.iload_n 1, 1) := by decide +kernel
theorem d_Pas_overAll_17 : decode b_Pas_overAll 17 = .ok (.aload_n 0, 1) := by decide +kernel
theorem d_Pas_overAll_18 : decode b_Pas_overAll 18 = .ok (.getfield 10, 3) := by decide +kernel
theorem d_Pas_overAll_21 : decode b_Pas_overAll 21 = .ok (.getfield 35, 3) := by decide +kernel
theorem d_Pas_overAll_24 : decode b_Pas_overAll 24 = .ok (.if_icmp .ge 121, 3) := by decide +kernel
theorem d_Pas_overAll_27 : decode b_Pas_overAll 27 = .ok (.iconst 0, 1) := by decide +kernel
theorem d_Pas_overAll_28 : decode b_Pas_overAll 28 = .ok (.istore_n 2, 1) := by decide +kernel
theorem d_Pas_overAll_29 : decode b_Pas_overAll 29 = .ok (.iconst 0, 1) := by decide +kernel
theorem d_Pas_overAll_30 : decode b_Pas_overAll 30 = .ok (.istore_n 3, 1) := by decide +kernel
theorem d_Pas_overAll_31 : decode b_Pas_overAll 31 = .ok (.iconst 0, 1) := by decide +kernel
theorem d_Pas_overAll_32 : decode b_Pas_overAll 32 = .ok (.istore 4, 2) := by decide +kernel
theorem d_Pas_overAll_34 : decode b_Pas_overAll 34 = .ok (.iload 4, 2) := by decide +kernel
theorem d_Pas_overAll_36 : decode b_Pas_overAll 36 = .ok (.aload_n 0, 1) := by decide +kernel
theorem d_Pas_overAll_37 : decode b_Pas_overAll 37 = .ok (.getfield 10, 3) := by decide +kernel
theorem d_Pas_overAll_40 : decode b_Pas_overAll 40 = .ok (.getfield 38, 3) := by decide +kernel
theorem d_Pas_overAll_43 : decode b_Pas_overAll 43 = .ok (.if_icmp .ge 96, 3) := by decide +kernel
theorem d_Pas_overAll_46 : decode b_Pas_overAll 46 = .ok (.iload 4, 2) := by decide +kernel
theorem d_Pas_overAll_48 : decode b_Pas_overAll 48 = .ok (.iload_n 1, 1) := by decide +kernel
theorem d_Pas_overAll_49 : decode b_Pas_overAll 49 = .ok (.invokestatic 41, 3) := by decide +kernel
theorem d_Pas_overAll_52 : decode b_Pas_overAll 52 = .ok (.istore 5, 2) := by decide +kernel
theorem d_Pas_overAll_54 : decode b_Pas_overAll 54 = .ok (.aload_n 0, 1) := by decide +kernel
theorem d_Pas_overAll_55 : decode b_Pas_overAll 55 = .ok (.iload 4, 2) := by decide +kernel
theorem d_Pas_overAll_57 : decode b_Pas_overAll 57 = .ok (.iload_n 1, 1) := by decide +kernel
theorem d_Pas_overAll_58 : decode b_Pas_overAll 58 = .ok (.invokevirtual 45, 3) := by decide +kernel
theorem d_Pas_overAll_61 : decode b_Pas_overAll 61 = .ok (.iload_n 2, 1) := by decide +kernel
theorem d_Pas_overAll_62 : decode b_Pas_overAll 62 = .ok (.ifCond .ne 29, 3) := by decide +kernel
theorem d_Pas_overAll_65 : decode b_Pas_overAll 65 = .ok (.aload_n 0, 1) := by decide +kernel
theorem d_Pas_overAll_66 : decode b_Pas_overAll 66 = .ok (.invokevirtual 49, 3) := by decide +kernel
theorem d_Pas_overAll_69 : decode b_Pas_overAll 69 = .ok (.ifCond .eq 22, 3) := by decide +kernel
theorem d_Pas_overAll_72 : decode b_Pas_overAll 72 = .ok (.iconst 1, 1) := by decide +kernel
theorem d_Pas_overAll_73 : decode b_Pas_overAll 73 = .ok (.istore_n 2, 1) := by decide +kernel
theorem d_Pas_overAll_74 : decode b_Pas_overAll 74 = .ok (.aload_n 0, 1) := by decide +kernel
theorem d_Pas_overAll_75 : decode b_Pas_overAll 75 = .ok (.iload 5, 2) := by decide +kernel
theorem d_Pas_overAll_77 : decode b_Pas_overAll 77 = .ok (.aload_n 0, 1) := by decide +kernel
theorem d_Pas_overAll_78 : decode b_Pas_overAll 78 = .ok (.getfield 10, 3) := by decide +kernel
theorem d_Pas_overAll_81 : decode b_Pas_overAll 81 = .ok (.getfield 38, 3) := by decide +kernel
theorem d_Pas_overAll_84 : decode b_Pas_overAll 84 = .ok (.iload 4, 2) := by decide +kernel
theorem d_Pas_overAll_86 : decode b_Pas_overAll 86 = .ok (.isub, 1) := by decide +kernel
theorem d_Pas_overAll_87 : decode b_Pas_overAll 87 = .ok (.invokevirtual 53, 3) := by decide +kernel
theorem d_Pas_overAll_90 : decode b_Pas_overAll 90 = .ok (.istore_n 3, 1) := by decide +kernel
theorem d_Pas_overAll_91 : decode b_Pas_overAll 91 = .ok (.iload_n 2, 1) := by decide +kernel
theorem d_Pas_overAll_92 : decode b_Pas_overAll 92 = .ok (.ifCond .ne 12, 3) := by decide +kernel
theorem d_Pas_overAll_95 : decode b_Pas_overAll 95 = .ok (.aload_n 0, 1) := by decide +kernel
theorem d_Pas_overAll_96 : decode b_Pas_overAll 96 = .ok (.iload 5, 2) := by decide +kernel
theorem d_Pas_overAll_98 : decode b_Pas_overAll 98 = .ok (.invokevirtual 56, 3) := by decide +kernel
theorem d_Pas_overAll_101 : decode b_Pas_overAll 101 = .ok (.goto 32, 3) := by decide +kernel
theorem d_Pas_overAll_104 : decode b_Pas_overAll 104 = .ok (.iload_n 3, 1) := by decide +kernel
theorem d_Pas_overAll_105 : decode b_Pas_overAll 105 = .ok (.ifCond .le 20, 3) := by decide +kernel
theorem d_Pas_overAll_108 : decode b_Pas_overAll 108 = .ok (.iinc 3 (-1), 3) := by decide +kernel
theorem d_Pas_overAll_111 : decode b_Pas_overAll 111 = .ok (.aload_n 0, 1) := by decide +kernel
theorem d_Pas_overAll_112 : decode b_Pas_overAll 112 = .ok (.getfield 23, 3) := by decide +kernel
theorem d_Pas_overAll_115 : decode b_Pas_overAll 115 = .ok (.iload 5, 2) := by decide +kernel
theorem d_Pas_overAll_117 : decode b_Pas_overAll 117 = .ok (.aload_n 0, 1) := by decide +kernel
theorem d_Pas_overAll_118 : decode b_Pas_overAll 118 = .ok (.getfield 59, 3) := by decide +kernel
theorem d_Pas_overAll_121 : decode b_Pas_overAll 121 = .ok (.iastore, 1) := by decide +kernel
theorem d_Pas_overAll_122 : decode b_Pas_overAll 122 = .ok (.goto 11, 3) := by decide +kernel
theorem d_Pas_overAll_125 : decode b_Pas_overAll 125 = .ok (.aload_n 0, 1) := by decide +kernel
theorem d_Pas_overAll_126 : decode b_Pas_overAll 126 = .ok (.iload 5, 2) := by decide +kernel
theorem d_Pas_overAll_128 : decode b_Pas_overAll 128 = .ok (.invokevirtual 62, 3) := by decide +kernel
theorem d_Pas_overAll_131 : decode b_Pas_overAll 131 = .ok (.iconst 0, 1) := by decide +kernel
theorem d_Pas_overAll_132 : decode b_Pas_overAll 132 = .ok (.istore_n 2, 1) := by decide +kernel
theorem d_Pas_overAll_133 : decode b_Pas_overAll 133 = .ok (.iinc 4 1, 3) := by decide +kernel
theorem d_Pas_overAll_136 : decode b_Pas_overAll 136 = .ok (.goto (-102), 3) := by decide +kernel
theorem d_Pas_overAll_139 : decode b_Pas_overAll 139 = .ok (.iinc 1 1, 3) := by decide +kernel
theorem d_Pas_overAll_142 : decode b_Pas_overAll 142 = .ok (.goto (-126), 3) := by decide +kernel
theorem d_Pas_overAll_145 : decode b_Pas_overAll 145 = .ok (.return_, 1) := by decide +kernel
theorem d_Pas_overEnd_0 : decode b_Pas_overEnd 0 = .ok (.aload_n 0, 1) := by decide +kernel
theorem d_Pas_overEnd_1 : decode b_Pas_overEnd 1 = .ok (.getfield 10, 3) := by decide +kernel
theorem d_Pas_overEnd_4 : decode b_Pas_overEnd 4 = .ok (.aload_n 0, 1) := by decide +kernel
theorem d_Pas_overEnd_5 : decode b_Pas_overEnd 5 = .ok (.getfield 59, 3) := by decide +kernel
theorem d_Pas_overEnd_8 : decode b_Pas_overEnd 8 = .ok (.aload_n 0, 1) := by decide +kernel
theorem d_Pas_overEnd_9 : decode b_Pas_overEnd 9 = .ok (.getfield 68, 3) := by decide +kernel
theorem d_Pas_overEnd_12 : decode b_Pas_overEnd 12 = .ok (.isub, 1) := by decide +kernel
theorem d_Pas_overEnd_13 : decode b_Pas_overEnd 13 = .ok (.invokevirtual 77, 3) := by decide +kernel
theorem d_Pas_overEnd_16 : decode b_Pas_overEnd 16 = .ok (.ifCond .eq 7, 3) := by decide +kernel
theorem d_Pas_overEnd_19 : decode b_Pas_overEnd 19 = .ok (.iconst 1, 1) := by decide +kernel
theorem d_Pas_overEnd_20 : decode b_Pas_overEnd 20 = .ok (.goto 4, 3) := by decide +kernel
theorem d_Pas_overEnd_23 : decode b_Pas_overEnd 23 = .ok (.iconst 0, 1) := by decide +kernel
theorem d_Pas_overEnd_24 : decode b_Pas_overEnd 24 = .ok (.istore_n 2, 1) := by decide +kernel
theorem d_Pas_overEnd_25 : decode b_Pas_overEnd 25 = .ok (.aload_n 0, 1) := by decide +kernel
theorem d_Pas_overEnd_26 : decode b_Pas_overEnd 26 = .ok (.iload_n 2, 1) := by decide +kernel
theorem d_Pas_overEnd_27 : decode b_Pas_overEnd 27 = .ok (.iconst 1, 1) := by decide +kernel
theorem d_Pas_overEnd_28 : decode b_Pas_overEnd 28 = .ok (.if_icmp .ne 10, 3) := by decide +kernel
theorem d_Pas_overEnd_31 : decode b_Pas_overEnd 31 = .ok (.aload_n 0, 1) := by decide +kernel
theorem d_Pas_overEnd_32 : decode b_Pas_overEnd 32 = .ok (.getfield 59, 3) := by decide +kernel
theorem d_Pas_overEnd_35 : decode b_Pas_overEnd 35 = .ok (.goto 7, 3) := by decide +kernel
theorem d_Pas_overEnd_38 : decode b_Pas_overEnd 38 = .ok (.aload_n 0, 1) := by decide +kernel
theorem d_Pas_overEnd_39 : decode b_Pas_overEnd 39 = .ok (.getfield 68, 3) := by decide +kernel
theorem d_Pas_overEnd_42 : decode b_Pas_overEnd 42 = .ok (.putfield 102, 3) := by decide +kernel
theorem d_Pas_overEnd_45 : decode b_Pas_overEnd 45 = .ok (.aload_n 0, 1) := by decide +kernel
theorem d_Pas_overEnd_46 : decode b_Pas_overEnd 46 = .ok (.iload_n 2, 1) := by decide +kernel
theorem d_Pas_overEnd_47 : decode b_Pas_overEnd 47 = .ok (.ifCond .ne 18, 3) := by decide +kernel
theorem d_Pas_overEnd_50 : decode b_Pas_overEnd 50 = .ok (.aload_n 0, 1) := by decide +kernel
theorem d_Pas_overEnd_51 : decode b_Pas_overEnd 51 = .ok (.getfield 59, 3) := by decide +kernel
theorem d_Pas_overEnd_54 : decode b_Pas_overEnd 54 = .ok (.aload_n 0, 1) := by decide +kernel
theorem d_Pas_overEnd_55 : decode b_Pas_overEnd 55 = .ok (.getfield 68, 3) := by decide +kernel
theorem d_Pas_overEnd_58 : decode b_Pas_overEnd 58 = .ok (.if_icmp .le 7, 3) := by decide +kernel
theorem d_Pas_overEnd_61 : decode b_Pas_overEnd 61 = .ok (.iconst (-1), 1) := by decide +kernel
theorem d_Pas_overEnd_62 : decode b_Pas_overEnd 62 = .ok (.goto 4, 3) := by decide +kernel
theorem d_Pas_overEnd_65 : decode b_Pas_overEnd 65 = .ok (.iconst 1, 1) := by decide +kernel
theorem d_Pas_overEnd_66 : decode b_Pas_overEnd 66 = .ok (.putfield 85, 3) := by decide +kernel
theorem d_Pas_overEnd_69 : decode b_Pas_overEnd 69 = .ok (.sipush 365, 3) := by decide +kernel
theorem d_Pas_overEnd_72 : decode b_Pas_overEnd 72 = .ok (.iload_n 2, 1) := by decide +kernel
theorem d_Pas_overEnd_73 : decode b_Pas_overEnd 73 = .ok (.iadd, 1) := by decide +kernel
theorem d_Pas_overEnd_74 : decode b_Pas_overEnd 74 = .ok (.istore_n 3, 1) := by decide +kernel
theorem d_Pas_overEnd_75 : decode b_Pas_overEnd 75 = .ok (.aload_n 0, 1) := by decide +kernel
theorem d_Pas_overEnd_76 : decode b_Pas_overEnd 76 = .ok (.getfield 19, 3) := by decide +kernel
theorem d_Pas_overEnd_79 : decode b_Pas_overEnd 79 = .ok (.iload_n 3, 1) := by decide +kernel
theorem d_Pas_overEnd_80 : decode b_Pas_overEnd 80 = .ok (.invokevirtual 134, 3) := by decide +kernel
theorem d_Pas_overEnd_83 : decode b_Pas_overEnd 83 = .ok (.istore 4, 2) := by decide +kernel
theorem d_Pas_overEnd_85 : decode b_Pas_overEnd 85 = .ok (.iload 4, 2) := by decide +kernel
theorem d_Pas_overEnd_87 : decode b_Pas_overEnd 87 = .ok (.ifCond .ne 14, 3) := by decide +kernel
theorem d_Pas_overEnd_90 : decode b_Pas_overEnd 90 = .ok (.aload_n 0, 1) := by decide +kernel
theorem d_Pas_overEnd_91 : decode b_Pas_overEnd 91 = .ok (.getfield 19, 3) := by decide +kernel
theorem d_Pas_overEnd_94 : decode b_Pas_overEnd 94 = .ok (.iload_n 3, 1) := by decide +kernel
theorem d_Pas_overEnd_95 : decode b_Pas_overEnd 95 = .ok (.invokevirtual 137, 3) := by decide +kernel
theorem d_Pas_overEnd_98 : decode b_Pas_overEnd 98 = .ok (.ifCond .eq 7, 3) := by decide +kernel
theorem d_Pas_overEnd_101 : decode b_Pas_overEnd 101 = .ok (.iconst 1, 1) := by decide +kernel
theorem d_Pas_overEnd_102 : decode b_Pas_overEnd 102 = .ok (.goto 4, 3) := by decide +kernel
theorem d_Pas_overEnd_105 : decode b_Pas_overEnd 105 = .ok (.iconst 0, 1) := by decide +kernel
theorem d_Pas_overEnd_106 : decode b_Pas_overEnd 106 = .ok (.istore 5, 2) := by decide +kernel
theorem d_Pas_overEnd_108 : decode b_Pas_overEnd 108 = .ok (.aload_n 0, 1) := by decide +kernel
theorem d_Pas_overEnd_109 : decode b_Pas_overEnd 109 = .ok (.iload_n 1, 1) := by decide +kernel
theorem d_Pas_overEnd_110 : decode b_Pas_overEnd 110 = .ok (.iload_n 2, 1) := by decide +kernel
theorem d_Pas_overEnd_111 : decode b_Pas_overEnd 111 = .ok (.iload 4, 2) := by decide +kernel
theorem d_Pas_overEnd_113 : decode b_Pas_overEnd 113 = .ok (.iload 5, 2) := by decide +kernel
theorem d_Pas_overEnd_115 : decode b_Pas_overEnd 115 = .ok (.invokevirtual 140, 3) := by decide +kernel
theorem d_Pas_overEnd_118 : decode b_Pas_overEnd 118 = .ok (.istore 6, 2) := by decide +kernel
theorem d_Pas_overEnd_120 : decode b_Pas_overEnd 120 = .ok (.aload_n 0, 1) := by decide +kernel
theorem d_Pas_overEnd_121 : decode b_Pas_overEnd 121 = .ok (.getfield 19, 3) := by decide +kernel
theorem d_Pas_overEnd_124 : decode b_Pas_overEnd 124 = .ok (.iload_n 3, 1) := by decide +kernel
theorem d_Pas_overEnd_125 : decode b_Pas_overEnd 125 = .ok (.iload 6, 2) := by decide +kernel
theorem d_Pas_overEnd_127 : decode b_Pas_overEnd 127 = .ok (.iload 6, 2) := by decide +kernel
theorem d_Pas_overEnd_129 : decode b_Pas_overEnd 129 = .ok (.iload_n 2, 1) := by decide +kernel
theorem d_Pas_overEnd_130 : decode b_Pas_overEnd 130 = .ok (.iload 5, 2) := by decide +kernel
theorem d_Pas_overEnd_132 : decode b_Pas_overEnd 132 = .ok (.invokestatic 144, 3) := by decide +kernel
theorem d_Pas_overEnd_135 : decode b_Pas_overEnd 135 = .ok (.invokevirtual 149, 3) := by decide +kernel
theorem d_Pas_overEnd_138 : decode b_Pas_overEnd 138 = .ok (.aload_n 0, 1) := by decide +kernel
theorem d_Pas_overEnd_139 : decode b_Pas_overEnd 139 = .ok (.getfield 19, 3) := by decide +kernel
theorem d_Pas_overEnd_142 : decode b_Pas_overEnd 142 = .ok (.invokevirtual 152, 3) := by decide +kernel
theorem d_Pas_overEnd_145 : decode b_Pas_overEnd 145 = .ok (.return_, 1) := by decide +kernel
theorem d_Pas_overRegular_0 : decode b_Pas_overRegular 0 = .ok (.aload_n 0, 1) := by decide +kernel
theorem d_Pas_overRegular_1 : decode b_Pas_overRegular 1 = .ok (.invokevirtual 81, 3) := by decide +kernel
theorem d_Pas_overRegular_4 : decode b_Pas_overRegular 4 = .ok (.istore_n 2, 1) := by decide +kernel
theorem d_Pas_overRegular_5 : decode b_Pas_overRegular 5 = .ok (.aload_n 0, 1) := by decide +kernel
theorem d_Pas_overRegular_6 : decode b_Pas_overRegular 6 = .ok (.iload_n 2, 1) := by decide +kernel
theorem d_Pas_overRegular_7 : decode b_Pas_overRegular 7 = .ok (.ifCond .ge 7, 3) := by decide +kernel
theorem d_Pas_overRegular_10 : decode b_Pas_overRegular 10 = .ok (.iconst (-1), 1) := by decide +kernel
theorem d_Pas_overRegular_11 : decode b_Pas_overRegular 11 = .ok (.goto 4, 3) := by decide +kernel
theorem d_Pas_overRegular_14 : decode b_Pas_overRegular 14 = .ok (.iconst 1, 1) := by decide +kernel
theorem d_Pas_overRegular_15 : decode b_Pas_overRegular 15 = .ok (.putfield 85, 3) := by decide +kernel
theorem d_Pas_overRegular_18 : decode b_Pas_overRegular 18 = .ok (.iload_n 2, 1) := by decide +kernel
theorem d_Pas_overRegular_19 : decode b_Pas_overRegular 19 = .ok (.invokestatic 88, 3) := by decide +kernel
theorem d_Pas_overRegular_22 : decode b_Pas_overRegular 22 = .ok (.istore_n 3, 1) := by decide +kernel
theorem d_Pas_overRegular_23 : decode b_Pas_overRegular 23 = .ok (.aload_n 0, 1) := by decide +kernel
theorem d_Pas_overRegular_24 : decode b_Pas_overRegular 24 = .ok (.aload_n 0, 1) := by decide +kernel
theorem d_Pas_overRegular_25 : decode b_Pas_overRegular 25 = .ok (.getfield 10, 3) := by decide +kernel
theorem d_Pas_overRegular_28 : decode b_Pas_overRegular 28 = .ok (.aload_n 0, 1) := by decide +kernel
theorem d_Pas_overRegular_29 : decode b_Pas_overRegular 29 = .ok (.invokevirtual 94, 3) := by decide +kernel
theorem d_Pas_overRegular_32 : decode b_Pas_overRegular 32 = .ok (.aload_n 0, 1) := by decide +kernel
theorem d_Pas_overRegular_33 : decode b_Pas_overRegular 33 = .ok (.getfield 85, 3) := by decide +kernel
theorem d_Pas_overRegular_36 : decode b_Pas_overRegular 36 = .ok (.aload_n 0, 1) := by decide +kernel
theorem d_Pas_overRegular_37 : decode b_Pas_overRegular 37 = .ok (.getfield 19, 3) := by decide +kernel
theorem d_Pas_overRegular_40 : decode b_Pas_overRegular 40 = .ok (.getfield 97, 3) := by decide +kernel
theorem d_Pas_overRegular_43 : decode b_Pas_overRegular 43 = .ok (.iload_n 3, 1) := by decide +kernel
theorem d_Pas_overRegular_44 : decode b_Pas_overRegular 44 = .ok (.iaload, 1) := by decide +kernel
theorem d_Pas_overRegular_45 : decode b_Pas_overRegular 45 = .ok (.imul, 1) := by decide +kernel
theorem d_Pas_overRegular_46 : decode b_Pas_overRegular 46 = .ok (.iadd, 1) := by decide +kernel
theorem d_Pas_overRegular_47 : decode b_Pas_overRegular 47 = .ok (.invokevirtual 99, 3) := by decide +kernel
theorem d_Pas_overRegular_50 : decode b_Pas_overRegular 50 = .ok (.putfield 102, 3) := by decide +kernel
theorem d_Pas_overRegular_53 : decode b_Pas_overRegular 53 = .ok (.aload_n 0, 1) := by decide +kernel
theorem d_Pas_overRegular_54 : decode b_Pas_overRegular 54 = .ok (.getfield 19, 3) := by decide +kernel
theorem d_Pas_overRegular_57 : decode b_Pas_overRegular 57 = .ok (.iload_n 3, 1) := by decide +kernel
theorem d_Pas_overRegular_58 : decode b_Pas_overRegular 58 = .ok (.invokevirtual 105, 3) := by decide +kernel
theorem d_Pas_overRegular_61 : decode b_Pas_overRegular 61 = .ok (.istore 4, 2) := by decide +kernel
theorem d_Pas_overRegular_63 : decode b_Pas_overRegular 63 = .ok (.aload_n 0, 1) := by decide +kernel
theorem d_Pas_overRegular_64 : decode b_Pas_overRegular 64 = .ok (.getfield 10, 3) := by decide +kernel
theorem d_Pas_overRegular_67 : decode b_Pas_overRegular 67 = .ok (.getfield 108, 3) := by decide +kernel
theorem d_Pas_overRegular_70 : decode b_Pas_overRegular 70 = .ok (.ifCond .ne 23, 3) := by decide +kernel
theorem d_Pas_overRegular_73 : decode b_Pas_overRegular 73 = .ok (.iload 4, 2) := by decide +kernel
theorem d_Pas_overRegular_75 : decode b_Pas_overRegular 75 = .ok (.ifCond .ne 18, 3) := by decide +kernel
theorem d_Pas_overRegular_78 : decode b_Pas_overRegular 78 = .ok (.aload_n 0, 1) := by decide +kernel
theorem d_Pas_overRegular_79 : decode b_Pas_overRegular 79 = .ok (.getfield 19, 3) := by decide +kernel
theorem d_Pas_overRegular_82 : decode b_Pas_overRegular 82 = .ok (.iload_n 3, 1) := by decide +kernel
theorem d_Pas_overRegular_83 : decode b_Pas_overRegular 83 = .ok (.invokevirtual 111, 3) := by decide +kernel
theorem d_Pas_overRegular_86 : decode b_Pas_overRegular 86 = .ok (.ifCond .eq 7, 3) := by decide +kernel
theorem d_Pas_overRegular_89 : decode b_Pas_overRegular 89 = .ok (.iconst 1, 1) := by decide +kernel
theorem d_Pas_overRegular_90 : decode b_Pas_overRegular 90 = .ok (.goto 4, 3) := by decide +kernel
theorem d_Pas_overRegular_93 : decode b_Pas_overRegular 93 = .ok (.iconst 0, 1) := by decide +kernel
theorem d_Pas_overRegular_94 : decode b_Pas_overRegular 94 = .ok (.istore 5, 2) := by decide +kernel
theorem d_Pas_overRegular_96 : decode b_Pas_overRegular 96 = .ok (.aload_n 0, 1) := by decide +kernel
theorem d_Pas_overRegular_97 : decode b_Pas_overRegular 97 = .ok (.iload_n 1, 1) := by decide +kernel
theorem d_Pas_overRegular_98 : decode b_Pas_overRegular 98 = .ok (.iload 4, 2) := by decide +kernel
theorem d_Pas_overRegular_100 : decode b_Pas_overRegular 100 = .ok (.iload 5, 2) := by decide +kernel
theorem d_Pas_overRegular_102 : decode b_Pas_overRegular 102 = .ok (.invokevirtual 114, 3) := by decide +kernel
theorem d_Pas_overRegular_105 : decode b_Pas_overRegular 105 = .ok (.istore 6, 2) := by decide +kernel
theorem d_Pas_overRegular_107 : decode b_Pas_overRegular 107 = .ok (.aload_n 0, 1) := by decide +kernel
theorem d_Pas_overRegular_108 : decode b_Pas_overRegular 108 = .ok (.getfield 19, 3) := by decide +kernel
theorem d_Pas_overRegular_111 : decode b_Pas_overRegular 111 = .ok (.iload_n 3, 1) := by decide +kernel
theorem d_Pas_overRegular_112 : decode b_Pas_overRegular 112 = .ok (.iload 6, 2) := by decide +kernel
theorem d_Pas_overRegular_114 : decode b_Pas_overRegular 114 = .ok (.aload_n 0, 1) := by decide +kernel
theorem d_Pas_overRegular_115 : decode b_Pas_overRegular 115 = .ok (.getfield 10, 3) := by decide +kernel
theorem d_Pas_overRegular_118 : decode b_Pas_overRegular 118 = .ok (.getfield 118, 3) := by decide +kernel
theorem d_Pas_overRegular_121 : decode b_Pas_overRegular 121 = .ok (.invokevirtual 121, 3) := by decide +kernel
theorem d_Pas_overRegular_124 : decode b_Pas_overRegular 124 = .ok (.return_, 1) := by decide +kernel
theorem d_Pas_rebuiltOrNothing_0 : decode b_Pas_rebuiltOrNothing 0 = .ok (.iload_n 2, 1) := by decide +kernel
theorem d_Pas_rebuiltOrNothing_1 : decode b_Pas_rebuiltOrNothing 1 = .ok (.ifCond .ge 7, 3) := by decide +kernel
theorem d_Pas_rebuiltOrNothing_4 : decode b_Pas_rebuiltOrNothing 4 = .ok (.iconst 0, 1) := by decide +kernel
theorem d_Pas_rebuiltOrNothing_5 : decode b_Pas_rebuiltOrNothing 5 = .ok (.goto 13, 3) := by decide +kernel
theorem d_Pas_rebuiltOrNothing_8 : decode b_Pas_rebuiltOrNothing 8 = .ok (.aload_n 0, 1) := by decide +kernel
theorem d_Pas_rebuiltOrNothing_9 : decode b_Pas_rebuiltOrNothing 9 = .ok (.getfield 23, 3) := by decide +kernel
theorem d_Pas_rebuiltOrNothing_12 : decode b_Pas_rebuiltOrNothing 12 = .ok (.iload_n 1, 1) := by decide +kernel
theorem d_Pas_rebuiltOrNothing_13 : decode b_Pas_rebuiltOrNothing 13 = .ok (.iload_n 2, 1) := by decide +kernel
theorem d_Pas_rebuiltOrNothing_14 : decode b_Pas_rebuiltOrNothing 14 = .ok (.invokestatic 41, 3) := by decide +kernel
theorem d_Pas_rebuiltOrNothing_17 : decode b_Pas_rebuiltOrNothing 17 = .ok (.iaload, 1) := by decide +kernel
theorem d_Pas_rebuiltOrNothing_18 : decode b_Pas_rebuiltOrNothing 18 = .ok (.ireturn, 1) := by decide +kernel
theorem d_Pas_signedContext_0 : decode b_Pas_signedContext 0 = .ok (.bipush 81, 2) := by decide +kernel
theorem d_Pas_signedContext_2 : decode b_Pas_signedContext 2 = .ok (.aload_n 0, 1) := by decide +kernel
theorem d_Pas_signedContext_3 : decode b_Pas_signedContext 3 = .ok (.getfield 10, 3) := by decide +kernel
theorem d_Pas_signedContext_6 : decode b_Pas_signedContext 6 = .ok (.aload_n 0, 1) := by decide +kernel
theorem d_Pas_signedContext_7 : decode b_Pas_signedContext 7 = .ok (.getfield 74, 3) := by decide +kernel
theorem d_Pas_signedContext_10 : decode b_Pas_signedContext 10 = .ok (.aload_n 0, 1) := by decide +kernel
theorem d_Pas_signedContext_11 : decode b_Pas_signedContext 11 = .ok (.getfield 68, 3) := by decide +kernel
theorem d_Pas_signedContext_14 : decode b_Pas_signedContext 14 = .ok (.isub, 1) := by decide +kernel
theorem d_Pas_signedContext_15 : decode b_Pas_signedContext 15 = .ok (.invokevirtual 125, 3) := by decide +kernel
theorem d_Pas_signedContext_18 : decode b_Pas_signedContext 18 = .ok (.imul, 1) := by decide +kernel
theorem d_Pas_signedContext_19 : decode b_Pas_signedContext 19 = .ok (.bipush 9, 2) := by decide +kernel
theorem d_Pas_signedContext_21 : decode b_Pas_signedContext 21 = .ok (.aload_n 0, 1) := by decide +kernel
theorem d_Pas_signedContext_22 : decode b_Pas_signedContext 22 = .ok (.getfield 10, 3) := by decide +kernel
theorem d_Pas_signedContext_25 : decode b_Pas_signedContext 25 = .ok (.aload_n 0, 1) := by decide +kernel
theorem d_Pas_signedContext_26 : decode b_Pas_signedContext 26 = .ok (.getfield 68, 3) := by decide +kernel
theorem d_Pas_signedContext_29 : decode b_Pas_signedContext 29 = .ok (.aload_n 0, 1) := by decide +kernel
theorem d_Pas_signedContext_30 : decode b_Pas_signedContext 30 = .ok (.getfield 71, 3) := by decide +kernel
theorem d_Pas_signedContext_33 : decode b_Pas_signedContext 33 = .ok (.isub, 1) := by decide +kernel
theorem d_Pas_signedContext_34 : decode b_Pas_signedContext 34 = .ok (.invokevirtual 125, 3) := by decide +kernel
theorem d_Pas_signedContext_37 : decode b_Pas_signedContext 37 = .ok (.imul, 1) := by decide +kernel
theorem d_Pas_signedContext_38 : decode b_Pas_signedContext 38 = .ok (.iadd, 1) := by decide +kernel
theorem d_Pas_signedContext_39 : decode b_Pas_signedContext 39 = .ok (.aload_n 0, 1) := by decide +kernel
theorem d_Pas_signedContext_40 : decode b_Pas_signedContext 40 = .ok (.getfield 10, 3) := by decide +kernel
theorem d_Pas_signedContext_43 : decode b_Pas_signedContext 43 = .ok (.aload_n 0, 1) := by decide +kernel
theorem d_Pas_signedContext_44 : decode b_Pas_signedContext 44 = .ok (.getfield 71, 3) := by decide +kernel
theorem d_Pas_signedContext_47 : decode b_Pas_signedContext 47 = .ok (.aload_n 0, 1) := by decide +kernel
theorem d_Pas_signedContext_48 : decode b_Pas_signedContext 48 = .ok (.getfield 59, 3) := by decide +kernel
theorem d_Pas_signedContext_51 : decode b_Pas_signedContext 51 = .ok (.isub, 1) := by decide +kernel
theorem d_Pas_signedContext_52 : decode b_Pas_signedContext 52 = .ok (.invokevirtual 125, 3) := by decide +kernel
theorem d_Pas_signedContext_55 : decode b_Pas_signedContext 55 = .ok (.iadd, 1) := by decide +kernel
theorem d_Pas_signedContext_56 : decode b_Pas_signedContext 56 = .ok (.ireturn, 1) := by decide +kernel
theorem d_Pic_become_0 : decode b_Pic_become 0 = .ok (.aload_n 0, 1) := by decide +kernel
theorem d_Pic_become_1 : decode b_Pic_become 1 = .ok (.iload_n 1, 1) := by decide +kernel
theorem d_Pic_become_2 : decode b_Pic_become 2 = .ok (.putfield 13, 3) := by decide +kernel
theorem d_Pic_become_5 : decode b_Pic_become 5 = .ok (.aload_n 0, 1) := by decide +kernel
theorem d_Pic_become_6 : decode b_Pic_become 6 = .ok (.iload_n 2, 1) := by decide +kernel
theorem d_Pic_become_7 : decode b_Pic_become 7 = .ok (.putfield 17, 3) := by decide +kernel
theorem d_Pic_become_10 : decode b_Pic_become 10 = .ok (.aload_n 0, 1) := by decide +kernel
theorem d_Pic_become_11 : decode b_Pic_become 11 = .ok (.iload_n 3, 1) := by decide +kernel
theorem d_Pic_become_12 : decode b_Pic_become 12 = .ok (.putfield 20, 3) := by decide +kernel
theorem d_Pic_become_15 : decode b_Pic_become 15 = .ok (.aload_n 0, 1) := by decide +kernel
theorem d_Pic_become_16 : decode b_Pic_become 16 = .ok (.iload 4, 2) := by decide +kernel
theorem d_Pic_become_18 : decode b_Pic_become 18 = .ok (.putfield 23, 3) := by decide +kernel
theorem d_Pic_become_21 : decode b_Pic_become 21 = .ok (.aload_n 0, 1) := by decide +kernel
theorem d_Pic_become_22 : decode b_Pic_become 22 = .ok (.iconst 2, 1) := by decide +kernel
theorem d_Pic_become_23 : decode b_Pic_become 23 = .ok (.aload_n 0, 1) := by decide +kernel
theorem d_Pic_become_24 : decode b_Pic_become 24 = .ok (.getfield 23, 3) := by decide +kernel
theorem d_Pic_become_27 : decode b_Pic_become 27 = .ok (.imul, 1) := by decide +kernel
theorem d_Pic_become_28 : decode b_Pic_become 28 = .ok (.iconst 1, 1) := by decide +kernel
theorem d_Pic_become_29 : decode b_Pic_become 29 = .ok (.iadd, 1) := by decide +kernel
theorem d_Pic_become_30 : decode b_Pic_become 30 = .ok (.putfield 26, 3) := by decide +kernel
theorem d_Pic_become_33 : decode b_Pic_become 33 = .ok (.aload_n 0, 1) := by decide +kernel
theorem d_Pic_become_34 : decode b_Pic_become 34 = .ok (.aload_n 0, 1) := by decide +kernel
theorem d_Pic_become_35 : decode b_Pic_become 35 = .ok (.getfield 20, 3) := by decide +kernel
theorem d_Pic_become_38 : decode b_Pic_become 38 = .ok (.iconst 2, 1) := by decide +kernel
theorem d_Pic_become_39 : decode b_Pic_become 39 = .ok (.aload_n 0, 1) := by decide +kernel
theorem d_Pic_become_40 : decode b_Pic_become 40 = .ok (.getfield 23, 3) := by decide +kernel
theorem d_Pic_become_43 : decode b_Pic_become 43 = .ok (.imul, 1) := by decide +kernel
theorem d_Pic_become_44 : decode b_Pic_become 44 = .ok (.iadd, 1) := by decide +kernel
theorem d_Pic_become_45 : decode b_Pic_become 45 = .ok (.aload_n 0, 1) := by decide +kernel
theorem d_Pic_become_46 : decode b_Pic_become 46 = .ok (.getfield 26, 3) := by decide +kernel
theorem d_Pic_become_49 : decode b_Pic_become 49 = .ok (.idiv, 1) := by decide +kernel
theorem d_Pic_become_50 : decode b_Pic_become 50 = .ok (.iconst 1, 1) := by decide +kernel
theorem d_Pic_become_51 : decode b_Pic_become 51 = .ok (.iadd, 1) := by decide +kernel
theorem d_Pic_become_52 : decode b_Pic_become 52 = .ok (.putfield 29, 3) := by decide +kernel
theorem d_Pic_become_55 : decode b_Pic_become 55 = .ok (.aload_n 0, 1) := by decide +kernel
theorem d_Pic_become_56 : decode b_Pic_become 56 = .ok (.iconst 0, 1) := by decide +kernel
theorem d_Pic_become_57 : decode b_Pic_become 57 = .ok (.aload_n 0, 1) := by decide +kernel
theorem d_Pic_become_58 : decode b_Pic_become 58 = .ok (.getfield 29, 3) := by decide +kernel
theorem d_Pic_become_61 : decode b_Pic_become 61 = .ok (.invokestatic 32, 3) := by decide +kernel
theorem d_Pic_become_64 : decode b_Pic_become 64 = .ok (.putfield 36, 3) := by decide +kernel
theorem d_Pic_become_67 : decode b_Pic_become 67 = .ok (.iconst 2, 1) := by decide +kernel
theorem d_Pic_become_68 : decode b_Pic_become 68 = .ok (.aload_n 0, 1) := by decide +kernel
theorem d_Pic_become_69 : decode b_Pic_become 69 = .ok (.getfield 20, 3) := by decide +kernel
theorem d_Pic_become_72 : decode b_Pic_become 72 = .ok (.iconst 1, 1) := by decide +kernel
theorem d_Pic_become_73 : decode b_Pic_become 73 = .ok (.iadd, 1) := by decide +kernel
theorem d_Pic_become_74 : decode b_Pic_become 74 = .ok (.invokestatic 32, 3) := by decide +kernel
theorem d_Pic_become_77 : decode b_Pic_become 77 = .ok (.istore 5, 2) := by decide +kernel
theorem d_Pic_become_79 : decode b_Pic_become 79 = .ok (.aload_n 0, 1) := by decide +kernel
theorem d_Pic_become_80 : decode b_Pic_become 80 = .ok (.iconst 2, 1) := by decide +kernel
theorem d_Pic_become_81 : decode b_Pic_become 81 = .ok (.iload 5, 2) := by decide +kernel
theorem d_Pic_become_83 : decode b_Pic_become 83 = .ok (.bipush 8, 2) := by decide +kernel
theorem d_Pic_become_85 : decode b_Pic_become 85 = .ok (.iload 5, 2) := by decide +kernel
theorem d_Pic_become_87 : decode b_Pic_become 87 = .ok (.invokestatic 39, 3) := by decide +kernel
theorem d_Pic_become_90 : decode b_Pic_become 90 = .ok (.iadd, 1) := by decide +kernel
theorem d_Pic_become_91 : decode b_Pic_become 91 = .ok (.imul, 1) := by decide +kernel
theorem d_Pic_become_92 : decode b_Pic_become 92 = .ok (.putfield 44, 3) := by decide +kernel
theorem d_Pic_become_95 : decode b_Pic_become 95 = .ok (.aload_n 0, 1) := by decide +kernel
theorem d_Pic_become_96 : decode b_Pic_become 96 = .ok (.getfield 20, 3) := by decide +kernel
theorem d_Pic_become_99 : decode b_Pic_become 99 = .ok (.sipush 128, 3) := by decide +kernel
theorem d_Pic_become_102 : decode b_Pic_become 102 = .ok (.if_icmp .lt 22, 3) := by decide +kernel
theorem d_Pic_become_105 : decode b_Pic_become 105 = .ok (.aload_n 0, 1) := by decide +kernel
theorem d_Pic_become_106 : decode b_Pic_become 106 = .ok (.aload_n 0, 1) := by decide +kernel
theorem d_Pic_become_107 : decode b_Pic_become 107 = .ok (.getfield 20, 3) := by decide +kernel
theorem d_Pic_become_110 : decode b_Pic_become 110 = .ok (.sipush 128, 3) := by decide +kernel
theorem d_Pic_become_113 : decode b_Pic_become 113 = .ok (.iadd, 1) := by decide +kernel
theorem d_Pic_become_114 : decode b_Pic_become 114 = .ok (.sipush 256, 3) := by decide +kernel
theorem d_Pic_become_117 : decode b_Pic_become 117 = .ok (.idiv, 1) := by decide +kernel
theorem d_Pic_become_118 : decode b_Pic_become 118 = .ok (.invokevirtual 47, 3) := by decide +kernel
theorem d_Pic_become_121 : decode b_Pic_become 121 = .ok (.goto 17, 3) := by decide +kernel
theorem d_Pic_become_124 : decode b_Pic_become 124 = .ok (.aload_n 0, 1) := by decide +kernel
theorem d_Pic_become_125 : decode b_Pic_become 125 = .ok (.sipush 256, 3) := by decide +kernel
theorem d_Pic_become_128 : decode b_Pic_become 128 = .ok (.aload_n 0, 1) := by decide +kernel
theorem d_Pic_become_129 : decode b_Pic_become 129 = .ok (.getfield 20, 3) := by decide +kernel
theorem d_Pic_become_132 : decode b_Pic_become 132 = .ok (.iconst 1, 1) := by decide +kernel
theorem d_Pic_become_133 : decode b_Pic_become 133 = .ok (.iadd, 1) := by decide +kernel
theorem d_Pic_become_134 : decode b_Pic_become 134 = .ok (.idiv, 1) := by decide +kernel
theorem d_Pic_become_135 : decode b_Pic_become 135 = .ok (.invokevirtual 51, 3) := by decide +kernel
theorem d_Pic_become_138 : decode b_Pic_become 138 = .ok (.return_, 1) := by decide +kernel
theorem d_Pic_becomeCoarse_0 : decode b_Pic_becomeCoarse 0 = .ok (.aload_n 0, 1) := by decide +kernel
theorem d_Pic_becomeCoarse_1 : decode b_Pic_becomeCoarse 1 = .ok (.aload_n 0, 1) := by decide +kernel
theorem d_Pic_becomeCoarse_2 : decode b_Pic_becomeCoarse 2 = .ok (.iconst 2, 1) := by decide +kernel
theorem d_Pic_becomeCoarse_3 : decode b_Pic_becomeCoarse 3 = .ok (.iconst 3, 1) := by decide +kernel
theorem d_Pic_becomeCoarse_4 : decode b_Pic_becomeCoarse 4 = .ok (.iload_n 1, 1) := by decide +kernel
theorem d_Pic_becomeCoarse_5 : decode b_Pic_becomeCoarse 5 = .ok (.idiv, 1) := by decide +kernel
theorem d_Pic_becomeCoarse_6 : decode b_Pic_becomeCoarse 6 = .ok (.iconst 3, 1) := by decide +kernel
theorem d_Pic_becomeCoarse_7 : decode b_Pic_becomeCoarse 7 = .ok (.aload_n 0, 1) := by decide +kernel
theorem d_Pic_becomeCoarse_8 : decode b_Pic_becomeCoarse 8 = .ok (.getfield 23, 3) := by decide +kernel
theorem d_Pic_becomeCoarse_11 : decode b_Pic_becomeCoarse 11 = .ok (.imul, 1) := by decide +kernel
theorem d_Pic_becomeCoarse_12 : decode b_Pic_becomeCoarse 12 = .ok (.iadd, 1) := by decide +kernel
theorem d_Pic_becomeCoarse_13 : decode b_Pic_becomeCoarse 13 = .ok (.invokestatic 39, 3) := by decide +kernel
theorem d_Pic_becomeCoarse_16 : decode b_Pic_becomeCoarse 16 = .ok (.aload_n 0, 1) := by decide +kernel
theorem d_Pic_becomeCoarse_17 : decode b_Pic_becomeCoarse 17 = .ok (.getfield 23, 3) := by decide +kernel
theorem d_Pic_becomeCoarse_20 : decode b_Pic_becomeCoarse 20 = .ok (.iconst 1, 1) := by decide +kernel
theorem d_Pic_becomeCoarse_21 : decode b_Pic_becomeCoarse 21 = .ok (.iadd, 1) := by decide +kernel
theorem d_Pic_becomeCoarse_22 : decode b_Pic_becomeCoarse 22 = .ok (.invokevirtual 54, 3) := by decide +kernel
theorem d_Pic_becomeCoarse_25 : decode b_Pic_becomeCoarse 25 = .ok (.putfield 57, 3) := by decide +kernel
theorem d_Pic_becomeCoarse_28 : decode b_Pic_becomeCoarse 28 = .ok (.aload_n 0, 1) := by decide +kernel
theorem d_Pic_becomeCoarse_29 : decode b_Pic_becomeCoarse 29 = .ok (.aload_n 0, 1) := by decide +kernel
theorem d_Pic_becomeCoarse_30 : decode b_Pic_becomeCoarse 30 = .ok (.iconst 3, 1) := by decide +kernel
theorem d_Pic_becomeCoarse_31 : decode b_Pic_becomeCoarse 31 = .ok (.bipush 7, 2) := by decide +kernel
theorem d_Pic_becomeCoarse_33 : decode b_Pic_becomeCoarse 33 = .ok (.iload_n 1, 1) := by decide +kernel
theorem d_Pic_becomeCoarse_34 : decode b_Pic_becomeCoarse 34 = .ok (.idiv, 1) := by decide +kernel
theorem d_Pic_becomeCoarse_35 : decode b_Pic_becomeCoarse 35 = .ok (.iconst 5, 1) := by decide +kernel
theorem d_Pic_becomeCoarse_36 : decode b_Pic_becomeCoarse 36 = .ok (.aload_n 0, 1) := by decide +kernel
theorem d_Pic_becomeCoarse_37 : decode b_Pic_becomeCoarse 37 = .ok (.getfield 23, 3) := by decide +kernel
theorem d_Pic_becomeCoarse_40 : decode b_Pic_becomeCoarse 40 = .ok (.imul, 1) := by decide +kernel
theorem d_Pic_becomeCoarse_41 : decode b_Pic_becomeCoarse 41 = .ok (.iadd, 1) := by decide +kernel
theorem d_Pic_becomeCoarse_42 : decode b_Pic_becomeCoarse 42 = .ok (.invokestatic 39, 3) := by decide +kernel
theorem d_Pic_becomeCoarse_45 : decode b_Pic_becomeCoarse 45 = .ok (.aload_n 0, 1) := by decide +kernel
theorem d_Pic_becomeCoarse_46 : decode b_Pic_becomeCoarse 46 = .ok (.getfield 57, 3) := by decide +kernel
theorem d_Pic_becomeCoarse_49 : decode b_Pic_becomeCoarse 49 = .ok (.invokevirtual 54, 3) := by decide +kernel
theorem d_Pic_becomeCoarse_52 : decode b_Pic_becomeCoarse 52 = .ok (.putfield 60, 3) := by decide +kernel
theorem d_Pic_becomeCoarse_55 : decode b_Pic_becomeCoarse 55 = .ok (.aload_n 0, 1) := by decide +kernel
theorem d_Pic_becomeCoarse_56 : decode b_Pic_becomeCoarse 56 = .ok (.aload_n 0, 1) := by decide +kernel
theorem d_Pic_becomeCoarse_57 : decode b_Pic_becomeCoarse 57 = .ok (.iconst 4, 1) := by decide +kernel
theorem d_Pic_becomeCoarse_58 : decode b_Pic_becomeCoarse 58 = .ok (.bipush 21, 2) := by decide +kernel
theorem d_Pic_becomeCoarse_60 : decode b_Pic_becomeCoarse 60 = .ok (.iload_n 1, 1) := by decide +kernel
theorem d_Pic_becomeCoarse_61 : decode b_Pic_becomeCoarse 61 = .ok (.idiv, 1) := by decide +kernel
theorem d_Pic_becomeCoarse_62 : decode b_Pic_becomeCoarse 62 = .ok (.bipush 7, 2) := by decide +kernel
theorem d_Pic_becomeCoarse_64 : decode b_Pic_becomeCoarse 64 = .ok (.aload_n 0, 1) := by decide +kernel
theorem d_Pic_becomeCoarse_65 : decode b_Pic_becomeCoarse 65 = .ok (.getfield 23, 3) := by decide +kernel
theorem d_Pic_becomeCoarse_68 : decode b_Pic_becomeCoarse 68 = .ok (.imul, 1) := by decide +kernel
theorem d_Pic_becomeCoarse_69 : decode b_Pic_becomeCoarse 69 = .ok (.iadd, 1) := by decide +kernel
theorem d_Pic_becomeCoarse_70 : decode b_Pic_becomeCoarse 70 = .ok (.invokestatic 39, 3) := by decide +kernel
theorem d_Pic_becomeCoarse_73 : decode b_Pic_becomeCoarse 73 = .ok (.aload_n 0, 1) := by decide +kernel
theorem d_Pic_becomeCoarse_74 : decode b_Pic_becomeCoarse 74 = .ok (.getfield 60, 3) := by decide +kernel
theorem d_Pic_becomeCoarse_77 : decode b_Pic_becomeCoarse 77 = .ok (.invokevirtual 54, 3) := by decide +kernel
theorem d_Pic_becomeCoarse_80 : decode b_Pic_becomeCoarse 80 = .ok (.putfield 63, 3) := by decide +kernel
theorem d_Pic_becomeCoarse_83 : decode b_Pic_becomeCoarse 83 = .ok (.return_, 1) := by decide +kernel
