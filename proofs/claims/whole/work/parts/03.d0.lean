theorem d_Arrs_fill_102_0 : decode b_Arrs_fill_102 0 = .ok (.iconst 0, 1) := by decide +kernel
theorem d_Arrs_fill_102_1 : decode b_Arrs_fill_102 1 = .ok (.istore_n 2, 1) := by decide +kernel
theorem d_Arrs_fill_102_2 : decode b_Arrs_fill_102 2 = .ok (.aload_n 0, 1) := by decide +kernel
theorem d_Arrs_fill_102_3 : decode b_Arrs_fill_102 3 = .ok (.arraylength, 1) := by decide +kernel
theorem d_Arrs_fill_102_4 : decode b_Arrs_fill_102 4 = .ok (.istore_n 3, 1) := by decide +kernel
theorem d_Arrs_fill_102_5 : decode b_Arrs_fill_102 5 = .ok (.iload_n 2, 1) := by decide +kernel
theorem d_Arrs_fill_102_6 : decode b_Arrs_fill_102 6 = .ok (.iload_n 3, 1) := by decide +kernel
theorem d_Arrs_fill_102_7 : decode b_Arrs_fill_102 7 = .ok (.if_icmp .ge 13, 3) := by decide +kernel
theorem d_Arrs_fill_102_10 : decode b_Arrs_fill_102 10 = .ok (.aload_n 0, 1) := by decide +kernel
theorem d_Arrs_fill_102_11 : decode b_Arrs_fill_102 11 = .ok (.iload_n 2, 1) := by decide +kernel
theorem d_Arrs_fill_102_12 : decode b_Arrs_fill_102 12 = .ok (.iload_n 1, 1) := by decide +kernel
theorem d_Arrs_fill_102_13 : decode b_Arrs_fill_102 13 = .ok (.iastore, 1) := by decide +kernel
theorem d_Arrs_fill_102_14 : decode b_Arrs_fill_102 14 = .ok (.iinc 2 1, 3) := by decide +kernel
theorem d_Arrs_fill_102_17 : decode b_Arrs_fill_102 17 = .ok (.goto (-12), 3) := by decide +kernel
theorem d_Arrs_fill_102_20 : decode b_Arrs_fill_102 20 = .ok (.return_, 1) := by decide +kernel
theorem d_Cod_beginPicture_0 : decode b_Cod_beginPicture 0 = .ok (.aload_n 0, 1) := by decide +kernel
theorem d_Cod_beginPicture_1 : decode b_Cod_beginPicture 1 = .ok (.getfield 26, 3) := by decide +kernel
theorem d_Cod_beginPicture_4 : decode b_Cod_beginPicture 4 = .ok (.iload_n 1, 1) := by decide +kernel
theorem d_Cod_beginPicture_5 : decode b_Cod_beginPicture 5 = .ok (.iload_n 2, 1) := by decide +kernel
theorem d_Cod_beginPicture_6 : decode b_Cod_beginPicture 6 = .ok (.iload_n 3, 1) := by decide +kernel
theorem d_Cod_beginPicture_7 : decode b_Cod_beginPicture 7 = .ok (.iload 4, 2) := by decide +kernel
theorem d_Cod_beginPicture_9 : decode b_Cod_beginPicture 9 = .ok (.invokevirtual 40, 3) := by decide +kernel
theorem d_Cod_beginPicture_12 : decode b_Cod_beginPicture 12 = .ok (.aload_n 0, 1) := by decide +kernel
theorem d_Cod_beginPicture_13 : decode b_Cod_beginPicture 13 = .ok (.getfield 22, 3) := by decide +kernel
theorem d_Cod_beginPicture_16 : decode b_Cod_beginPicture 16 = .ok (.aload_n 0, 1) := by decide +kernel
theorem d_Cod_beginPicture_17 : decode b_Cod_beginPicture 17 = .ok (.getfield 26, 3) := by decide +kernel
theorem d_Cod_beginPicture_20 : decode b_Cod_beginPicture 20 = .ok (.getfield 30, 3) := by decide +kernel
theorem d_Cod_beginPicture_23 : decode b_Cod_beginPicture 23 = .ok (.invokevirtual 34, 3) := by decide +kernel
theorem d_Cod_beginPicture_26 : decode b_Cod_beginPicture 26 = .ok (.aload_n 0, 1) := by decide +kernel
theorem d_Cod_beginPicture_27 : decode b_Cod_beginPicture 27 = .ok (.getfield 9, 3) := by decide +kernel
theorem d_Cod_beginPicture_30 : decode b_Cod_beginPicture 30 = .ok (.iconst 0, 1) := by decide +kernel
theorem d_Cod_beginPicture_31 : decode b_Cod_beginPicture 31 = .ok (.invokestatic 44, 3) := by decide +kernel
theorem d_Cod_beginPicture_34 : decode b_Cod_beginPicture 34 = .ok (.aload_n 0, 1) := by decide +kernel
theorem d_Cod_beginPicture_35 : decode b_Cod_beginPicture 35 = .ok (.getfield 50, 3) := by decide +kernel
theorem d_Cod_beginPicture_38 : decode b_Cod_beginPicture 38 = .ok (.iconst 0, 1) := by decide +kernel
theorem d_Cod_beginPicture_39 : decode b_Cod_beginPicture 39 = .ok (.invokestatic 44, 3) := by decide +kernel
theorem d_Cod_beginPicture_42 : decode b_Cod_beginPicture 42 = .ok (.aload_n 0, 1) := by decide +kernel
theorem d_Cod_beginPicture_43 : decode b_Cod_beginPicture 43 = .ok (.getfield 18, 3) := by decide +kernel
theorem d_Cod_beginPicture_46 : decode b_Cod_beginPicture 46 = .ok (.iconst 0, 1) := by decide +kernel
theorem d_Cod_beginPicture_47 : decode b_Cod_beginPicture 47 = .ok (.putfield 53, 3) := by decide +kernel
theorem d_Cod_beginPicture_50 : decode b_Cod_beginPicture 50 = .ok (.return_, 1) := by decide +kernel
theorem d_Cod_carryEnd_0 : decode b_Cod_carryEnd 0 = .ok (.aload_n 0, 1) := by decide +kernel
theorem d_Cod_carryEnd_1 : decode b_Cod_carryEnd 1 = .ok (.iload_n 1, 1) := by decide +kernel
theorem d_Cod_carryEnd_2 : decode b_Cod_carryEnd 2 = .ok (.invokevirtual 114, 3) := by decide +kernel
theorem d_Cod_carryEnd_5 : decode b_Cod_carryEnd 5 = .ok (.istore 5, 2) := by decide +kernel
theorem d_Cod_carryEnd_7 : decode b_Cod_carryEnd 7 = .ok (.aload_n 0, 1) := by decide +kernel
theorem d_Cod_carryEnd_8 : decode b_Cod_carryEnd 8 = .ok (.getfield 18, 3) := by decide +kernel
theorem d_Cod_carryEnd_11 : decode b_Cod_carryEnd 11 = .ok (.iload 5, 2) := by decide +kernel
theorem d_Cod_carryEnd_13 : decode b_Cod_carryEnd 13 = .ok (.iload_n 2, 1) := by decide +kernel
theorem d_Cod_carryEnd_14 : decode b_Cod_carryEnd 14 = .ok (.iload 4, 2) := by decide +kernel
theorem d_Cod_carryEnd_16 : decode b_Cod_carryEnd 16 = .ok (.invokestatic 133, 3) := by decide +kernel
theorem d_Cod_carryEnd_19 : decode b_Cod_carryEnd 19 = .ok (.iload_n 3, 1) := by decide +kernel
theorem d_Cod_carryEnd_20 : decode b_Cod_carryEnd 20 = .ok (.aload_n 0, 1) := by decide +kernel
theorem d_Cod_carryEnd_21 : decode b_Cod_carryEnd 21 = .ok (.invokevirtual 137, 3) := by decide +kernel
theorem d_Cod_carryEnd_24 : decode b_Cod_carryEnd 24 = .ok (.aload_n 0, 1) := by decide +kernel
theorem d_Cod_carryEnd_25 : decode b_Cod_carryEnd 25 = .ok (.getfield 26, 3) := by decide +kernel
theorem d_Cod_carryEnd_28 : decode b_Cod_carryEnd 28 = .ok (.getfield 127, 3) := by decide +kernel
theorem d_Cod_carryEnd_31 : decode b_Cod_carryEnd 31 = .ok (.invokevirtual 130, 3) := by decide +kernel
theorem d_Cod_carryEnd_34 : decode b_Cod_carryEnd 34 = .ok (.iload 5, 2) := by decide +kernel
theorem d_Cod_carryEnd_36 : decode b_Cod_carryEnd 36 = .ok (.ireturn, 1) := by decide +kernel
theorem d_Cod_carryRegular_0 : decode b_Cod_carryRegular 0 = .ok (.aload_n 0, 1) := by decide +kernel
theorem d_Cod_carryRegular_1 : decode b_Cod_carryRegular 1 = .ok (.iload_n 1, 1) := by decide +kernel
theorem d_Cod_carryRegular_2 : decode b_Cod_carryRegular 2 = .ok (.invokevirtual 114, 3) := by decide +kernel
theorem d_Cod_carryRegular_5 : decode b_Cod_carryRegular 5 = .ok (.istore 4, 2) := by decide +kernel
theorem d_Cod_carryRegular_7 : decode b_Cod_carryRegular 7 = .ok (.aload_n 0, 1) := by decide +kernel
theorem d_Cod_carryRegular_8 : decode b_Cod_carryRegular 8 = .ok (.getfield 18, 3) := by decide +kernel
theorem d_Cod_carryRegular_11 : decode b_Cod_carryRegular 11 = .ok (.iload 4, 2) := by decide +kernel
theorem d_Cod_carryRegular_13 : decode b_Cod_carryRegular 13 = .ok (.iload_n 3, 1) := by decide +kernel
theorem d_Cod_carryRegular_14 : decode b_Cod_carryRegular 14 = .ok (.invokestatic 118, 3) := by decide +kernel
theorem d_Cod_carryRegular_17 : decode b_Cod_carryRegular 17 = .ok (.iload_n 2, 1) := by decide +kernel
theorem d_Cod_carryRegular_18 : decode b_Cod_carryRegular 18 = .ok (.aload_n 0, 1) := by decide +kernel
theorem d_Cod_carryRegular_19 : decode b_Cod_carryRegular 19 = .ok (.getfield 26, 3) := by decide +kernel
theorem d_Cod_carryRegular_22 : decode b_Cod_carryRegular 22 = .ok (.getfield 124, 3) := by decide +kernel
theorem d_Cod_carryRegular_25 : decode b_Cod_carryRegular 25 = .ok (.aload_n 0, 1) := by decide +kernel
theorem d_Cod_carryRegular_26 : decode b_Cod_carryRegular 26 = .ok (.getfield 26, 3) := by decide +kernel
theorem d_Cod_carryRegular_29 : decode b_Cod_carryRegular 29 = .ok (.getfield 127, 3) := by decide +kernel
theorem d_Cod_carryRegular_32 : decode b_Cod_carryRegular 32 = .ok (.invokevirtual 130, 3) := by decide +kernel
theorem d_Cod_carryRegular_35 : decode b_Cod_carryRegular 35 = .ok (.iload 4, 2) := by decide +kernel
theorem d_Cod_carryRegular_37 : decode b_Cod_carryRegular 37 = .ok (.ireturn, 1) := by decide +kernel
theorem d_Cod_carryRun_0 : decode b_Cod_carryRun 0 = .ok (.iconst 0, 1) := by decide +kernel
theorem d_Cod_carryRun_1 : decode b_Cod_carryRun 1 = .ok (.istore_n 3, 1) := by decide +kernel
theorem d_Cod_carryRun_2 : decode b_Cod_carryRun 2 = .ok (.iload_n 3, 1) := by decide +kernel
theorem d_Cod_carryRun_3 : decode b_Cod_carryRun 3 = .ok (.iload_n 2, 1) := by decide +kernel
theorem d_Cod_carryRun_4 : decode b_Cod_carryRun 4 = .ok (.if_icmp .ge 32, 3) := by decide +kernel
theorem d_Cod_carryRun_7 : decode b_Cod_carryRun 7 = .ok (.aload_n 0, 1) := by decide +kernel
theorem d_Cod_carryRun_8 : decode b_Cod_carryRun 8 = .ok (.getfield 26, 3) := by decide +kernel
theorem d_Cod_carryRun_11 : decode b_Cod_carryRun 11 = .ok (.aload_n 0, 1) := by decide +kernel
theorem d_Cod_carryRun_12 : decode b_Cod_carryRun 12 = .ok (.getfield 9, 3) := by decide +kernel
theorem d_Cod_carryRun_15 : decode b_Cod_carryRun 15 = .ok (.iload_n 1, 1) := by decide +kernel
theorem d_Cod_carryRun_16 : decode b_Cod_carryRun 16 = .ok (.iload_n 3, 1) := by decide +kernel
theorem d_Cod_carryRun_17 : decode b_Cod_carryRun 17 = .ok (.iadd, 1) := by decide +kernel
theorem d_Cod_carryRun_18 : decode b_Cod_carryRun 18 = .ok (.iaload, 1) := by decide +kernel
theorem d_Cod_carryRun_19 : decode b_Cod_carryRun 19 = .ok (.aload_n 0, 1) := by decide +kernel
theorem d_Cod_carryRun_20 : decode b_Cod_carryRun 20 = .ok (.getfield 96, 3) := by decide +kernel
theorem d_Cod_carryRun_23 : decode b_Cod_carryRun 23 = .ok (.isub, 1) := by decide +kernel
theorem d_Cod_carryRun_24 : decode b_Cod_carryRun 24 = .ok (.invokevirtual 99, 3) := by decide +kernel
theorem d_Cod_carryRun_27 : decode b_Cod_carryRun 27 = .ok (.ifCond .eq 9, 3) := by decide +kernel
theorem d_Cod_carryRun_30 : decode b_Cod_carryRun 30 = .ok (.iinc 3 1, 3) := by decide +kernel
theorem d_Cod_carryRun_33 : decode b_Cod_carryRun 33 = .ok (.goto (-31), 3) := by decide +kernel
theorem d_Cod_carryRun_36 : decode b_Cod_carryRun 36 = .ok (.iload_n 3, 1) := by decide +kernel
theorem d_Cod_carryRun_37 : decode b_Cod_carryRun 37 = .ok (.istore 4, 2) := by decide +kernel
theorem d_Cod_carryRun_39 : decode b_Cod_carryRun 39 = .ok (.iload 4, 2) := by decide +kernel
theorem d_Cod_carryRun_41 : decode b_Cod_carryRun 41 = .ok (.iconst 1, 1) := by decide +kernel
theorem d_Cod_carryRun_42 : decode b_Cod_carryRun 42 = .ok (.aload_n 0, 1) := by decide +kernel
theorem d_Cod_carryRun_43 : decode b_Cod_carryRun 43 = .ok (.getfield 22, 3) := by decide +kernel
theorem d_Cod_carryRun_46 : decode b_Cod_carryRun 46 = .ok (.invokevirtual 103, 3) := by decide +kernel
theorem d_Cod_carryRun_49 : decode b_Cod_carryRun 49 = .ok (.ishl, 1) := by decide +kernel
theorem d_Cod_carryRun_50 : decode b_Cod_carryRun 50 = .ok (.if_icmp .lt 36, 3) := by decide +kernel
theorem d_Cod_carryRun_53 : decode b_Cod_carryRun 53 = .ok (.aload_n 0, 1) := by decide +kernel
theorem d_Cod_carryRun_54 : decode b_Cod_carryRun 54 = .ok (.getfield 18, 3) := by decide +kernel
theorem d_Cod_carryRun_57 : decode b_Cod_carryRun 57 = .ok (.iconst 1, 1) := by decide +kernel
theorem d_Cod_carryRun_58 : decode b_Cod_carryRun 58 = .ok (.iconst 1, 1) := by decide +kernel
theorem d_Cod_carryRun_59 : decode b_Cod_carryRun 59 = .ok (.invokevirtual 107, 3) := by decide +kernel
theorem d_Cod_carryRun_62 : decode b_Cod_carryRun 62 = .ok (.iload 4, 2) := by decide +kernel
theorem d_Cod_carryRun_64 : decode b_Cod_carryRun 64 = .ok (.iconst 1, 1) := by decide +kernel
theorem d_Cod_carryRun_65 : decode b_Cod_carryRun 65 = .ok (.aload_n 0, 1) := by decide +kernel
theorem d_Cod_carryRun_66 : decode b_Cod_carryRun 66 = .ok (.getfield 22, 3) := by decide +kernel
theorem d_Cod_carryRun_69 : decode b_Cod_carryRun 69 = .ok (.invokevirtual 103, 3) := by decide +kernel
theorem d_Cod_carryRun_72 : decode b_Cod_carryRun 72 = .ok (.ishl, 1) := by decide +kernel
theorem d_Cod_carryRun_73 : decode b_Cod_carryRun 73 = .ok (.isub, 1) := by decide +kernel
theorem d_Cod_carryRun_74 : decode b_Cod_carryRun 74 = .ok (.istore 4, 2) := by decide +kernel
theorem d_Cod_carryRun_76 : decode b_Cod_carryRun 76 = .ok (.aload_n 0, 1) := by decide +kernel
theorem d_Cod_carryRun_77 : decode b_Cod_carryRun 77 = .ok (.getfield 22, 3) := by decide +kernel
theorem d_Cod_carryRun_80 : decode b_Cod_carryRun 80 = .ok (.invokevirtual 111, 3) := by decide +kernel
theorem d_Cod_carryRun_83 : decode b_Cod_carryRun 83 = .ok (.goto (-44), 3) := by decide +kernel
theorem d_Cod_carryRun_86 : decode b_Cod_carryRun 86 = .ok (.iload_n 3, 1) := by decide +kernel
theorem d_Cod_carryRun_87 : decode b_Cod_carryRun 87 = .ok (.iload_n 2, 1) := by decide +kernel
theorem d_Cod_carryRun_88 : decode b_Cod_carryRun 88 = .ok (.if_icmp .ge 31, 3) := by decide +kernel
theorem d_Cod_carryRun_91 : decode b_Cod_carryRun 91 = .ok (.aload_n 0, 1) := by decide +kernel
theorem d_Cod_carryRun_92 : decode b_Cod_carryRun 92 = .ok (.getfield 18, 3) := by decide +kernel
theorem d_Cod_carryRun_95 : decode b_Cod_carryRun 95 = .ok (.iconst 0, 1) := by decide +kernel
theorem d_Cod_carryRun_96 : decode b_Cod_carryRun 96 = .ok (.iconst 1, 1) := by decide +kernel
theorem d_Cod_carryRun_97 : decode b_Cod_carryRun 97 = .ok (.invokevirtual 107, 3) := by decide +kernel
theorem d_Cod_carryRun_100 : decode b_Cod_carryRun 100 = .ok (.aload_n 0, 1) := by decide +kernel
theorem d_Cod_carryRun_101 : decode b_Cod_carryRun 101 = .ok (.getfield 18, 3) := by decide +kernel
theorem d_Cod_carryRun_104 : decode b_Cod_carryRun 104 = .ok (.iload 4, 2) := by decide +kernel
theorem d_Cod_carryRun_106 : decode b_Cod_carryRun 106 = .ok (.aload_n 0, 1) := by decide +kernel
theorem d_Cod_carryRun_107 : decode b_Cod_carryRun 107 = .ok (.getfield 22, 3) := by decide +kernel
theorem d_Cod_carryRun_110 : decode b_Cod_carryRun 110 = .ok (.invokevirtual 103, 3) := by decide +kernel
theorem d_Cod_carryRun_113 : decode b_Cod_carryRun 113 = .ok (.invokevirtual 107, 3) := by decide +kernel
theorem d_Cod_carryRun_116 : decode b_Cod_carryRun 116 = .ok (.goto 17, 3) := by decide +kernel
theorem d_Cod_carryRun_119 : decode b_Cod_carryRun 119 = .ok (.iload 4, 2) := by decide +kernel
theorem d_Cod_carryRun_121 : decode b_Cod_carryRun 121 = .ok (.ifCond .le 12, 3) := by decide +kernel
theorem d_Cod_carryRun_124 : decode b_Cod_carryRun 124 = .ok (.aload_n 0, 1) := by decide +kernel
theorem d_Cod_carryRun_125 : decode b_Cod_carryRun 125 = .ok (.getfield 18, 3) := by decide +kernel
theorem d_Cod_carryRun_128 : decode b_Cod_carryRun 128 = .ok (.iconst 1, 1) := by decide +kernel
theorem d_Cod_carryRun_129 : decode b_Cod_carryRun 129 = .ok (.iconst 1, 1) := by decide +kernel
theorem d_Cod_carryRun_130 : decode b_Cod_carryRun 130 = .ok (.invokevirtual 107, 3) := by decide +kernel
theorem d_Cod_carryRun_133 : decode b_Cod_carryRun 133 = .ok (.iload_n 3, 1) := by decide +kernel
theorem d_Cod_carryRun_134 : decode b_Cod_carryRun 134 = .ok (.ireturn, 1) := by decide +kernel
theorem d_Cod_init_0 : decode b_Cod_init 0 = .ok (.aload_n 0, 1) := by decide +kernel
theorem d_Cod_init_1 : decode b_Cod_init 1 = .ok (.invokespecial 1, 3) := by decide +kernel
theorem d_Cod_init_4 : decode b_Cod_init 4 = .ok (.aload_n 0, 1) := by decide +kernel
theorem d_Cod_init_5 : decode b_Cod_init 5 = .ok (.bipush 64, 2) := by decide +kernel
theorem d_Cod_init_7 : decode b_Cod_init 7 = .ok (.newarray .int, 2) := by decide +kernel
theorem d_Cod_init_9 : decode b_Cod_init 9 = .ok (.putfield 9, 3) := by decide +kernel
theorem d_Cod_init_12 : decode b_Cod_init 12 = .ok (.aload_n 0, 1) := by decide +kernel
theorem d_Cod_init_13 : decode b_Cod_init 13 = .ok (.new 15, 3) := by decide +kernel
theorem d_Cod_init_16 : decode b_Cod_init 16 = .ok (.dup, 1) := by decide +kernel
theorem d_Cod_init_17 : decode b_Cod_init 17 = .ok (.invokespecial 17, 3) := by decide +kernel
theorem d_Cod_init_20 : decode b_Cod_init 20 = .ok (.putfield 18, 3) := by decide +kernel
theorem d_Cod_init_23 : decode b_Cod_init 23 = .ok (.aload_n 0, 1) := by decide +kernel
theorem d_Cod_init_24 : decode b_Cod_init 24 = .ok (.getfield 22, 3) := by decide +kernel
theorem d_Cod_init_27 : decode b_Cod_init 27 = .ok (.aload_n 0, 1) := by decide +kernel
theorem d_Cod_init_28 : decode b_Cod_init 28 = .ok (.getfield 26, 3) := by decide +kernel
theorem d_Cod_init_31 : decode b_Cod_init 31 = .ok (.getfield 30, 3) := by decide +kernel
theorem d_Cod_init_34 : decode b_Cod_init 34 = .ok (.invokevirtual 34, 3) := by decide +kernel
theorem d_Cod_init_37 : decode b_Cod_init 37 = .ok (.return_, 1) := by decide +kernel
theorem d_Cod_sampleIn_0 : decode b_Cod_sampleIn 0 = .ok (.lload_n 0, 1) := by decide +kernel
theorem d_Cod_sampleIn_1 : decode b_Cod_sampleIn 1 = .ok (.bipush 56, 2) := by decide +kernel
theorem d_Cod_sampleIn_3 : decode b_Cod_sampleIn 3 = .ok (.bipush 8, 2) := by decide +kernel
theorem d_Cod_sampleIn_5 : decode b_Cod_sampleIn 5 = .ok (.iload_n 2, 1) := by decide +kernel
theorem d_Cod_sampleIn_6 : decode b_Cod_sampleIn 6 = .ok (.imul, 1) := by decide +kernel
theorem d_Cod_sampleIn_7 : decode b_Cod_sampleIn 7 = .ok (.isub, 1) := by decide +kernel
theorem d_Cod_sampleIn_8 : decode b_Cod_sampleIn 8 = .ok (.lushr, 1) := by decide +kernel
theorem d_Cod_sampleIn_9 : decode b_Cod_sampleIn 9 = .ok (.l2i, 1) := by decide +kernel
theorem d_Cod_sampleIn_10 : decode b_Cod_sampleIn 10 = .ok (.sipush 255, 3) := by decide +kernel
theorem d_Cod_sampleIn_13 : decode b_Cod_sampleIn 13 = .ok (.iand, 1) := by decide +kernel
theorem d_Cod_sampleIn_14 : decode b_Cod_sampleIn 14 = .ok (.ireturn, 1) := by decide +kernel
theorem d_Cod_takeError_0 : decode b_Cod_takeError 0 = .ok (.aload_n 0, 1) := by decide +kernel
theorem d_Cod_takeError_1 : decode b_Cod_takeError 1 = .ok (.getfield 26, 3) := by decide +kernel
theorem d_Cod_takeError_4 : decode b_Cod_takeError 4 = .ok (.aload_n 0, 1) := by decide +kernel
theorem d_Cod_takeError_5 : decode b_Cod_takeError 5 = .ok (.getfield 140, 3) := by decide +kernel
theorem d_Cod_takeError_8 : decode b_Cod_takeError 8 = .ok (.aload_n 0, 1) := by decide +kernel
theorem d_Cod_takeError_9 : decode b_Cod_takeError 9 = .ok (.getfield 9, 3) := by decide +kernel
theorem d_Cod_takeError_12 : decode b_Cod_takeError 12 = .ok (.iload_n 1, 1) := by decide +kernel
theorem d_Cod_takeError_13 : decode b_Cod_takeError 13 = .ok (.iaload, 1) := by decide +kernel
theorem d_Cod_takeError_14 : decode b_Cod_takeError 14 = .ok (.aload_n 0, 1) := by decide +kernel
theorem d_Cod_takeError_15 : decode b_Cod_takeError 15 = .ok (.getfield 143, 3) := by decide +kernel
theorem d_Cod_takeError_18 : decode b_Cod_takeError 18 = .ok (.isub, 1) := by decide +kernel
theorem d_Cod_takeError_19 : decode b_Cod_takeError 19 = .ok (.imul, 1) := by decide +kernel
theorem d_Cod_takeError_20 : decode b_Cod_takeError 20 = .ok (.invokevirtual 146, 3) := by decide +kernel
theorem d_Cod_takeError_23 : decode b_Cod_takeError 23 = .ok (.istore_n 2, 1) := by decide +kernel
theorem d_Cod_takeError_24 : decode b_Cod_takeError 24 = .ok (.aload_n 0, 1) := by decide +kernel
theorem d_Cod_takeError_25 : decode b_Cod_takeError 25 = .ok (.getfield 50, 3) := by decide +kernel
theorem d_Cod_takeError_28 : decode b_Cod_takeError 28 = .ok (.iload_n 1, 1) := by decide +kernel
theorem d_Cod_takeError_29 : decode b_Cod_takeError 29 = .ok (.aload_n 0, 1) := by decide +kernel
theorem d_Cod_takeError_30 : decode b_Cod_takeError 30 = .ok (.getfield 26, 3) := by decide +kernel
theorem d_Cod_takeError_33 : decode b_Cod_takeError 33 = .ok (.aload_n 0, 1) := by decide +kernel
theorem d_Cod_takeError_34 : decode b_Cod_takeError 34 = .ok (.getfield 143, 3) := by decide +kernel
theorem d_Cod_takeError_37 : decode b_Cod_takeError 37 = .ok (.aload_n 0, 1) := by decide +kernel
theorem d_Cod_takeError_38 : decode b_Cod_takeError 38 = .ok (.getfield 140, 3) := by decide +kernel
theorem d_Cod_takeError_41 : decode b_Cod_takeError 41 = .ok (.iload_n 2, 1) := by decide +kernel
theorem d_Cod_takeError_42 : decode b_Cod_takeError 42 = .ok (.imul, 1) := by decide +kernel
theorem d_Cod_takeError_43 : decode b_Cod_takeError 43 = .ok (.aload_n 0, 1) := by decide +kernel
theorem d_Cod_takeError_44 : decode b_Cod_takeError 44 = .ok (.getfield 26, 3) := by decide +kernel
theorem d_Cod_takeError_47 : decode b_Cod_takeError 47 = .ok (.getfield 149, 3) := by decide +kernel
theorem d_Cod_takeError_50 : decode b_Cod_takeError 50 = .ok (.imul, 1) := by decide +kernel
theorem d_Cod_takeError_51 : decode b_Cod_takeError 51 = .ok (.iadd, 1) := by decide +kernel
theorem d_Cod_takeError_52 : decode b_Cod_takeError 52 = .ok (.invokevirtual 152, 3) := by decide +kernel
theorem d_Cod_takeError_55 : decode b_Cod_takeError 55 = .ok (.iastore, 1) := by decide +kernel
theorem d_Cod_takeError_56 : decode b_Cod_takeError 56 = .ok (.aload_n 0, 1) := by decide +kernel
theorem d_Cod_takeError_57 : decode b_Cod_takeError 57 = .ok (.getfield 26, 3) := by decide +kernel
theorem d_Cod_takeError_60 : decode b_Cod_takeError 60 = .ok (.iload_n 2, 1) := by decide +kernel
theorem d_Cod_takeError_61 : decode b_Cod_takeError 61 = .ok (.invokevirtual 155, 3) := by decide +kernel
theorem d_Cod_takeError_64 : decode b_Cod_takeError 64 = .ok (.ireturn, 1) := by decide +kernel
theorem d_Cod_takeOver_0 : decode b_Cod_takeOver 0 = .ok (.aload_n 1, 1) := by decide +kernel
theorem d_Cod_takeOver_1 : decode b_Cod_takeOver 1 = .ok (.getfield 70, 3) := by decide +kernel
theorem d_Cod_takeOver_4 : decode b_Cod_takeOver 4 = .ok (.astore_n 2, 1) := by decide +kernel
theorem d_Cod_takeOver_5 : decode b_Cod_takeOver 5 = .ok (.aload_n 0, 1) := by decide +kernel
theorem d_Cod_takeOver_6 : decode b_Cod_takeOver 6 = .ok (.getfield 26, 3) := by decide +kernel
theorem d_Cod_takeOver_9 : decode b_Cod_takeOver 9 = .ok (.aload_n 2, 1) := by decide +kernel
theorem d_Cod_takeOver_10 : decode b_Cod_takeOver 10 = .ok (.getfield 56, 3) := by decide +kernel
theorem d_Cod_takeOver_13 : decode b_Cod_takeOver 13 = .ok (.aload_n 2, 1) := by decide +kernel
theorem d_Cod_takeOver_14 : decode b_Cod_takeOver 14 = .ok (.getfield 73, 3) := by decide +kernel
theorem d_Cod_takeOver_17 : decode b_Cod_takeOver 17 = .ok (.aload_n 2, 1) := by decide +kernel
theorem d_Cod_takeOver_18 : decode b_Cod_takeOver 18 = .ok (.getfield 63, 3) := by decide +kernel
theorem d_Cod_takeOver_21 : decode b_Cod_takeOver 21 = .ok (.aload_n 2, 1) := by decide +kernel
theorem d_Cod_takeOver_22 : decode b_Cod_takeOver 22 = .ok (.getfield 76, 3) := by decide +kernel
theorem d_Cod_takeOver_25 : decode b_Cod_takeOver 25 = .ok (.invokevirtual 40, 3) := by decide +kernel
theorem d_Cod_takeOver_28 : decode b_Cod_takeOver 28 = .ok (.aload_n 0, 1) := by decide +kernel
theorem d_Cod_takeOver_29 : decode b_Cod_takeOver 29 = .ok (.getfield 22, 3) := by decide +kernel
theorem d_Cod_takeOver_32 : decode b_Cod_takeOver 32 = .ok (.aload_n 1, 1) := by decide +kernel
theorem d_Cod_takeOver_33 : decode b_Cod_takeOver 33 = .ok (.getfield 79, 3) := by decide +kernel
theorem d_Cod_takeOver_36 : decode b_Cod_takeOver 36 = .ok (.invokevirtual 80, 3) := by decide +kernel
theorem d_Cod_takeOver_39 : decode b_Cod_takeOver 39 = .ok (.aload_n 1, 1) := by decide +kernel
theorem d_Cod_takeOver_40 : decode b_Cod_takeOver 40 = .ok (.getfield 84, 3) := by decide +kernel
theorem d_Cod_takeOver_43 : decode b_Cod_takeOver 43 = .ok (.iconst 0, 1) := by decide +kernel
theorem d_Cod_takeOver_44 : decode b_Cod_takeOver 44 = .ok (.aload_n 0, 1) := by decide +kernel
theorem d_Cod_takeOver_45 : decode b_Cod_takeOver 45 = .ok (.getfield 50, 3) := by decide +kernel
theorem d_Cod_takeOver_48 : decode b_Cod_takeOver 48 = .ok (.iconst 0, 1) := by decide +kernel
theorem d_Cod_takeOver_49 : decode b_Cod_takeOver 49 = .ok (.bipush 64, 2) := by decide +kernel
theorem d_Cod_takeOver_51 : decode b_Cod_takeOver 51 = .ok (.invokestatic 85, 3) := by decide +kernel
theorem d_Cod_takeOver_54 : decode b_Cod_takeOver 54 = .ok (.aload_n 1, 1) := by decide +kernel
theorem d_Cod_takeOver_55 : decode b_Cod_takeOver 55 = .ok (.getfield 84, 3) := by decide +kernel
theorem d_Cod_takeOver_58 : decode b_Cod_takeOver 58 = .ok (.iconst 0, 1) := by decide +kernel
theorem d_Cod_takeOver_59 : decode b_Cod_takeOver 59 = .ok (.aload_n 0, 1) := by decide +kernel
theorem d_Cod_takeOver_60 : decode b_Cod_takeOver 60 = .ok (.getfield 9, 3) := by decide +kernel
theorem d_Cod_takeOver_63 : decode b_Cod_takeOver 63 = .ok (.iconst 0, 1) := by decide +kernel
theorem d_Cod_takeOver_64 : decode b_Cod_takeOver 64 = .ok (.bipush 64, 2) := by decide +kernel
theorem d_Cod_takeOver_66 : decode b_Cod_takeOver 66 = .ok (.invokestatic 85, 3) := by decide +kernel
theorem d_Cod_takeOver_69 : decode b_Cod_takeOver 69 = .ok (.return_, 1) := by decide +kernel
theorem d_Cod_takeRow_0 : decode b_Cod_takeRow 0 = .ok (.iconst 0, 1) := by decide +kernel
theorem d_Cod_takeRow_1 : decode b_Cod_takeRow 1 = .ok (.istore 4, 2) := by decide +kernel
theorem d_Cod_takeRow_3 : decode b_Cod_takeRow 3 = .ok (.iload 4, 2) := by decide +kernel
theorem d_Cod_takeRow_5 : decode b_Cod_takeRow 5 = .ok (.aload_n 0, 1) := by decide +kernel
theorem d_Cod_takeRow_6 : decode b_Cod_takeRow 6 = .ok (.getfield 26, 3) := by decide +kernel
theorem d_Cod_takeRow_9 : decode b_Cod_takeRow 9 = .ok (.getfield 56, 3) := by decide +kernel
theorem d_Cod_takeRow_12 : decode b_Cod_takeRow 12 = .ok (.if_icmp .ge 27, 3) := by decide +kernel
theorem d_Cod_takeRow_15 : decode b_Cod_takeRow 15 = .ok (.lload_n 2, 1) := by decide +kernel
theorem d_Cod_takeRow_16 : decode b_Cod_takeRow 16 = .ok (.iload 4, 2) := by decide +kernel
theorem d_Cod_takeRow_18 : decode b_Cod_takeRow 18 = .ok (.invokestatic 59, 3) := by decide +kernel
theorem d_Cod_takeRow_21 : decode b_Cod_takeRow 21 = .ok (.aload_n 0, 1) := by decide +kernel
theorem d_Cod_takeRow_22 : decode b_Cod_takeRow 22 = .ok (.getfield 26, 3) := by decide +kernel
theorem d_Cod_takeRow_25 : decode b_Cod_takeRow 25 = .ok (.getfield 63, 3) := by decide +kernel
theorem d_Cod_takeRow_28 : decode b_Cod_takeRow 28 = .ok (.if_icmp .le 5, 3) := by decide +kernel
theorem d_Cod_takeRow_31 : decode b_Cod_takeRow 31 = .ok (.iconst 0, 1) := by decide +kernel
theorem d_Cod_takeRow_32 : decode b_Cod_takeRow 32 = .ok (.ireturn, 1) := by decide +kernel
theorem d_Cod_takeRow_33 : decode b_Cod_takeRow 33 = .ok (.iinc 4 1, 3) := by decide +kernel
theorem d_Cod_takeRow_36 : decode b_Cod_takeRow 36 = .ok (.goto (-33), 3) := by decide +kernel
theorem d_Cod_takeRow_39 : decode b_Cod_takeRow 39 = .ok (.iconst 0, 1) := by decide +kernel
theorem d_Cod_takeRow_40 : decode b_Cod_takeRow 40 = .ok (.istore 4, 2) := by decide +kernel
theorem d_Cod_takeRow_42 : decode b_Cod_takeRow 42 = .ok (.iload 4, 2) := by decide +kernel
theorem d_Cod_takeRow_44 : decode b_Cod_takeRow 44 = .ok (.aload_n 0, 1) := by decide +kernel
theorem d_Cod_takeRow_45 : decode b_Cod_takeRow 45 = .ok (.getfield 26, 3) := by decide +kernel
theorem d_Cod_takeRow_48 : decode b_Cod_takeRow 48 = .ok (.getfield 56, 3) := by decide +kernel
theorem d_Cod_takeRow_51 : decode b_Cod_takeRow 51 = .ok (.if_icmp .ge 26, 3) := by decide +kernel
theorem d_Cod_takeRow_54 : decode b_Cod_takeRow 54 = .ok (.aload_n 0, 1) := by decide +kernel
theorem d_Cod_takeRow_55 : decode b_Cod_takeRow 55 = .ok (.getfield 9, 3) := by decide +kernel
theorem d_Cod_takeRow_58 : decode b_Cod_takeRow 58 = .ok (.iload 4, 2) := by decide +kernel
theorem d_Cod_takeRow_60 : decode b_Cod_takeRow 60 = .ok (.iload_n 1, 1) := by decide +kernel
theorem d_Cod_takeRow_61 : decode b_Cod_takeRow 61 = .ok (.invokestatic 66, 3) := by decide +kernel
theorem d_Cod_takeRow_64 : decode b_Cod_takeRow 64 = .ok (.lload_n 2, 1) := by decide +kernel
theorem d_Cod_takeRow_65 : decode b_Cod_takeRow 65 = .ok (.iload 4, 2) := by decide +kernel
theorem d_Cod_takeRow_67 : decode b_Cod_takeRow 67 = .ok (.invokestatic 59, 3) := by decide +kernel
theorem d_Cod_takeRow_70 : decode b_Cod_takeRow 70 = .ok (.iastore, 1) := by decide +kernel
theorem d_Cod_takeRow_71 : decode b_Cod_takeRow 71 = .ok (.iinc 4 1, 3) := by decide +kernel
theorem d_Cod_takeRow_74 : decode b_Cod_takeRow 74 = .ok (.goto (-32), 3) := by decide +kernel
theorem d_Cod_takeRow_77 : decode b_Cod_takeRow 77 = .ok (.iconst 1, 1) := by decide +kernel
theorem d_Cod_takeRow_78 : decode b_Cod_takeRow 78 = .ok (.ireturn, 1) := by decide +kernel
theorem d_Cod_writeHead_0 : decode b_Cod_writeHead 0 = .ok (.aload_n 0, 1) := by decide +kernel
theorem d_Cod_writeHead_1 : decode b_Cod_writeHead 1 = .ok (.getfield 18, 3) := by decide +kernel
theorem d_Cod_writeHead_4 : decode b_Cod_writeHead 4 = .ok (.invokevirtual 91, 3) := by decide +kernel
theorem d_Cod_writeHead_7 : decode b_Cod_writeHead 7 = .ok (.aload_n 0, 1) := by decide +kernel
theorem d_Cod_writeHead_8 : decode b_Cod_writeHead 8 = .ok (.getfield 18, 3) := by decide +kernel
theorem d_Cod_writeHead_11 : decode b_Cod_writeHead 11 = .ok (.sipush 255, 3) := by decide +kernel
theorem d_Cod_writeHead_14 : decode b_Cod_writeHead 14 = .ok (.invokevirtual 93, 3) := by decide +kernel
theorem d_Cod_writeHead_17 : decode b_Cod_writeHead 17 = .ok (.aload_n 0, 1) := by decide +kernel
theorem d_Cod_writeHead_18 : decode b_Cod_writeHead 18 = .ok (.getfield 18, 3) := by decide +kernel
theorem d_Cod_writeHead_21 : decode b_Cod_writeHead 21 = .ok (.sipush 216, 3) := by decide +kernel
theorem d_Cod_writeHead_24 : decode b_Cod_writeHead 24 = .ok (.invokevirtual 93, 3) := by decide +kernel
theorem d_Cod_writeHead_27 : decode b_Cod_writeHead 27 = .ok (.aload_n 0, 1) := by decide +kernel
theorem d_Cod_writeHead_28 : decode b_Cod_writeHead 28 = .ok (.getfield 18, 3) := by decide +kernel
theorem d_Cod_writeHead_31 : decode b_Cod_writeHead 31 = .ok (.aload_n 0, 1) := by decide +kernel
theorem d_Cod_writeHead_32 : decode b_Cod_writeHead 32 = .ok (.getfield 26, 3) := by decide +kernel
theorem d_Cod_writeHead_35 : decode b_Cod_writeHead 35 = .ok (.getfield 56, 3) := by decide +kernel
theorem d_Cod_writeHead_38 : decode b_Cod_writeHead 38 = .ok (.invokevirtual 93, 3) := by decide +kernel
theorem d_Cod_writeHead_41 : decode b_Cod_writeHead 41 = .ok (.aload_n 0, 1) := by decide +kernel
theorem d_Cod_writeHead_42 : decode b_Cod_writeHead 42 = .ok (.getfield 18, 3) := by decide +kernel
theorem d_Cod_writeHead_45 : decode b_Cod_writeHead 45 = .ok (.aload_n 0, 1) := by decide +kernel
theorem d_Cod_writeHead_46 : decode b_Cod_writeHead 46 = .ok (.getfield 26, 3) := by decide +kernel
theorem d_Cod_writeHead_49 : decode b_Cod_writeHead 49 = .ok (.getfield 73, 3) := by decide +kernel
theorem d_Cod_writeHead_52 : decode b_Cod_writeHead 52 = .ok (.invokevirtual 93, 3) := by decide +kernel
theorem d_Cod_writeHead_55 : decode b_Cod_writeHead 55 = .ok (.aload_n 0, 1) := by decide +kernel
theorem d_Cod_writeHead_56 : decode b_Cod_writeHead 56 = .ok (.getfield 18, 3) := by decide +kernel
theorem d_Cod_writeHead_59 : decode b_Cod_writeHead 59 = .ok (.aload_n 0, 1) := by decide +kernel
theorem d_Cod_writeHead_60 : decode b_Cod_writeHead 60 = .ok (.getfield 26, 3) := by decide +kernel
theorem d_Cod_writeHead_63 : decode b_Cod_writeHead 63 = .ok (.getfield 63, 3) := by decide +kernel
theorem d_Cod_writeHead_66 : decode b_Cod_writeHead 66 = .ok (.invokevirtual 93, 3) := by decide +kernel
theorem d_Cod_writeHead_69 : decode b_Cod_writeHead 69 = .ok (.aload_n 0, 1) := by decide +kernel
theorem d_Cod_writeHead_70 : decode b_Cod_writeHead 70 = .ok (.getfield 18, 3) := by decide +kernel
theorem d_Cod_writeHead_73 : decode b_Cod_writeHead 73 = .ok (.aload_n 0, 1) := by decide +kernel
theorem d_Cod_writeHead_74 : decode b_Cod_writeHead 74 = .ok (.getfield 26, 3) := by decide +kernel
theorem d_Cod_writeHead_77 : decode b_Cod_writeHead 77 = .ok (.getfield 76, 3) := by decide +kernel
theorem d_Cod_writeHead_80 : decode b_Cod_writeHead 80 = .ok (.invokevirtual 93, 3) := by decide +kernel
theorem d_Cod_writeHead_83 : decode b_Cod_writeHead 83 = .ok (.return_, 1) := by decide +kernel
theorem d_Ctx_correctDown_0 : decode b_Ctx_correctDown 0 = .ok (.aload_n 0, 1) := by decide +kernel
theorem d_Ctx_correctDown_1 : decode b_Ctx_correctDown 1 = .ok (.getfield 13, 3) := by decide +kernel
theorem d_Ctx_correctDown_4 : decode b_Ctx_correctDown 4 = .ok (.iload_n 1, 1) := by decide +kernel
theorem d_Ctx_correctDown_5 : decode b_Ctx_correctDown 5 = .ok (.aload_n 0, 1) := by decide +kernel
theorem d_Ctx_correctDown_6 : decode b_Ctx_correctDown 6 = .ok (.getfield 13, 3) := by decide +kernel
theorem d_Ctx_correctDown_9 : decode b_Ctx_correctDown 9 = .ok (.iload_n 1, 1) := by decide +kernel
theorem d_Ctx_correctDown_10 : decode b_Ctx_correctDown 10 = .ok (.iaload, 1) := by decide +kernel
theorem d_Ctx_correctDown_11 : decode b_Ctx_correctDown 11 = .ok (.aload_n 0, 1) := by decide +kernel
theorem d_Ctx_correctDown_12 : decode b_Ctx_correctDown 12 = .ok (.getfield 19, 3) := by decide +kernel
theorem d_Ctx_correctDown_15 : decode b_Ctx_correctDown 15 = .ok (.iload_n 1, 1) := by decide +kernel
theorem d_Ctx_correctDown_16 : decode b_Ctx_correctDown 16 = .ok (.iaload, 1) := by decide +kernel
theorem d_Ctx_correctDown_17 : decode b_Ctx_correctDown 17 = .ok (.iadd, 1) := by decide +kernel
theorem d_Ctx_correctDown_18 : decode b_Ctx_correctDown 18 = .ok (.iconst 1, 1) := by decide +kernel
theorem d_Ctx_correctDown_19 : decode b_Ctx_correctDown 19 = .ok (.aload_n 0, 1) := by decide +kernel
theorem d_Ctx_correctDown_20 : decode b_Ctx_correctDown 20 = .ok (.getfield 19, 3) := by decide +kernel
theorem d_Ctx_correctDown_23 : decode b_Ctx_correctDown 23 = .ok (.iload_n 1, 1) := by decide +kernel
theorem d_Ctx_correctDown_24 : decode b_Ctx_correctDown 24 = .ok (.iaload, 1) := by decide +kernel
theorem d_Ctx_correctDown_25 : decode b_Ctx_correctDown 25 = .ok (.isub, 1) := by decide +kernel
theorem d_Ctx_correctDown_26 : decode b_Ctx_correctDown 26 = .ok (.invokestatic 25, 3) := by decide +kernel
theorem d_Ctx_correctDown_29 : decode b_Ctx_correctDown 29 = .ok (.iastore, 1) := by decide +kernel
theorem d_Ctx_correctDown_30 : decode b_Ctx_correctDown 30 = .ok (.aload_n 0, 1) := by decide +kernel
theorem d_Ctx_correctDown_31 : decode b_Ctx_correctDown 31 = .ok (.getfield 16, 3) := by decide +kernel
theorem d_Ctx_correctDown_34 : decode b_Ctx_correctDown 34 = .ok (.iload_n 1, 1) := by decide +kernel
theorem d_Ctx_correctDown_35 : decode b_Ctx_correctDown 35 = .ok (.aload_n 0, 1) := by decide +kernel
theorem d_Ctx_correctDown_36 : decode b_Ctx_correctDown 36 = .ok (.getfield 16, 3) := by decide +kernel
theorem d_Ctx_correctDown_39 : decode b_Ctx_correctDown 39 = .ok (.iload_n 1, 1) := by decide +kernel
theorem d_Ctx_correctDown_40 : decode b_Ctx_correctDown 40 = .ok (.iaload, 1) := by decide +kernel
theorem d_Ctx_correctDown_41 : decode b_Ctx_correctDown 41 = .ok (.iconst 1, 1) := by decide +kernel
theorem d_Ctx_correctDown_42 : decode b_Ctx_correctDown 42 = .ok (.isub, 1) := by decide +kernel
theorem d_Ctx_correctDown_43 : decode b_Ctx_correctDown 43 = .ok (.bipush (-128), 2) := by decide +kernel
theorem d_Ctx_correctDown_45 : decode b_Ctx_correctDown 45 = .ok (.invokestatic 25, 3) := by decide +kernel
theorem d_Ctx_correctDown_48 : decode b_Ctx_correctDown 48 = .ok (.iastore, 1) := by decide +kernel
theorem d_Ctx_correctDown_49 : decode b_Ctx_correctDown 49 = .ok (.return_, 1) := by decide +kernel
theorem d_Ctx_correctUp_0 : decode b_Ctx_correctUp 0 = .ok (.aload_n 0, 1) := by decide +kernel
theorem d_Ctx_correctUp_1 : decode b_Ctx_correctUp 1 = .ok (.getfield 13, 3) := by decide +kernel
theorem d_Ctx_correctUp_4 : decode b_Ctx_correctUp 4 = .ok (.iload_n 1, 1) := by decide +kernel
theorem d_Ctx_correctUp_5 : decode b_Ctx_correctUp 5 = .ok (.aload_n 0, 1) := by decide +kernel
theorem d_Ctx_correctUp_6 : decode b_Ctx_correctUp 6 = .ok (.getfield 13, 3) := by decide +kernel
theorem d_Ctx_correctUp_9 : decode b_Ctx_correctUp 9 = .ok (.iload_n 1, 1) := by decide +kernel
theorem d_Ctx_correctUp_10 : decode b_Ctx_correctUp 10 = .ok (.iaload, 1) := by decide +kernel
theorem d_Ctx_correctUp_11 : decode b_Ctx_correctUp 11 = .ok (.aload_n 0, 1) := by decide +kernel
theorem d_Ctx_correctUp_12 : decode b_Ctx_correctUp 12 = .ok (.getfield 19, 3) := by decide +kernel
theorem d_Ctx_correctUp_15 : decode b_Ctx_correctUp 15 = .ok (.iload_n 1, 1) := by decide +kernel
theorem d_Ctx_correctUp_16 : decode b_Ctx_correctUp 16 = .ok (.iaload, 1) := by decide +kernel
theorem d_Ctx_correctUp_17 : decode b_Ctx_correctUp 17 = .ok (.isub, 1) := by decide +kernel
theorem d_Ctx_correctUp_18 : decode b_Ctx_correctUp 18 = .ok (.iconst 0, 1) := by decide +kernel
theorem d_Ctx_correctUp_19 : decode b_Ctx_correctUp 19 = .ok (.invokestatic 64, 3) := by decide +kernel
theorem d_Ctx_correctUp_22 : decode b_Ctx_correctUp 22 = .ok (.iastore, 1) := by decide +kernel
theorem d_Ctx_correctUp_23 : decode b_Ctx_correctUp 23 = .ok (.aload_n 0, 1) := by decide +kernel
theorem d_Ctx_correctUp_24 : decode b_Ctx_correctUp 24 = .ok (.getfield 16, 3) := by decide +kernel
theorem d_Ctx_correctUp_27 : decode b_Ctx_correctUp 27 = .ok (.iload_n 1, 1) := by decide +kernel
theorem d_Ctx_correctUp_28 : decode b_Ctx_correctUp 28 = .ok (.aload_n 0, 1) := by decide +kernel
theorem d_Ctx_correctUp_29 : decode b_Ctx_correctUp 29 = .ok (.getfield 16, 3) := by decide +kernel
theorem d_Ctx_correctUp_32 : decode b_Ctx_correctUp 32 = .ok (.iload_n 1, 1) := by decide +kernel
theorem d_Ctx_correctUp_33 : decode b_Ctx_correctUp 33 = .ok (.iaload, 1) := by decide +kernel
theorem d_Ctx_correctUp_34 : decode b_Ctx_correctUp 34 = .ok (.iconst 1, 1) := by decide +kernel
theorem d_Ctx_correctUp_35 : decode b_Ctx_correctUp 35 = .ok (.iadd, 1) := by decide +kernel
theorem d_Ctx_correctUp_36 : decode b_Ctx_correctUp 36 = .ok (.bipush 127, 2) := by decide +kernel
theorem d_Ctx_correctUp_38 : decode b_Ctx_correctUp 38 = .ok (.invokestatic 64, 3) := by decide +kernel
theorem d_Ctx_correctUp_41 : decode b_Ctx_correctUp 41 = .ok (.iastore, 1) := by decide +kernel
theorem d_Ctx_correctUp_42 : decode b_Ctx_correctUp 42 = .ok (.return_, 1) := by decide +kernel
theorem d_Ctx_init_0 : decode b_Ctx_init 0 = .ok (.aload_n 0, 1) := by decide +kernel
theorem d_Ctx_init_1 : decode b_Ctx_init 1 = .ok (.invokespecial 1, 3) := by decide +kernel
theorem d_Ctx_init_4 : decode b_Ctx_init 4 = .ok (.aload_n 0, 1) := by decide +kernel
theorem d_Ctx_init_5 : decode b_Ctx_init 5 = .ok (.sipush 367, 3) := by decide +kernel
theorem d_Ctx_init_8 : decode b_Ctx_init 8 = .ok (.newarray .int, 2) := by decide +kernel
theorem d_Ctx_init_10 : decode b_Ctx_init 10 = .ok (.putfield 9, 3) := by decide +kernel
theorem d_Ctx_init_13 : decode b_Ctx_init 13 = .ok (.aload_n 0, 1) := by decide +kernel
theorem d_Ctx_init_14 : decode b_Ctx_init 14 = .ok (.sipush 367, 3) := by decide +kernel
theorem d_Ctx_init_17 : decode b_Ctx_init 17 = .ok (.newarray .int, 2) := by decide +kernel
theorem d_Ctx_init_19 : decode b_Ctx_init 19 = .ok (.putfield 13, 3) := by decide +kernel
theorem d_Ctx_init_22 : decode b_Ctx_init 22 = .ok (.aload_n 0, 1) := by decide +kernel
theorem d_Ctx_init_23 : decode b_Ctx_init 23 = .ok (.sipush 367, 3) := by decide +kernel
theorem d_Ctx_init_26 : decode b_Ctx_init 26 = .ok (.newarray .int, 2) := by decide +kernel
theorem d_Ctx_init_28 : decode b_Ctx_init 28 = .ok (.putfield 16, 3) := by decide +kernel
theorem d_Ctx_init_31 : decode b_Ctx_init 31 = .ok (.aload_n 0, 1) := by decide +kernel
theorem d_Ctx_init_32 : decode b_Ctx_init 32 = .ok (.sipush 367, 3) := by decide +kernel
theorem d_Ctx_init_35 : decode b_Ctx_init 35 = .ok (.newarray .int, 2) := by decide +kernel
theorem d_Ctx_init_37 : decode b_Ctx_init 37 = .ok (.putfield 19, 3) := by decide +kernel
theorem d_Ctx_init_40 : decode b_Ctx_init 40 = .ok (.aload_n 0, 1) := by decide +kernel
theorem d_Ctx_init_41 : decode b_Ctx_init 41 = .ok (.sipush 367, 3) := by decide +kernel
theorem d_Ctx_init_44 : decode b_Ctx_init 44 = .ok (.newarray .int, 2) := by decide +kernel
theorem d_Ctx_init_46 : decode b_Ctx_init 46 = .ok (.putfield 22, 3) := by decide +kernel
theorem d_Ctx_init_49 : decode b_Ctx_init 49 = .ok (.return_, 1) := by decide +kernel
theorem d_Ctx_isMostlyBelow_0 : decode b_Ctx_isMostlyBelow 0 = .ok (.iconst 2, 1) := by decide +kernel
theorem d_Ctx_isMostlyBelow_1 : decode b_Ctx_isMostlyBelow 1 = .ok (.aload_n 0, 1) := by decide +kernel
theorem d_Ctx_isMostlyBelow_2 : decode b_Ctx_isMostlyBelow 2 = .ok (.getfield 22, 3) := by decide +kernel
theorem d_Ctx_isMostlyBelow_5 : decode b_Ctx_isMostlyBelow 5 = .ok (.iload_n 1, 1) := by decide +kernel
theorem d_Ctx_isMostlyBelow_6 : decode b_Ctx_isMostlyBelow 6 = .ok (.iaload, 1) := by decide +kernel
theorem d_Ctx_isMostlyBelow_7 : decode b_Ctx_isMostlyBelow 7 = .ok (.imul, 1) := by decide +kernel
theorem d_Ctx_isMostlyBelow_8 : decode b_Ctx_isMostlyBelow 8 = .ok (.aload_n 0, 1) := by decide +kernel
theorem d_Ctx_isMostlyBelow_9 : decode b_Ctx_isMostlyBelow 9 = .ok (.getfield 19, 3) := by decide +kernel
theorem d_Ctx_isMostlyBelow_12 : decode b_Ctx_isMostlyBelow 12 = .ok (.iload_n 1, 1) := by decide +kernel
theorem d_Ctx_isMostlyBelow_13 : decode b_Ctx_isMostlyBelow 13 = .ok (.iaload, 1) := by decide +kernel
theorem d_Ctx_isMostlyBelow_14 : decode b_Ctx_isMostlyBelow 14 = .ok (.if_icmp .lt 7, 3) := by decide +kernel
theorem d_Ctx_isMostlyBelow_17 : decode b_Ctx_isMostlyBelow 17 = .ok (.iconst 1, 1) := by decide +kernel
theorem d_Ctx_isMostlyBelow_18 : decode b_Ctx_isMostlyBelow 18 = .ok (.goto 4, 3) := by decide +kernel
theorem d_Ctx_isMostlyBelow_21 : decode b_Ctx_isMostlyBelow 21 = .ok (.iconst 0, 1) := by decide +kernel
theorem d_Ctx_isMostlyBelow_22 : decode b_Ctx_isMostlyBelow 22 = .ok (.ireturn, 1) := by decide +kernel
theorem d_Ctx_j_0 : decode b_Ctx_j 0 = .ok (.getstatic 47, 3) := by decide +kernel
theorem d_Ctx_j_3 : decode b_Ctx_j 3 = .ok (.aload_n 0, 1) := by decide +kernel
theorem d_Ctx_j_4 : decode b_Ctx_j 4 = .ok (.getfield 37, 3) := by decide +kernel
theorem d_Ctx_j_7 : decode b_Ctx_j 7 = .ok (.iaload, 1) := by decide +kernel
theorem d_Ctx_j_8 : decode b_Ctx_j 8 = .ok (.ireturn, 1) := by decide +kernel
theorem d_Ctx_kOfEnd_0 : decode b_Ctx_kOfEnd 0 = .ok (.aload_n 0, 1) := by decide +kernel
theorem d_Ctx_kOfEnd_1 : decode b_Ctx_kOfEnd 1 = .ok (.iload_n 1, 1) := by decide +kernel
theorem d_Ctx_kOfEnd_2 : decode b_Ctx_kOfEnd 2 = .ok (.aload_n 0, 1) := by decide +kernel
theorem d_Ctx_kOfEnd_3 : decode b_Ctx_kOfEnd 3 = .ok (.getfield 9, 3) := by decide +kernel
theorem d_Ctx_kOfEnd_6 : decode b_Ctx_kOfEnd 6 = .ok (.iload_n 1, 1) := by decide +kernel
theorem d_Ctx_kOfEnd_7 : decode b_Ctx_kOfEnd 7 = .ok (.iaload, 1) := by decide +kernel
theorem d_Ctx_kOfEnd_8 : decode b_Ctx_kOfEnd 8 = .ok (.iload_n 1, 1) := by decide +kernel
theorem d_Ctx_kOfEnd_9 : decode b_Ctx_kOfEnd 9 = .ok (.sipush 365, 3) := by decide +kernel
theorem d_Ctx_kOfEnd_12 : decode b_Ctx_kOfEnd 12 = .ok (.isub, 1) := by decide +kernel
theorem d_Ctx_kOfEnd_13 : decode b_Ctx_kOfEnd 13 = .ok (.aload_n 0, 1) := by decide +kernel
theorem d_Ctx_kOfEnd_14 : decode b_Ctx_kOfEnd 14 = .ok (.getfield 19, 3) := by decide +kernel
theorem d_Ctx_kOfEnd_17 : decode b_Ctx_kOfEnd 17 = .ok (.iload_n 1, 1) := by decide +kernel
theorem d_Ctx_kOfEnd_18 : decode b_Ctx_kOfEnd 18 = .ok (.iaload, 1) := by decide +kernel
theorem d_Ctx_kOfEnd_19 : decode b_Ctx_kOfEnd 19 = .ok (.iconst 2, 1) := by decide +kernel
theorem d_Ctx_kOfEnd_20 : decode b_Ctx_kOfEnd 20 = .ok (.idiv, 1) := by decide +kernel
theorem d_Ctx_kOfEnd_21 : decode b_Ctx_kOfEnd 21 = .ok (.imul, 1) := by decide +kernel
theorem d_Ctx_kOfEnd_22 : decode b_Ctx_kOfEnd 22 = .ok (.iadd, 1) := by decide +kernel
theorem d_Ctx_kOfEnd_23 : decode b_Ctx_kOfEnd 23 = .ok (.invokevirtual 50, 3) := by decide +kernel
theorem d_Ctx_kOfEnd_26 : decode b_Ctx_kOfEnd 26 = .ok (.ireturn, 1) := by decide +kernel
theorem d_Ctx_kOfRegular_0 : decode b_Ctx_kOfRegular 0 = .ok (.aload_n 0, 1) := by decide +kernel
theorem d_Ctx_kOfRegular_1 : decode b_Ctx_kOfRegular 1 = .ok (.iload_n 1, 1) := by decide +kernel
theorem d_Ctx_kOfRegular_2 : decode b_Ctx_kOfRegular 2 = .ok (.aload_n 0, 1) := by decide +kernel
theorem d_Ctx_kOfRegular_3 : decode b_Ctx_kOfRegular 3 = .ok (.getfield 9, 3) := by decide +kernel
theorem d_Ctx_kOfRegular_6 : decode b_Ctx_kOfRegular 6 = .ok (.iload_n 1, 1) := by decide +kernel
theorem d_Ctx_kOfRegular_7 : decode b_Ctx_kOfRegular 7 = .ok (.iaload, 1) := by decide +kernel
theorem d_Ctx_kOfRegular_8 : decode b_Ctx_kOfRegular 8 = .ok (.invokevirtual 50, 3) := by decide +kernel
theorem d_Ctx_kOfRegular_11 : decode b_Ctx_kOfRegular 11 = .ok (.ireturn, 1) := by decide +kernel
theorem d_Ctx_leansDown_0 : decode b_Ctx_leansDown 0 = .ok (.iconst 2, 1) := by decide +kernel
theorem d_Ctx_leansDown_1 : decode b_Ctx_leansDown 1 = .ok (.aload_n 0, 1) := by decide +kernel
theorem d_Ctx_leansDown_2 : decode b_Ctx_leansDown 2 = .ok (.getfield 13, 3) := by decide +kernel
theorem d_Ctx_leansDown_5 : decode b_Ctx_leansDown 5 = .ok (.iload_n 1, 1) := by decide +kernel
theorem d_Ctx_leansDown_6 : decode b_Ctx_leansDown 6 = .ok (.iaload, 1) := by decide +kernel
theorem d_Ctx_leansDown_7 : decode b_Ctx_leansDown 7 = .ok (.imul, 1) := by decide +kernel
theorem d_Ctx_leansDown_8 : decode b_Ctx_leansDown 8 = .ok (.aload_n 0, 1) := by decide +kernel
theorem d_Ctx_leansDown_9 : decode b_Ctx_leansDown 9 = .ok (.getfield 19, 3) := by decide +kernel
theorem d_Ctx_leansDown_12 : decode b_Ctx_leansDown 12 = .ok (.iload_n 1, 1) := by decide +kernel
theorem d_Ctx_leansDown_13 : decode b_Ctx_leansDown 13 = .ok (.iaload, 1) := by decide +kernel
theorem d_Ctx_leansDown_14 : decode b_Ctx_leansDown 14 = .ok (.ineg, 1) := by decide +kernel
theorem d_Ctx_leansDown_15 : decode b_Ctx_leansDown 15 = .ok (.if_icmp .gt 7, 3) := by decide +kernel
theorem d_Ctx_leansDown_18 : decode b_Ctx_leansDown 18 = .ok (.iconst 1, 1) := by decide +kernel
theorem d_Ctx_leansDown_19 : decode b_Ctx_leansDown 19 = .ok (.goto 4, 3) := by decide +kernel
theorem d_Ctx_leansDown_22 : decode b_Ctx_leansDown 22 = .ok (.iconst 0, 1) := by decide +kernel
theorem d_Ctx_leansDown_23 : decode b_Ctx_leansDown 23 = .ok (.ireturn, 1) := by decide +kernel
theorem d_Ctx_learnEnd_0 : decode b_Ctx_learnEnd 0 = .ok (.iload_n 2, 1) := by decide +kernel
theorem d_Ctx_learnEnd_1 : decode b_Ctx_learnEnd 1 = .ok (.ifCond .ge 13, 3) := by decide +kernel
theorem d_Ctx_learnEnd_4 : decode b_Ctx_learnEnd 4 = .ok (.aload_n 0, 1) := by decide +kernel
theorem d_Ctx_learnEnd_5 : decode b_Ctx_learnEnd 5 = .ok (.getfield 22, 3) := by decide +kernel
theorem d_Ctx_learnEnd_8 : decode b_Ctx_learnEnd 8 = .ok (.iload_n 1, 1) := by decide +kernel
theorem d_Ctx_learnEnd_9 : decode b_Ctx_learnEnd 9 = .ok (.dup2, 1) := by decide +kernel
theorem d_Ctx_learnEnd_10 : decode b_Ctx_learnEnd 10 = .ok (.iaload, 1) := by decide +kernel
theorem d_Ctx_learnEnd_11 : decode b_Ctx_learnEnd 11 = .ok (.iconst 1, 1) := by decide +kernel
theorem d_Ctx_learnEnd_12 : decode b_Ctx_learnEnd 12 = .ok (.iadd, 1) := by decide +kernel
theorem d_Ctx_learnEnd_13 : decode b_Ctx_learnEnd 13 = .ok (.iastore, 1) := by decide +kernel
theorem d_Ctx_learnEnd_14 : decode b_Ctx_learnEnd 14 = .ok (.aload_n 0, 1) := by decide +kernel
theorem d_Ctx_learnEnd_15 : decode b_Ctx_learnEnd 15 = .ok (.getfield 9, 3) := by decide +kernel
theorem d_Ctx_learnEnd_18 : decode b_Ctx_learnEnd 18 = .ok (.iload_n 1, 1) := by decide +kernel
theorem d_Ctx_learnEnd_19 : decode b_Ctx_learnEnd 19 = .ok (.dup2, 1) := by decide +kernel
theorem d_Ctx_learnEnd_20 : decode b_Ctx_learnEnd 20 = .ok (.iaload, 1) := by decide +kernel
theorem d_Ctx_learnEnd_21 : decode b_Ctx_learnEnd 21 = .ok (.iload_n 3, 1) := by decide +kernel
theorem d_Ctx_learnEnd_22 : decode b_Ctx_learnEnd 22 = .ok (.iconst 1, 1) := by decide +kernel
theorem d_Ctx_learnEnd_23 : decode b_Ctx_learnEnd 23 = .ok (.iadd, 1) := by decide +kernel
theorem d_Ctx_learnEnd_24 : decode b_Ctx_learnEnd 24 = .ok (.iload_n 1, 1) := by decide +kernel
theorem d_Ctx_learnEnd_25 : decode b_Ctx_learnEnd 25 = .ok (.sipush 365, 3) := by decide +kernel
theorem d_Ctx_learnEnd_28 : decode b_Ctx_learnEnd 28 = .ok (.isub, 1) := by decide +kernel
theorem d_Ctx_learnEnd_29 : decode b_Ctx_learnEnd 29 = .ok (.isub, 1) := by decide +kernel
theorem d_Ctx_learnEnd_30 : decode b_Ctx_learnEnd 30 = .ok (.iconst 2, 1) := by decide +kernel
theorem d_Ctx_learnEnd_31 : decode b_Ctx_learnEnd 31 = .ok (.idiv, 1) := by decide +kernel
theorem d_Ctx_learnEnd_32 : decode b_Ctx_learnEnd 32 = .ok (.iadd, 1) := by decide +kernel
theorem d_Ctx_learnEnd_33 : decode b_Ctx_learnEnd 33 = .ok (.iastore, 1) := by decide +kernel
theorem d_Ctx_learnEnd_34 : decode b_Ctx_learnEnd 34 = .ok (.aload_n 0, 1) := by decide +kernel
theorem d_Ctx_learnEnd_35 : decode b_Ctx_learnEnd 35 = .ok (.getfield 19, 3) := by decide +kernel
theorem d_Ctx_learnEnd_38 : decode b_Ctx_learnEnd 38 = .ok (.iload_n 1, 1) := by decide +kernel
theorem d_Ctx_learnEnd_39 : decode b_Ctx_learnEnd 39 = .ok (.iaload, 1) := by decide +kernel
theorem d_Ctx_learnEnd_40 : decode b_Ctx_learnEnd 40 = .ok (.bipush 64, 2) := by decide +kernel
theorem d_Ctx_learnEnd_42 : decode b_Ctx_learnEnd 42 = .ok (.if_icmp .ne 33, 3) := by decide +kernel
theorem d_Ctx_learnEnd_45 : decode b_Ctx_learnEnd 45 = .ok (.aload_n 0, 1) := by decide +kernel
theorem d_Ctx_learnEnd_46 : decode b_Ctx_learnEnd 46 = .ok (.getfield 9, 3) := by decide +kernel
theorem d_Ctx_learnEnd_49 : decode b_Ctx_learnEnd 49 = .ok (.iload_n 1, 1) := by decide +kernel
theorem d_Ctx_learnEnd_50 : decode b_Ctx_learnEnd 50 = .ok (.dup2, 1) := by decide +kernel
theorem d_Ctx_learnEnd_51 : decode b_Ctx_learnEnd 51 = .ok (.iaload, 1) := by decide +kernel
theorem d_Ctx_learnEnd_52 : decode b_Ctx_learnEnd 52 = .ok (.iconst 1, 1) := by decide +kernel
theorem d_Ctx_learnEnd_53 : decode b_Ctx_learnEnd 53 = .ok (.ishr, 1) := by decide +kernel
theorem d_Ctx_learnEnd_54 : decode b_Ctx_learnEnd 54 = .ok (.iastore, 1) := by decide +kernel
theorem d_Ctx_learnEnd_55 : decode b_Ctx_learnEnd 55 = .ok (.aload_n 0, 1) := by decide +kernel
theorem d_Ctx_learnEnd_56 : decode b_Ctx_learnEnd 56 = .ok (.getfield 19, 3) := by decide +kernel
theorem d_Ctx_learnEnd_59 : decode b_Ctx_learnEnd 59 = .ok (.iload_n 1, 1) := by decide +kernel
theorem d_Ctx_learnEnd_60 : decode b_Ctx_learnEnd 60 = .ok (.dup2, 1) := by decide +kernel
theorem d_Ctx_learnEnd_61 : decode b_Ctx_learnEnd 61 = .ok (.iaload, 1) := by decide +kernel
theorem d_Ctx_learnEnd_62 : decode b_Ctx_learnEnd 62 = .ok (.iconst 1, 1) := by decide +kernel
theorem d_Ctx_learnEnd_63 : decode b_Ctx_learnEnd 63 = .ok (.ishr, 1) := by decide +kernel
theorem d_Ctx_learnEnd_64 : decode b_Ctx_learnEnd 64 = .ok (.iastore, 1) := by decide +kernel
theorem d_Ctx_learnEnd_65 : decode b_Ctx_learnEnd 65 = .ok (.aload_n 0, 1) := by decide +kernel
theorem d_Ctx_learnEnd_66 : decode b_Ctx_learnEnd 66 = .ok (.getfield 22, 3) := by decide +kernel
theorem d_Ctx_learnEnd_69 : decode b_Ctx_learnEnd 69 = .ok (.iload_n 1, 1) := by decide +kernel
theorem d_Ctx_learnEnd_70 : decode b_Ctx_learnEnd 70 = .ok (.dup2, 1) := by decide +kernel
theorem d_Ctx_learnEnd_71 : decode b_Ctx_learnEnd 71 = .ok (.iaload, 1) := by decide +kernel
theorem d_Ctx_learnEnd_72 : decode b_Ctx_learnEnd 72 = .ok (.iconst 1, 1) := by decide +kernel
theorem d_Ctx_learnEnd_73 : decode b_Ctx_learnEnd 73 = .ok (.ishr, 1) := by decide +kernel
theorem d_Ctx_learnEnd_74 : decode b_Ctx_learnEnd 74 = .ok (.iastore, 1) := by decide +kernel
theorem d_Ctx_learnEnd_75 : decode b_Ctx_learnEnd 75 = .ok (.aload_n 0, 1) := by decide +kernel
theorem d_Ctx_learnEnd_76 : decode b_Ctx_learnEnd 76 = .ok (.getfield 19, 3) := by decide +kernel
theorem d_Ctx_learnEnd_79 : decode b_Ctx_learnEnd 79 = .ok (.iload_n 1, 1) := by decide +kernel
theorem d_Ctx_learnEnd_80 : decode b_Ctx_learnEnd 80 = .ok (.dup2, 1) := by decide +kernel
theorem d_Ctx_learnEnd_81 : decode b_Ctx_learnEnd 81 = .ok (.iaload, 1) := by decide +kernel
theorem d_Ctx_learnEnd_82 : decode b_Ctx_learnEnd 82 = .ok (.iconst 1, 1) := by decide +kernel
theorem d_Ctx_learnEnd_83 : decode b_Ctx_learnEnd 83 = .ok (.iadd, 1) := by decide +kernel
theorem d_Ctx_learnEnd_84 : decode b_Ctx_learnEnd 84 = .ok (.iastore, 1) := by decide +kernel
theorem d_Ctx_learnEnd_85 : decode b_Ctx_learnEnd 85 = .ok (.return_, 1) := by decide +kernel
theorem d_Ctx_learnRegular_0 : decode b_Ctx_learnRegular 0 = .ok (.aload_n 0, 1) := by decide +kernel
theorem d_Ctx_learnRegular_1 : decode b_Ctx_learnRegular 1 = .ok (.getfield 13, 3) := by decide +kernel
theorem d_Ctx_learnRegular_4 : decode b_Ctx_learnRegular 4 = .ok (.iload_n 1, 1) := by decide +kernel
theorem d_Ctx_learnRegular_5 : decode b_Ctx_learnRegular 5 = .ok (.dup2, 1) := by decide +kernel
theorem d_Ctx_learnRegular_6 : decode b_Ctx_learnRegular 6 = .ok (.iaload, 1) := by decide +kernel
theorem d_Ctx_learnRegular_7 : decode b_Ctx_learnRegular 7 = .ok (.iload_n 2, 1) := by decide +kernel
theorem d_Ctx_learnRegular_8 : decode b_Ctx_learnRegular 8 = .ok (.iload_n 3, 1) := by decide +kernel
theorem d_Ctx_learnRegular_9 : decode b_Ctx_learnRegular 9 = .ok (.imul, 1) := by decide +kernel
theorem d_Ctx_learnRegular_10 : decode b_Ctx_learnRegular 10 = .ok (.iadd, 1) := by decide +kernel
theorem d_Ctx_learnRegular_11 : decode b_Ctx_learnRegular 11 = .ok (.iastore, 1) := by decide +kernel
theorem d_Ctx_learnRegular_12 : decode b_Ctx_learnRegular 12 = .ok (.aload_n 0, 1) := by decide +kernel
theorem d_Ctx_learnRegular_13 : decode b_Ctx_learnRegular 13 = .ok (.getfield 9, 3) := by decide +kernel
theorem d_Ctx_learnRegular_16 : decode b_Ctx_learnRegular 16 = .ok (.iload_n 1, 1) := by decide +kernel
theorem d_Ctx_learnRegular_17 : decode b_Ctx_learnRegular 17 = .ok (.dup2, 1) := by decide +kernel
theorem d_Ctx_learnRegular_18 : decode b_Ctx_learnRegular 18 = .ok (.iaload, 1) := by decide +kernel
theorem d_Ctx_learnRegular_19 : decode b_Ctx_learnRegular 19 = .ok (.iload_n 2, 1) := by decide +kernel
theorem d_Ctx_learnRegular_20 : decode b_Ctx_learnRegular 20 = .ok (.invokestatic 53, 3) := by decide +kernel
theorem d_Ctx_learnRegular_23 : decode b_Ctx_learnRegular 23 = .ok (.iadd, 1) := by decide +kernel
theorem d_Ctx_learnRegular_24 : decode b_Ctx_learnRegular 24 = .ok (.iastore, 1) := by decide +kernel
theorem d_Ctx_learnRegular_25 : decode b_Ctx_learnRegular 25 = .ok (.aload_n 0, 1) := by decide +kernel
theorem d_Ctx_learnRegular_26 : decode b_Ctx_learnRegular 26 = .ok (.getfield 19, 3) := by decide +kernel
theorem d_Ctx_learnRegular_29 : decode b_Ctx_learnRegular 29 = .ok (.iload_n 1, 1) := by decide +kernel
theorem d_Ctx_learnRegular_30 : decode b_Ctx_learnRegular 30 = .ok (.iaload, 1) := by decide +kernel
theorem d_Ctx_learnRegular_31 : decode b_Ctx_learnRegular 31 = .ok (.bipush 64, 2) := by decide +kernel
theorem d_Ctx_learnRegular_33 : decode b_Ctx_learnRegular 33 = .ok (.if_icmp .ne 33, 3) := by decide +kernel
theorem d_Ctx_learnRegular_36 : decode b_Ctx_learnRegular 36 = .ok (.aload_n 0, 1) := by decide +kernel
theorem d_Ctx_learnRegular_37 : decode b_Ctx_learnRegular 37 = .ok (.getfield 9, 3) := by decide +kernel
theorem d_Ctx_learnRegular_40 : decode b_Ctx_learnRegular 40 = .ok (.iload_n 1, 1) := by decide +kernel
theorem d_Ctx_learnRegular_41 : decode b_Ctx_learnRegular 41 = .ok (.dup2, 1) := by decide +kernel
theorem d_Ctx_learnRegular_42 : decode b_Ctx_learnRegular 42 = .ok (.iaload, 1) := by decide +kernel
theorem d_Ctx_learnRegular_43 : decode b_Ctx_learnRegular 43 = .ok (.iconst 1, 1) := by decide +kernel
theorem d_Ctx_learnRegular_44 : decode b_Ctx_learnRegular 44 = .ok (.ishr, 1) := by decide +kernel
theorem d_Ctx_learnRegular_45 : decode b_Ctx_learnRegular 45 = .ok (.iastore, 1) := by decide +kernel
theorem d_Ctx_learnRegular_46 : decode b_Ctx_learnRegular 46 = .ok (.aload_n 0, 1) := by decide +kernel
theorem d_Ctx_learnRegular_47 : decode b_Ctx_learnRegular 47 = .ok (.getfield 13, 3) := by decide +kernel
theorem d_Ctx_learnRegular_50 : decode b_Ctx_learnRegular 50 = .ok (.iload_n 1, 1) := by decide +kernel
theorem d_Ctx_learnRegular_51 : decode b_Ctx_learnRegular 51 = .ok (.dup2, 1) := by decide +kernel
theorem d_Ctx_learnRegular_52 : decode b_Ctx_learnRegular 52 = .ok (.iaload, 1) := by decide +kernel
theorem d_Ctx_learnRegular_53 : decode b_Ctx_learnRegular 53 = .ok (.iconst 1, 1) := by decide +kernel
theorem d_Ctx_learnRegular_54 : decode b_Ctx_learnRegular 54 = .ok (.ishr, 1) := by decide +kernel
theorem d_Ctx_learnRegular_55 : decode b_Ctx_learnRegular 55 = .ok (.iastore, 1) := by decide +kernel
theorem d_Ctx_learnRegular_56 : decode b_Ctx_learnRegular 56 = .ok (.aload_n 0, 1) := by decide +kernel
theorem d_Ctx_learnRegular_57 : decode b_Ctx_learnRegular 57 = .ok (.getfield 19, 3) := by decide +kernel
theorem d_Ctx_learnRegular_60 : decode b_Ctx_learnRegular 60 = .ok (.iload_n 1, 1) := by decide +kernel
theorem d_Ctx_learnRegular_61 : decode b_Ctx_learnRegular 61 = .ok (.dup2, 1) := by decide +kernel
theorem d_Ctx_learnRegular_62 : decode b_Ctx_learnRegular 62 = .ok (.iaload, 1) := by decide +kernel
theorem d_Ctx_learnRegular_63 : decode b_Ctx_learnRegular 63 = .ok (.iconst 1, 1) := by decide +kernel
theorem d_Ctx_learnRegular_64 : decode b_Ctx_learnRegular 64 = .ok (.ishr, 1) := by decide +kernel
theorem d_Ctx_learnRegular_65 : decode b_Ctx_learnRegular 65 = .ok (.iastore, 1) := by decide +kernel
theorem d_Ctx_learnRegular_66 : decode b_Ctx_learnRegular 66 = .ok (.aload_n 0, 1) := by decide +kernel
theorem d_Ctx_learnRegular_67 : decode b_Ctx_learnRegular 67 = .ok (.getfield 19, 3) := by decide +kernel
theorem d_Ctx_learnRegular_70 : decode b_Ctx_learnRegular 70 = .ok (.iload_n 1, 1) := by decide +kernel
theorem d_Ctx_learnRegular_71 : decode b_Ctx_learnRegular 71 = .ok (.dup2, 1) := by decide +kernel
theorem d_Ctx_learnRegular_72 : decode b_Ctx_learnRegular 72 = .ok (.iaload, 1) := by decide +kernel
theorem d_Ctx_learnRegular_73 : decode b_Ctx_learnRegular 73 = .ok (.iconst 1, 1) := by decide +kernel
theorem d_Ctx_learnRegular_74 : decode b_Ctx_learnRegular 74 = .ok (.iadd, 1) := by decide +kernel
theorem d_Ctx_learnRegular_75 : decode b_Ctx_learnRegular 75 = .ok (.iastore, 1) := by decide +kernel
theorem d_Ctx_learnRegular_76 : decode b_Ctx_learnRegular 76 = .ok (.aload_n 0, 1) := by decide +kernel
theorem d_Ctx_learnRegular_77 : decode b_Ctx_learnRegular 77 = .ok (.getfield 13, 3) := by decide +kernel
theorem d_Ctx_learnRegular_80 : decode b_Ctx_learnRegular 80 = .ok (.iload_n 1, 1) := by decide +kernel
theorem d_Ctx_learnRegular_81 : decode b_Ctx_learnRegular 81 = .ok (.iaload, 1) := by decide +kernel
theorem d_Ctx_learnRegular_82 : decode b_Ctx_learnRegular 82 = .ok (.aload_n 0, 1) := by decide +kernel
theorem d_Ctx_learnRegular_83 : decode b_Ctx_learnRegular 83 = .ok (.getfield 19, 3) := by decide +kernel
theorem d_Ctx_learnRegular_86 : decode b_Ctx_learnRegular 86 = .ok (.iload_n 1, 1) := by decide +kernel
theorem d_Ctx_learnRegular_87 : decode b_Ctx_learnRegular 87 = .ok (.iaload, 1) := by decide +kernel
theorem d_Ctx_learnRegular_88 : decode b_Ctx_learnRegular 88 = .ok (.ineg, 1) := by decide +kernel
theorem d_Ctx_learnRegular_89 : decode b_Ctx_learnRegular 89 = .ok (.if_icmp .gt 11, 3) := by decide +kernel
theorem d_Ctx_learnRegular_92 : decode b_Ctx_learnRegular 92 = .ok (.aload_n 0, 1) := by decide +kernel
theorem d_Ctx_learnRegular_93 : decode b_Ctx_learnRegular 93 = .ok (.iload_n 1, 1) := by decide +kernel
theorem d_Ctx_learnRegular_94 : decode b_Ctx_learnRegular 94 = .ok (.invokevirtual 57, 3) := by decide +kernel
theorem d_Ctx_learnRegular_97 : decode b_Ctx_learnRegular 97 = .ok (.goto 17, 3) := by decide +kernel
theorem d_Ctx_learnRegular_100 : decode b_Ctx_learnRegular 100 = .ok (.aload_n 0, 1) := by decide +kernel
theorem d_Ctx_learnRegular_101 : decode b_Ctx_learnRegular 101 = .ok (.getfield 13, 3) := by decide +kernel
theorem d_Ctx_learnRegular_104 : decode b_Ctx_learnRegular 104 = .ok (.iload_n 1, 1) := by decide +kernel
theorem d_Ctx_learnRegular_105 : decode b_Ctx_learnRegular 105 = .ok (.iaload, 1) := by decide +kernel
theorem d_Ctx_learnRegular_106 : decode b_Ctx_learnRegular 106 = .ok (.ifCond .le 8, 3) := by decide +kernel
theorem d_Ctx_learnRegular_109 : decode b_Ctx_learnRegular 109 = .ok (.aload_n 0, 1) := by decide +kernel
theorem d_Ctx_learnRegular_110 : decode b_Ctx_learnRegular 110 = .ok (.iload_n 1, 1) := by decide +kernel
theorem d_Ctx_learnRegular_111 : decode b_Ctx_learnRegular 111 = .ok (.invokevirtual 61, 3) := by decide +kernel
theorem d_Ctx_learnRegular_114 : decode b_Ctx_learnRegular 114 = .ok (.return_, 1) := by decide +kernel
theorem d_Ctx_leastK_0 : decode b_Ctx_leastK 0 = .ok (.iconst 0, 1) := by decide +kernel
theorem d_Ctx_leastK_1 : decode b_Ctx_leastK 1 = .ok (.istore_n 3, 1) := by decide +kernel
theorem d_Ctx_leastK_2 : decode b_Ctx_leastK 2 = .ok (.iload_n 3, 1) := by decide +kernel
theorem d_Ctx_leastK_3 : decode b_Ctx_leastK 3 = .ok (.bipush 24, 2) := by decide +kernel
theorem d_Ctx_leastK_5 : decode b_Ctx_leastK 5 = .ok (.if_icmp .ge 21, 3) := by decide +kernel
theorem d_Ctx_leastK_8 : decode b_Ctx_leastK 8 = .ok (.aload_n 0, 1) := by decide +kernel
theorem d_Ctx_leastK_9 : decode b_Ctx_leastK 9 = .ok (.getfield 19, 3) := by decide +kernel
theorem d_Ctx_leastK_12 : decode b_Ctx_leastK 12 = .ok (.iload_n 1, 1) := by decide +kernel
theorem d_Ctx_leastK_13 : decode b_Ctx_leastK 13 = .ok (.iaload, 1) := by decide +kernel
theorem d_Ctx_leastK_14 : decode b_Ctx_leastK 14 = .ok (.iload_n 3, 1) := by decide +kernel
theorem d_Ctx_leastK_15 : decode b_Ctx_leastK 15 = .ok (.ishl, 1) := by decide +kernel
theorem d_Ctx_leastK_16 : decode b_Ctx_leastK 16 = .ok (.iload_n 2, 1) := by decide +kernel
theorem d_Ctx_leastK_17 : decode b_Ctx_leastK 17 = .ok (.if_icmp .ge 9, 3) := by decide +kernel
theorem d_Ctx_leastK_20 : decode b_Ctx_leastK 20 = .ok (.iinc 3 1, 3) := by decide +kernel
theorem d_Ctx_leastK_23 : decode b_Ctx_leastK 23 = .ok (.goto (-21), 3) := by decide +kernel
theorem d_Ctx_leastK_26 : decode b_Ctx_leastK 26 = .ok (.iload_n 3, 1) := by decide +kernel
theorem d_Ctx_leastK_27 : decode b_Ctx_leastK 27 = .ok (.ireturn, 1) := by decide +kernel
theorem d_Ctx_lowerRunIndex_0 : decode b_Ctx_lowerRunIndex 0 = .ok (.aload_n 0, 1) := by decide +kernel
theorem d_Ctx_lowerRunIndex_1 : decode b_Ctx_lowerRunIndex 1 = .ok (.getfield 37, 3) := by decide +kernel
theorem d_Ctx_lowerRunIndex_4 : decode b_Ctx_lowerRunIndex 4 = .ok (.ifCond .le 13, 3) := by decide +kernel
theorem d_Ctx_lowerRunIndex_7 : decode b_Ctx_lowerRunIndex 7 = .ok (.aload_n 0, 1) := by decide +kernel
theorem d_Ctx_lowerRunIndex_8 : decode b_Ctx_lowerRunIndex 8 = .ok (.dup, 1) := by decide +kernel
theorem d_Ctx_lowerRunIndex_9 : decode b_Ctx_lowerRunIndex 9 = .ok (.getfield 37, 3) := by decide +kernel
theorem d_Ctx_lowerRunIndex_12 : decode b_Ctx_lowerRunIndex 12 = .ok (.iconst 1, 1) := by decide +kernel
theorem d_Ctx_lowerRunIndex_13 : decode b_Ctx_lowerRunIndex 13 = .ok (.isub, 1) := by decide +kernel
theorem d_Ctx_lowerRunIndex_14 : decode b_Ctx_lowerRunIndex 14 = .ok (.putfield 37, 3) := by decide +kernel
theorem d_Ctx_lowerRunIndex_17 : decode b_Ctx_lowerRunIndex 17 = .ok (.return_, 1) := by decide +kernel
theorem d_Ctx_raiseRunIndex_0 : decode b_Ctx_raiseRunIndex 0 = .ok (.aload_n 0, 1) := by decide +kernel
theorem d_Ctx_raiseRunIndex_1 : decode b_Ctx_raiseRunIndex 1 = .ok (.getfield 37, 3) := by decide +kernel
theorem d_Ctx_raiseRunIndex_4 : decode b_Ctx_raiseRunIndex 4 = .ok (.bipush 31, 2) := by decide +kernel
theorem d_Ctx_raiseRunIndex_6 : decode b_Ctx_raiseRunIndex 6 = .ok (.if_icmp .ge 13, 3) := by decide +kernel
theorem d_Ctx_raiseRunIndex_9 : decode b_Ctx_raiseRunIndex 9 = .ok (.aload_n 0, 1) := by decide +kernel
theorem d_Ctx_raiseRunIndex_10 : decode b_Ctx_raiseRunIndex 10 = .ok (.dup, 1) := by decide +kernel
theorem d_Ctx_raiseRunIndex_11 : decode b_Ctx_raiseRunIndex 11 = .ok (.getfield 37, 3) := by decide +kernel
theorem d_Ctx_raiseRunIndex_14 : decode b_Ctx_raiseRunIndex 14 = .ok (.iconst 1, 1) := by decide +kernel
theorem d_Ctx_raiseRunIndex_15 : decode b_Ctx_raiseRunIndex 15 = .ok (.iadd, 1) := by decide +kernel
theorem d_Ctx_raiseRunIndex_16 : decode b_Ctx_raiseRunIndex 16 = .ok (.putfield 37, 3) := by decide +kernel
theorem d_Ctx_raiseRunIndex_19 : decode b_Ctx_raiseRunIndex 19 = .ok (.return_, 1) := by decide +kernel
theorem d_Ctx_restart_0 : decode b_Ctx_restart 0 = .ok (.aload_n 0, 1) := by decide +kernel
theorem d_Ctx_restart_1 : decode b_Ctx_restart 1 = .ok (.getfield 9, 3) := by decide +kernel
theorem d_Ctx_restart_4 : decode b_Ctx_restart 4 = .ok (.iconst 2, 1) := by decide +kernel
theorem d_Ctx_restart_5 : decode b_Ctx_restart 5 = .ok (.iload_n 1, 1) := by decide +kernel
theorem d_Ctx_restart_6 : decode b_Ctx_restart 6 = .ok (.bipush 32, 2) := by decide +kernel
theorem d_Ctx_restart_8 : decode b_Ctx_restart 8 = .ok (.iadd, 1) := by decide +kernel
theorem d_Ctx_restart_9 : decode b_Ctx_restart 9 = .ok (.bipush 64, 2) := by decide +kernel
theorem d_Ctx_restart_11 : decode b_Ctx_restart 11 = .ok (.idiv, 1) := by decide +kernel
theorem d_Ctx_restart_12 : decode b_Ctx_restart 12 = .ok (.invokestatic 25, 3) := by decide +kernel
theorem d_Ctx_restart_15 : decode b_Ctx_restart 15 = .ok (.invokestatic 31, 3) := by decide +kernel
theorem d_Ctx_restart_18 : decode b_Ctx_restart 18 = .ok (.aload_n 0, 1) := by decide +kernel
theorem d_Ctx_restart_19 : decode b_Ctx_restart 19 = .ok (.getfield 13, 3) := by decide +kernel
theorem d_Ctx_restart_22 : decode b_Ctx_restart 22 = .ok (.iconst 0, 1) := by decide +kernel
theorem d_Ctx_restart_23 : decode b_Ctx_restart 23 = .ok (.invokestatic 31, 3) := by decide +kernel
theorem d_Ctx_restart_26 : decode b_Ctx_restart 26 = .ok (.aload_n 0, 1) := by decide +kernel
theorem d_Ctx_restart_27 : decode b_Ctx_restart 27 = .ok (.getfield 16, 3) := by decide +kernel
theorem d_Ctx_restart_30 : decode b_Ctx_restart 30 = .ok (.iconst 0, 1) := by decide +kernel
theorem d_Ctx_restart_31 : decode b_Ctx_restart 31 = .ok (.invokestatic 31, 3) := by decide +kernel
theorem d_Ctx_restart_34 : decode b_Ctx_restart 34 = .ok (.aload_n 0, 1) := by decide +kernel
theorem d_Ctx_restart_35 : decode b_Ctx_restart 35 = .ok (.getfield 19, 3) := by decide +kernel
theorem d_Ctx_restart_38 : decode b_Ctx_restart 38 = .ok (.iconst 1, 1) := by decide +kernel
theorem d_Ctx_restart_39 : decode b_Ctx_restart 39 = .ok (.invokestatic 31, 3) := by decide +kernel
theorem d_Ctx_restart_42 : decode b_Ctx_restart 42 = .ok (.aload_n 0, 1) := by decide +kernel
theorem d_Ctx_restart_43 : decode b_Ctx_restart 43 = .ok (.getfield 22, 3) := by decide +kernel
theorem d_Ctx_restart_46 : decode b_Ctx_restart 46 = .ok (.iconst 0, 1) := by decide +kernel
theorem d_Ctx_restart_47 : decode b_Ctx_restart 47 = .ok (.invokestatic 31, 3) := by decide +kernel
theorem d_Ctx_restart_50 : decode b_Ctx_restart 50 = .ok (.aload_n 0, 1) := by decide +kernel
theorem d_Ctx_restart_51 : decode b_Ctx_restart 51 = .ok (.iconst 0, 1) := by decide +kernel
theorem d_Ctx_restart_52 : decode b_Ctx_restart 52 = .ok (.putfield 37, 3) := by decide +kernel
theorem d_Ctx_restart_55 : decode b_Ctx_restart 55 = .ok (.return_, 1) := by decide +kernel
