theorem d_Rea_readNumber_0 : decode b_Rea_readNumber 0 = .ok (.iload_n 2, 1) := by decide +kernel
theorem d_Rea_readNumber_1 : decode b_Rea_readNumber 1 = .ok (.iload_n 3, 1) := by decide +kernel
theorem d_Rea_readNumber_2 : decode b_Rea_readNumber 2 = .ok (.isub, 1) := by decide +kernel
theorem d_Rea_readNumber_3 : decode b_Rea_readNumber 3 = .ok (.iconst 1, 1) := by decide +kernel
theorem d_Rea_readNumber_4 : decode b_Rea_readNumber 4 = .ok (.isub, 1) := by decide +kernel
theorem d_Rea_readNumber_5 : decode b_Rea_readNumber 5 = .ok (.istore 4, 2) := by decide +kernel
theorem d_Rea_readNumber_7 : decode b_Rea_readNumber 7 = .ok (.iconst 0, 1) := by decide +kernel
theorem d_Rea_readNumber_8 : decode b_Rea_readNumber 8 = .ok (.istore 5, 2) := by decide +kernel
theorem d_Rea_readNumber_10 : decode b_Rea_readNumber 10 = .ok (.iload 5, 2) := by decide +kernel
theorem d_Rea_readNumber_12 : decode b_Rea_readNumber 12 = .ok (.iload 4, 2) := by decide +kernel
theorem d_Rea_readNumber_14 : decode b_Rea_readNumber 14 = .ok (.if_icmp .gt 16, 3) := by decide +kernel
theorem d_Rea_readNumber_17 : decode b_Rea_readNumber 17 = .ok (.aload_n 0, 1) := by decide +kernel
theorem d_Rea_readNumber_18 : decode b_Rea_readNumber 18 = .ok (.invokevirtual 40, 3) := by decide +kernel
theorem d_Rea_readNumber_21 : decode b_Rea_readNumber 21 = .ok (.ifCond .ne 9, 3) := by decide +kernel
theorem d_Rea_readNumber_24 : decode b_Rea_readNumber 24 = .ok (.iinc 5 1, 3) := by decide +kernel
theorem d_Rea_readNumber_27 : decode b_Rea_readNumber 27 = .ok (.goto (-17), 3) := by decide +kernel
theorem d_Rea_readNumber_30 : decode b_Rea_readNumber 30 = .ok (.iload 5, 2) := by decide +kernel
theorem d_Rea_readNumber_32 : decode b_Rea_readNumber 32 = .ok (.iload 4, 2) := by decide +kernel
theorem d_Rea_readNumber_34 : decode b_Rea_readNumber 34 = .ok (.if_icmp .le 13, 3) := by decide +kernel
theorem d_Rea_readNumber_37 : decode b_Rea_readNumber 37 = .ok (.new 15, 3) := by decide +kernel
theorem d_Rea_readNumber_40 : decode b_Rea_readNumber 40 = .ok (.dup, 1) := by decide +kernel
theorem d_Rea_readNumber_41 : decode b_Rea_readNumber 41 = .ok (.ldc 44, 2) := by decide +kernel
theorem d_Rea_readNumber_43 : decode b_Rea_readNumber 43 = .ok (.invokespecial 19, 3) := by decide +kernel
theorem d_Rea_readNumber_46 : decode b_Rea_readNumber 46 = .ok (.athrow, 1) := by decide +kernel
theorem d_Rea_readNumber_47 : decode b_Rea_readNumber 47 = .ok (.iload 5, 2) := by decide +kernel
theorem d_Rea_readNumber_49 : decode b_Rea_readNumber 49 = .ok (.iload 4, 2) := by decide +kernel
theorem d_Rea_readNumber_51 : decode b_Rea_readNumber 51 = .ok (.if_icmp .ge 16, 3) := by decide +kernel
theorem d_Rea_readNumber_54 : decode b_Rea_readNumber 54 = .ok (.iload 5, 2) := by decide +kernel
theorem d_Rea_readNumber_56 : decode b_Rea_readNumber 56 = .ok (.iload_n 1, 1) := by decide +kernel
theorem d_Rea_readNumber_57 : decode b_Rea_readNumber 57 = .ok (.ishl, 1) := by decide +kernel
theorem d_Rea_readNumber_58 : decode b_Rea_readNumber 58 = .ok (.aload_n 0, 1) := by decide +kernel
theorem d_Rea_readNumber_59 : decode b_Rea_readNumber 59 = .ok (.iload_n 1, 1) := by decide +kernel
theorem d_Rea_readNumber_60 : decode b_Rea_readNumber 60 = .ok (.invokevirtual 46, 3) := by decide +kernel
theorem d_Rea_readNumber_63 : decode b_Rea_readNumber 63 = .ok (.iadd, 1) := by decide +kernel
theorem d_Rea_readNumber_64 : decode b_Rea_readNumber 64 = .ok (.goto 10, 3) := by decide +kernel
theorem d_Rea_readNumber_67 : decode b_Rea_readNumber 67 = .ok (.aload_n 0, 1) := by decide +kernel
theorem d_Rea_readNumber_68 : decode b_Rea_readNumber 68 = .ok (.iload_n 3, 1) := by decide +kernel
theorem d_Rea_readNumber_69 : decode b_Rea_readNumber 69 = .ok (.invokevirtual 46, 3) := by decide +kernel
theorem d_Rea_readNumber_72 : decode b_Rea_readNumber 72 = .ok (.iconst 1, 1) := by decide +kernel
theorem d_Rea_readNumber_73 : decode b_Rea_readNumber 73 = .ok (.iadd, 1) := by decide +kernel
theorem d_Rea_readNumber_74 : decode b_Rea_readNumber 74 = .ok (.ireturn, 1) := by decide +kernel
theorem d_Wri_endsWith255_0 : decode b_Wri_endsWith255 0 = .ok (.aload_n 0, 1) := by decide +kernel
theorem d_Wri_endsWith255_1 : decode b_Wri_endsWith255 1 = .ok (.getfield 13, 3) := by decide +kernel
theorem d_Wri_endsWith255_4 : decode b_Wri_endsWith255 4 = .ok (.ifCond .le 24, 3) := by decide +kernel
theorem d_Wri_endsWith255_7 : decode b_Wri_endsWith255 7 = .ok (.aload_n 0, 1) := by decide +kernel
theorem d_Wri_endsWith255_8 : decode b_Wri_endsWith255 8 = .ok (.getfield 9, 3) := by decide +kernel
theorem d_Wri_endsWith255_11 : decode b_Wri_endsWith255 11 = .ok (.aload_n 0, 1) := by decide +kernel
theorem d_Wri_endsWith255_12 : decode b_Wri_endsWith255 12 = .ok (.getfield 13, 3) := by decide +kernel
theorem d_Wri_endsWith255_15 : decode b_Wri_endsWith255 15 = .ok (.iconst 1, 1) := by decide +kernel
theorem d_Wri_endsWith255_16 : decode b_Wri_endsWith255 16 = .ok (.isub, 1) := by decide +kernel
theorem d_Wri_endsWith255_17 : decode b_Wri_endsWith255 17 = .ok (.iaload, 1) := by decide +kernel
theorem d_Wri_endsWith255_18 : decode b_Wri_endsWith255 18 = .ok (.sipush 255, 3) := by decide +kernel
theorem d_Wri_endsWith255_21 : decode b_Wri_endsWith255 21 = .ok (.if_icmp .ne 7, 3) := by decide +kernel
theorem d_Wri_endsWith255_24 : decode b_Wri_endsWith255 24 = .ok (.iconst 1, 1) := by decide +kernel
theorem d_Wri_endsWith255_25 : decode b_Wri_endsWith255 25 = .ok (.goto 4, 3) := by decide +kernel
theorem d_Wri_endsWith255_28 : decode b_Wri_endsWith255 28 = .ok (.iconst 0, 1) := by decide +kernel
theorem d_Wri_endsWith255_29 : decode b_Wri_endsWith255 29 = .ok (.ireturn, 1) := by decide +kernel
theorem d_Wri_init_0 : decode b_Wri_init 0 = .ok (.aload_n 0, 1) := by decide +kernel
theorem d_Wri_init_1 : decode b_Wri_init 1 = .ok (.invokespecial 1, 3) := by decide +kernel
theorem d_Wri_init_4 : decode b_Wri_init 4 = .ok (.aload_n 0, 1) := by decide +kernel
theorem d_Wri_init_5 : decode b_Wri_init 5 = .ok (.sipush 512, 3) := by decide +kernel
theorem d_Wri_init_8 : decode b_Wri_init 8 = .ok (.newarray .int, 2) := by decide +kernel
theorem d_Wri_init_10 : decode b_Wri_init 10 = .ok (.putfield 9, 3) := by decide +kernel
theorem d_Wri_init_13 : decode b_Wri_init 13 = .ok (.return_, 1) := by decide +kernel
theorem d_Wri_restart_0 : decode b_Wri_restart 0 = .ok (.aload_n 0, 1) := by decide +kernel
theorem d_Wri_restart_1 : decode b_Wri_restart 1 = .ok (.iconst 0, 1) := by decide +kernel
theorem d_Wri_restart_2 : decode b_Wri_restart 2 = .ok (.putfield 13, 3) := by decide +kernel
theorem d_Wri_restart_5 : decode b_Wri_restart 5 = .ok (.aload_n 0, 1) := by decide +kernel
theorem d_Wri_restart_6 : decode b_Wri_restart 6 = .ok (.iconst 0, 1) := by decide +kernel
theorem d_Wri_restart_7 : decode b_Wri_restart 7 = .ok (.putfield 17, 3) := by decide +kernel
theorem d_Wri_restart_10 : decode b_Wri_restart 10 = .ok (.return_, 1) := by decide +kernel
theorem d_Wri_writeBits_0 : decode b_Wri_writeBits 0 = .ok (.iload_n 2, 1) := by decide +kernel
theorem d_Wri_writeBits_1 : decode b_Wri_writeBits 1 = .ok (.iconst 1, 1) := by decide +kernel
theorem d_Wri_writeBits_2 : decode b_Wri_writeBits 2 = .ok (.isub, 1) := by decide +kernel
theorem d_Wri_writeBits_3 : decode b_Wri_writeBits 3 = .ok (.istore_n 3, 1) := by decide +kernel
theorem d_Wri_writeBits_4 : decode b_Wri_writeBits 4 = .ok (.iload_n 3, 1) := by decide +kernel
theorem d_Wri_writeBits_5 : decode b_Wri_writeBits 5 = .ok (.ifCond .lt 73, 3) := by decide +kernel
theorem d_Wri_writeBits_8 : decode b_Wri_writeBits 8 = .ok (.aload_n 0, 1) := by decide +kernel
theorem d_Wri_writeBits_9 : decode b_Wri_writeBits 9 = .ok (.getfield 17, 3) := by decide +kernel
theorem d_Wri_writeBits_12 : decode b_Wri_writeBits 12 = .ok (.ifCond .ne 26, 3) := by decide +kernel
theorem d_Wri_writeBits_15 : decode b_Wri_writeBits 15 = .ok (.aload_n 0, 1) := by decide +kernel
theorem d_Wri_writeBits_16 : decode b_Wri_writeBits 16 = .ok (.aload_n 0, 1) := by decide +kernel
theorem d_Wri_writeBits_17 : decode b_Wri_writeBits 17 = .ok (.invokevirtual 20, 3) := by decide +kernel
theorem d_Wri_writeBits_20 : decode b_Wri_writeBits 20 = .ok (.ifCond .eq 8, 3) := by decide +kernel
theorem d_Wri_writeBits_23 : decode b_Wri_writeBits 23 = .ok (.bipush 7, 2) := by decide +kernel
theorem d_Wri_writeBits_25 : decode b_Wri_writeBits 25 = .ok (.goto 5, 3) := by decide +kernel
theorem d_Wri_writeBits_28 : decode b_Wri_writeBits 28 = .ok (.bipush 8, 2) := by decide +kernel
theorem d_Wri_writeBits_30 : decode b_Wri_writeBits 30 = .ok (.putfield 17, 3) := by decide +kernel
theorem d_Wri_writeBits_33 : decode b_Wri_writeBits 33 = .ok (.aload_n 0, 1) := by decide +kernel
theorem d_Wri_writeBits_34 : decode b_Wri_writeBits 34 = .ok (.iconst 0, 1) := by decide +kernel
theorem d_Wri_writeBits_35 : decode b_Wri_writeBits 35 = .ok (.invokevirtual 24, 3) := by decide +kernel
theorem d_Wri_writeBits_38 : decode b_Wri_writeBits 38 = .ok (.aload_n 0, 1) := by decide +kernel
theorem d_Wri_writeBits_39 : decode b_Wri_writeBits 39 = .ok (.dup, 1) := by decide +kernel
theorem d_Wri_writeBits_40 : decode b_Wri_writeBits 40 = .ok (.getfield 17, 3) := by decide +kernel
theorem d_Wri_writeBits_43 : decode b_Wri_writeBits 43 = .ok (.iconst 1, 1) := by decide +kernel
theorem d_Wri_writeBits_44 : decode b_Wri_writeBits 44 = .ok (.isub, 1) := by decide +kernel
theorem d_Wri_writeBits_45 : decode b_Wri_writeBits 45 = .ok (.putfield 17, 3) := by decide +kernel
theorem d_Wri_writeBits_48 : decode b_Wri_writeBits 48 = .ok (.aload_n 0, 1) := by decide +kernel
theorem d_Wri_writeBits_49 : decode b_Wri_writeBits 49 = .ok (.getfield 9, 3) := by decide +kernel
theorem d_Wri_writeBits_52 : decode b_Wri_writeBits 52 = .ok (.aload_n 0, 1) := by decide +kernel
theorem d_Wri_writeBits_53 : decode b_Wri_writeBits 53 = .ok (.getfield 13, 3) := by decide +kernel
theorem d_Wri_writeBits_56 : decode b_Wri_writeBits 56 = .ok (.iconst 1, 1) := by decide +kernel
theorem d_Wri_writeBits_57 : decode b_Wri_writeBits 57 = .ok (.isub, 1) := by decide +kernel
theorem d_Wri_writeBits_58 : decode b_Wri_writeBits 58 = .ok (.dup2, 1) := by decide +kernel
theorem d_Wri_writeBits_59 : decode b_Wri_writeBits 59 = .ok (.iaload, 1) := by decide +kernel
theorem d_Wri_writeBits_60 : decode b_Wri_writeBits 60 = .ok (.iload_n 1, 1) := by decide +kernel
theorem d_Wri_writeBits_61 : decode b_Wri_writeBits 61 = .ok (.iload_n 3, 1) := by decide +kernel
theorem d_Wri_writeBits_62 : decode b_Wri_writeBits 62 = .ok (.ishr, 1) := by decide +kernel
theorem d_Wri_writeBits_63 : decode b_Wri_writeBits 63 = .ok (.iconst 1, 1) := by decide +kernel
theorem d_Wri_writeBits_64 : decode b_Wri_writeBits 64 = .ok (.iand, 1) := by decide +kernel
theorem d_Wri_writeBits_65 : decode b_Wri_writeBits 65 = .ok (.aload_n 0, 1) := by decide +kernel
theorem d_Wri_writeBits_66 : decode b_Wri_writeBits 66 = .ok (.getfield 17, 3) := by decide +kernel
theorem d_Wri_writeBits_69 : decode b_Wri_writeBits 69 = .ok (.ishl, 1) := by decide +kernel
theorem d_Wri_writeBits_70 : decode b_Wri_writeBits 70 = .ok (.ior, 1) := by decide +kernel
theorem d_Wri_writeBits_71 : decode b_Wri_writeBits 71 = .ok (.iastore, 1) := by decide +kernel
theorem d_Wri_writeBits_72 : decode b_Wri_writeBits 72 = .ok (.iinc 3 (-1), 3) := by decide +kernel
theorem d_Wri_writeBits_75 : decode b_Wri_writeBits 75 = .ok (.goto (-71), 3) := by decide +kernel
theorem d_Wri_writeBits_78 : decode b_Wri_writeBits 78 = .ok (.return_, 1) := by decide +kernel
theorem d_Wri_writeByte_0 : decode b_Wri_writeByte 0 = .ok (.aload_n 0, 1) := by decide +kernel
theorem d_Wri_writeByte_1 : decode b_Wri_writeByte 1 = .ok (.getfield 13, 3) := by decide +kernel
theorem d_Wri_writeByte_4 : decode b_Wri_writeByte 4 = .ok (.sipush 512, 3) := by decide +kernel
theorem d_Wri_writeByte_7 : decode b_Wri_writeByte 7 = .ok (.if_icmp .ge 23, 3) := by decide +kernel
theorem d_Wri_writeByte_10 : decode b_Wri_writeByte 10 = .ok (.aload_n 0, 1) := by decide +kernel
theorem d_Wri_writeByte_11 : decode b_Wri_writeByte 11 = .ok (.getfield 9, 3) := by decide +kernel
theorem d_Wri_writeByte_14 : decode b_Wri_writeByte 14 = .ok (.aload_n 0, 1) := by decide +kernel
theorem d_Wri_writeByte_15 : decode b_Wri_writeByte 15 = .ok (.getfield 13, 3) := by decide +kernel
theorem d_Wri_writeByte_18 : decode b_Wri_writeByte 18 = .ok (.iload_n 1, 1) := by decide +kernel
theorem d_Wri_writeByte_19 : decode b_Wri_writeByte 19 = .ok (.iastore, 1) := by decide +kernel
theorem d_Wri_writeByte_20 : decode b_Wri_writeByte 20 = .ok (.aload_n 0, 1) := by decide +kernel
theorem d_Wri_writeByte_21 : decode b_Wri_writeByte 21 = .ok (.dup, 1) := by decide +kernel
theorem d_Wri_writeByte_22 : decode b_Wri_writeByte 22 = .ok (.getfield 13, 3) := by decide +kernel
theorem d_Wri_writeByte_25 : decode b_Wri_writeByte 25 = .ok (.iconst 1, 1) := by decide +kernel
theorem d_Wri_writeByte_26 : decode b_Wri_writeByte 26 = .ok (.iadd, 1) := by decide +kernel
theorem d_Wri_writeByte_27 : decode b_Wri_writeByte 27 = .ok (.putfield 13, 3) := by decide +kernel
theorem d_Wri_writeByte_30 : decode b_Wri_writeByte 30 = .ok (.return_, 1) := by decide +kernel
theorem d_Wri_writeEnd_0 : decode b_Wri_writeEnd 0 = .ok (.aload_n 0, 1) := by decide +kernel
theorem d_Wri_writeEnd_1 : decode b_Wri_writeEnd 1 = .ok (.invokevirtual 20, 3) := by decide +kernel
theorem d_Wri_writeEnd_4 : decode b_Wri_writeEnd 4 = .ok (.ifCond .eq 8, 3) := by decide +kernel
theorem d_Wri_writeEnd_7 : decode b_Wri_writeEnd 7 = .ok (.aload_n 0, 1) := by decide +kernel
theorem d_Wri_writeEnd_8 : decode b_Wri_writeEnd 8 = .ok (.iconst 0, 1) := by decide +kernel
theorem d_Wri_writeEnd_9 : decode b_Wri_writeEnd 9 = .ok (.invokevirtual 24, 3) := by decide +kernel
theorem d_Wri_writeEnd_12 : decode b_Wri_writeEnd 12 = .ok (.aload_n 0, 1) := by decide +kernel
theorem d_Wri_writeEnd_13 : decode b_Wri_writeEnd 13 = .ok (.sipush 255, 3) := by decide +kernel
theorem d_Wri_writeEnd_16 : decode b_Wri_writeEnd 16 = .ok (.invokevirtual 24, 3) := by decide +kernel
theorem d_Wri_writeEnd_19 : decode b_Wri_writeEnd 19 = .ok (.aload_n 0, 1) := by decide +kernel
theorem d_Wri_writeEnd_20 : decode b_Wri_writeEnd 20 = .ok (.sipush 217, 3) := by decide +kernel
theorem d_Wri_writeEnd_23 : decode b_Wri_writeEnd 23 = .ok (.invokevirtual 24, 3) := by decide +kernel
theorem d_Wri_writeEnd_26 : decode b_Wri_writeEnd 26 = .ok (.return_, 1) := by decide +kernel
theorem d_Wri_writeNumber_0 : decode b_Wri_writeNumber 0 = .ok (.iload_n 3, 1) := by decide +kernel
theorem d_Wri_writeNumber_1 : decode b_Wri_writeNumber 1 = .ok (.iload 4, 2) := by decide +kernel
theorem d_Wri_writeNumber_3 : decode b_Wri_writeNumber 3 = .ok (.isub, 1) := by decide +kernel
theorem d_Wri_writeNumber_4 : decode b_Wri_writeNumber 4 = .ok (.iconst 1, 1) := by decide +kernel
theorem d_Wri_writeNumber_5 : decode b_Wri_writeNumber 5 = .ok (.isub, 1) := by decide +kernel
theorem d_Wri_writeNumber_6 : decode b_Wri_writeNumber 6 = .ok (.istore 5, 2) := by decide +kernel
theorem d_Wri_writeNumber_8 : decode b_Wri_writeNumber 8 = .ok (.iload_n 1, 1) := by decide +kernel
theorem d_Wri_writeNumber_9 : decode b_Wri_writeNumber 9 = .ok (.iload_n 2, 1) := by decide +kernel
theorem d_Wri_writeNumber_10 : decode b_Wri_writeNumber 10 = .ok (.ishr, 1) := by decide +kernel
theorem d_Wri_writeNumber_11 : decode b_Wri_writeNumber 11 = .ok (.iload 5, 2) := by decide +kernel
theorem d_Wri_writeNumber_13 : decode b_Wri_writeNumber 13 = .ok (.if_icmp .ge 22, 3) := by decide +kernel
theorem d_Wri_writeNumber_16 : decode b_Wri_writeNumber 16 = .ok (.aload_n 0, 1) := by decide +kernel
theorem d_Wri_writeNumber_17 : decode b_Wri_writeNumber 17 = .ok (.iconst 1, 1) := by decide +kernel
theorem d_Wri_writeNumber_18 : decode b_Wri_writeNumber 18 = .ok (.iload_n 1, 1) := by decide +kernel
theorem d_Wri_writeNumber_19 : decode b_Wri_writeNumber 19 = .ok (.iload_n 2, 1) := by decide +kernel
theorem d_Wri_writeNumber_20 : decode b_Wri_writeNumber 20 = .ok (.ishr, 1) := by decide +kernel
theorem d_Wri_writeNumber_21 : decode b_Wri_writeNumber 21 = .ok (.iconst 1, 1) := by decide +kernel
theorem d_Wri_writeNumber_22 : decode b_Wri_writeNumber 22 = .ok (.iadd, 1) := by decide +kernel
theorem d_Wri_writeNumber_23 : decode b_Wri_writeNumber 23 = .ok (.invokevirtual 28, 3) := by decide +kernel
theorem d_Wri_writeNumber_26 : decode b_Wri_writeNumber 26 = .ok (.aload_n 0, 1) := by decide +kernel
theorem d_Wri_writeNumber_27 : decode b_Wri_writeNumber 27 = .ok (.iload_n 1, 1) := by decide +kernel
theorem d_Wri_writeNumber_28 : decode b_Wri_writeNumber 28 = .ok (.iload_n 2, 1) := by decide +kernel
theorem d_Wri_writeNumber_29 : decode b_Wri_writeNumber 29 = .ok (.invokevirtual 28, 3) := by decide +kernel
theorem d_Wri_writeNumber_32 : decode b_Wri_writeNumber 32 = .ok (.goto 21, 3) := by decide +kernel
theorem d_Wri_writeNumber_35 : decode b_Wri_writeNumber 35 = .ok (.aload_n 0, 1) := by decide +kernel
theorem d_Wri_writeNumber_36 : decode b_Wri_writeNumber 36 = .ok (.iconst 1, 1) := by decide +kernel
theorem d_Wri_writeNumber_37 : decode b_Wri_writeNumber 37 = .ok (.iload 5, 2) := by decide +kernel
theorem d_Wri_writeNumber_39 : decode b_Wri_writeNumber 39 = .ok (.iconst 1, 1) := by decide +kernel
theorem d_Wri_writeNumber_40 : decode b_Wri_writeNumber 40 = .ok (.iadd, 1) := by decide +kernel
theorem d_Wri_writeNumber_41 : decode b_Wri_writeNumber 41 = .ok (.invokevirtual 28, 3) := by decide +kernel
theorem d_Wri_writeNumber_44 : decode b_Wri_writeNumber 44 = .ok (.aload_n 0, 1) := by decide +kernel
theorem d_Wri_writeNumber_45 : decode b_Wri_writeNumber 45 = .ok (.iload_n 1, 1) := by decide +kernel
theorem d_Wri_writeNumber_46 : decode b_Wri_writeNumber 46 = .ok (.iconst 1, 1) := by decide +kernel
theorem d_Wri_writeNumber_47 : decode b_Wri_writeNumber 47 = .ok (.isub, 1) := by decide +kernel
theorem d_Wri_writeNumber_48 : decode b_Wri_writeNumber 48 = .ok (.iload 4, 2) := by decide +kernel
theorem d_Wri_writeNumber_50 : decode b_Wri_writeNumber 50 = .ok (.invokevirtual 28, 3) := by decide +kernel
theorem d_Wri_writeNumber_53 : decode b_Wri_writeNumber 53 = .ok (.return_, 1) := by decide +kernel
