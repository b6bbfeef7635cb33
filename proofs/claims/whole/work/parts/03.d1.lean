theorem d_Ctx_takeOver_0 : decode b_Ctx_takeOver 0 = .ok (.aload_n 1, 1) := by decide +kernel
theorem d_Ctx_takeOver_1 : decode b_Ctx_takeOver 1 = .ok (.getfield 9, 3) := by decide +kernel
theorem d_Ctx_takeOver_4 : decode b_Ctx_takeOver 4 = .ok (.iconst 0, 1) := by decide +kernel
theorem d_Ctx_takeOver_5 : decode b_Ctx_takeOver 5 = .ok (.aload_n 0, 1) := by decide +kernel
theorem d_Ctx_takeOver_6 : decode b_Ctx_takeOver 6 = .ok (.getfield 9, 3) := by decide +kernel
theorem d_Ctx_takeOver_9 : decode b_Ctx_takeOver 9 = .ok (.iconst 0, 1) := by decide +kernel
theorem d_Ctx_takeOver_10 : decode b_Ctx_takeOver 10 = .ok (.sipush 367, 3) := by decide +kernel
theorem d_Ctx_takeOver_13 : decode b_Ctx_takeOver 13 = .ok (.invokestatic 41, 3) := by decide +kernel
theorem d_Ctx_takeOver_16 : decode b_Ctx_takeOver 16 = .ok (.aload_n 1, 1) := by decide +kernel
theorem d_Ctx_takeOver_17 : decode b_Ctx_takeOver 17 = .ok (.getfield 13, 3) := by decide +kernel
theorem d_Ctx_takeOver_20 : decode b_Ctx_takeOver 20 = .ok (.iconst 0, 1) := by decide +kernel
theorem d_Ctx_takeOver_21 : decode b_Ctx_takeOver 21 = .ok (.aload_n 0, 1) := by decide +kernel
theorem d_Ctx_takeOver_22 : decode b_Ctx_takeOver 22 = .ok (.getfield 13, 3) := by decide +kernel
theorem d_Ctx_takeOver_25 : decode b_Ctx_takeOver 25 = .ok (.iconst 0, 1) := by decide +kernel
theorem d_Ctx_takeOver_26 : decode b_Ctx_takeOver 26 = .ok (.sipush 367, 3) := by decide +kernel
theorem d_Ctx_takeOver_29 : decode b_Ctx_takeOver 29 = .ok (.invokestatic 41, 3) := by decide +kernel
theorem d_Ctx_takeOver_32 : decode b_Ctx_takeOver 32 = .ok (.aload_n 1, 1) := by decide +kernel
theorem d_Ctx_takeOver_33 : decode b_Ctx_takeOver 33 = .ok (.getfield 16, 3) := by decide +kernel
theorem d_Ctx_takeOver_36 : decode b_Ctx_takeOver 36 = .ok (.iconst 0, 1) := by decide +kernel
theorem d_Ctx_takeOver_37 : decode b_Ctx_takeOver 37 = .ok (.aload_n 0, 1) := by decide +kernel
theorem d_Ctx_takeOver_38 : decode b_Ctx_takeOver 38 = .ok (.getfield 16, 3) := by decide +kernel
theorem d_Ctx_takeOver_41 : decode b_Ctx_takeOver 41 = .ok (.iconst 0, 1) := by decide +kernel
theorem d_Ctx_takeOver_42 : decode b_Ctx_takeOver 42 = .ok (.sipush 367, 3) := by decide +kernel
theorem d_Ctx_takeOver_45 : decode b_Ctx_takeOver 45 = .ok (.invokestatic 41, 3) := by decide +kernel
theorem d_Ctx_takeOver_48 : decode b_Ctx_takeOver 48 = .ok (.aload_n 1, 1) := by decide +kernel
theorem d_Ctx_takeOver_49 : decode b_Ctx_takeOver 49 = .ok (.getfield 19, 3) := by decide +kernel
theorem d_Ctx_takeOver_52 : decode b_Ctx_takeOver 52 = .ok (.iconst 0, 1) := by decide +kernel
theorem d_Ctx_takeOver_53 : decode b_Ctx_takeOver 53 = .ok (.aload_n 0, 1) := by decide +kernel
theorem d_Ctx_takeOver_54 : decode b_Ctx_takeOver 54 = .ok (.getfield 19, 3) := by decide +kernel
theorem d_Ctx_takeOver_57 : decode b_Ctx_takeOver 57 = .ok (.iconst 0, 1) := by decide +kernel
theorem d_Ctx_takeOver_58 : decode b_Ctx_takeOver 58 = .ok (.sipush 367, 3) := by decide +kernel
theorem d_Ctx_takeOver_61 : decode b_Ctx_takeOver 61 = .ok (.invokestatic 41, 3) := by decide +kernel
theorem d_Ctx_takeOver_64 : decode b_Ctx_takeOver 64 = .ok (.aload_n 1, 1) := by decide +kernel
theorem d_Ctx_takeOver_65 : decode b_Ctx_takeOver 65 = .ok (.getfield 22, 3) := by decide +kernel
theorem d_Ctx_takeOver_68 : decode b_Ctx_takeOver 68 = .ok (.iconst 0, 1) := by decide +kernel
theorem d_Ctx_takeOver_69 : decode b_Ctx_takeOver 69 = .ok (.aload_n 0, 1) := by decide +kernel
theorem d_Ctx_takeOver_70 : decode b_Ctx_takeOver 70 = .ok (.getfield 22, 3) := by decide +kernel
theorem d_Ctx_takeOver_73 : decode b_Ctx_takeOver 73 = .ok (.iconst 0, 1) := by decide +kernel
theorem d_Ctx_takeOver_74 : decode b_Ctx_takeOver 74 = .ok (.sipush 367, 3) := by decide +kernel
theorem d_Ctx_takeOver_77 : decode b_Ctx_takeOver 77 = .ok (.invokestatic 41, 3) := by decide +kernel
theorem d_Ctx_takeOver_80 : decode b_Ctx_takeOver 80 = .ok (.aload_n 0, 1) := by decide +kernel
theorem d_Ctx_takeOver_81 : decode b_Ctx_takeOver 81 = .ok (.aload_n 1, 1) := by decide +kernel
theorem d_Ctx_takeOver_82 : decode b_Ctx_takeOver 82 = .ok (.getfield 37, 3) := by decide +kernel
theorem d_Ctx_takeOver_85 : decode b_Ctx_takeOver 85 = .ok (.putfield 37, 3) := by decide +kernel
theorem d_Ctx_takeOver_88 : decode b_Ctx_takeOver 88 = .ok (.return_, 1) := by decide +kernel
theorem d_Fol_foldEnd_0 : decode b_Fol_foldEnd 0 = .ok (.iload_n 0, 1) := by decide +kernel
theorem d_Fol_foldEnd_1 : decode b_Fol_foldEnd 1 = .ok (.ifCond .eq 20, 3) := by decide +kernel
theorem d_Fol_foldEnd_4 : decode b_Fol_foldEnd 4 = .ok (.iload_n 0, 1) := by decide +kernel
theorem d_Fol_foldEnd_5 : decode b_Fol_foldEnd 5 = .ok (.ifCond .ge 7, 3) := by decide +kernel
theorem d_Fol_foldEnd_8 : decode b_Fol_foldEnd 8 = .ok (.iconst 1, 1) := by decide +kernel
theorem d_Fol_foldEnd_9 : decode b_Fol_foldEnd 9 = .ok (.goto 4, 3) := by decide +kernel
theorem d_Fol_foldEnd_12 : decode b_Fol_foldEnd 12 = .ok (.iconst 0, 1) := by decide +kernel
theorem d_Fol_foldEnd_13 : decode b_Fol_foldEnd 13 = .ok (.iload_n 2, 1) := by decide +kernel
theorem d_Fol_foldEnd_14 : decode b_Fol_foldEnd 14 = .ok (.if_icmp .ne 7, 3) := by decide +kernel
theorem d_Fol_foldEnd_17 : decode b_Fol_foldEnd 17 = .ok (.iconst 1, 1) := by decide +kernel
theorem d_Fol_foldEnd_18 : decode b_Fol_foldEnd 18 = .ok (.goto 4, 3) := by decide +kernel
theorem d_Fol_foldEnd_21 : decode b_Fol_foldEnd 21 = .ok (.iconst 0, 1) := by decide +kernel
theorem d_Fol_foldEnd_22 : decode b_Fol_foldEnd 22 = .ok (.istore_n 3, 1) := by decide +kernel
theorem d_Fol_foldEnd_23 : decode b_Fol_foldEnd 23 = .ok (.iconst 2, 1) := by decide +kernel
theorem d_Fol_foldEnd_24 : decode b_Fol_foldEnd 24 = .ok (.iload_n 0, 1) := by decide +kernel
theorem d_Fol_foldEnd_25 : decode b_Fol_foldEnd 25 = .ok (.invokestatic 7, 3) := by decide +kernel
theorem d_Fol_foldEnd_28 : decode b_Fol_foldEnd 28 = .ok (.imul, 1) := by decide +kernel
theorem d_Fol_foldEnd_29 : decode b_Fol_foldEnd 29 = .ok (.iload_n 1, 1) := by decide +kernel
theorem d_Fol_foldEnd_30 : decode b_Fol_foldEnd 30 = .ok (.isub, 1) := by decide +kernel
theorem d_Fol_foldEnd_31 : decode b_Fol_foldEnd 31 = .ok (.iload_n 3, 1) := by decide +kernel
theorem d_Fol_foldEnd_32 : decode b_Fol_foldEnd 32 = .ok (.isub, 1) := by decide +kernel
theorem d_Fol_foldEnd_33 : decode b_Fol_foldEnd 33 = .ok (.ireturn, 1) := by decide +kernel
theorem d_Fol_foldRegular_0 : decode b_Fol_foldRegular 0 = .ok (.iload_n 1, 1) := by decide +kernel
theorem d_Fol_foldRegular_1 : decode b_Fol_foldRegular 1 = .ok (.ifCond .eq 22, 3) := by decide +kernel
theorem d_Fol_foldRegular_4 : decode b_Fol_foldRegular 4 = .ok (.iload_n 0, 1) := by decide +kernel
theorem d_Fol_foldRegular_5 : decode b_Fol_foldRegular 5 = .ok (.ifCond .lt 11, 3) := by decide +kernel
theorem d_Fol_foldRegular_8 : decode b_Fol_foldRegular 8 = .ok (.iconst 2, 1) := by decide +kernel
theorem d_Fol_foldRegular_9 : decode b_Fol_foldRegular 9 = .ok (.iload_n 0, 1) := by decide +kernel
theorem d_Fol_foldRegular_10 : decode b_Fol_foldRegular 10 = .ok (.imul, 1) := by decide +kernel
theorem d_Fol_foldRegular_11 : decode b_Fol_foldRegular 11 = .ok (.iconst 1, 1) := by decide +kernel
theorem d_Fol_foldRegular_12 : decode b_Fol_foldRegular 12 = .ok (.iadd, 1) := by decide +kernel
theorem d_Fol_foldRegular_13 : decode b_Fol_foldRegular 13 = .ok (.goto 9, 3) := by decide +kernel
theorem d_Fol_foldRegular_16 : decode b_Fol_foldRegular 16 = .ok (.bipush (-2), 2) := by decide +kernel
theorem d_Fol_foldRegular_18 : decode b_Fol_foldRegular 18 = .ok (.iload_n 0, 1) := by decide +kernel
theorem d_Fol_foldRegular_19 : decode b_Fol_foldRegular 19 = .ok (.iconst 1, 1) := by decide +kernel
theorem d_Fol_foldRegular_20 : decode b_Fol_foldRegular 20 = .ok (.iadd, 1) := by decide +kernel
theorem d_Fol_foldRegular_21 : decode b_Fol_foldRegular 21 = .ok (.imul, 1) := by decide +kernel
theorem d_Fol_foldRegular_22 : decode b_Fol_foldRegular 22 = .ok (.ireturn, 1) := by decide +kernel
theorem d_Fol_foldRegular_23 : decode b_Fol_foldRegular 23 = .ok (.iload_n 0, 1) := by decide +kernel
theorem d_Fol_foldRegular_24 : decode b_Fol_foldRegular 24 = .ok (.ifCond .lt 9, 3) := by decide +kernel
theorem d_Fol_foldRegular_27 : decode b_Fol_foldRegular 27 = .ok (.iconst 2, 1) := by decide +kernel
theorem d_Fol_foldRegular_28 : decode b_Fol_foldRegular 28 = .ok (.iload_n 0, 1) := by decide +kernel
theorem d_Fol_foldRegular_29 : decode b_Fol_foldRegular 29 = .ok (.imul, 1) := by decide +kernel
theorem d_Fol_foldRegular_30 : decode b_Fol_foldRegular 30 = .ok (.goto 9, 3) := by decide +kernel
theorem d_Fol_foldRegular_33 : decode b_Fol_foldRegular 33 = .ok (.bipush (-2), 2) := by decide +kernel
theorem d_Fol_foldRegular_35 : decode b_Fol_foldRegular 35 = .ok (.iload_n 0, 1) := by decide +kernel
theorem d_Fol_foldRegular_36 : decode b_Fol_foldRegular 36 = .ok (.imul, 1) := by decide +kernel
theorem d_Fol_foldRegular_37 : decode b_Fol_foldRegular 37 = .ok (.iconst 1, 1) := by decide +kernel
theorem d_Fol_foldRegular_38 : decode b_Fol_foldRegular 38 = .ok (.isub, 1) := by decide +kernel
theorem d_Fol_foldRegular_39 : decode b_Fol_foldRegular 39 = .ok (.ireturn, 1) := by decide +kernel
theorem d_Fol_unfoldEnd_0 : decode b_Fol_unfoldEnd 0 = .ok (.iload_n 0, 1) := by decide +kernel
theorem d_Fol_unfoldEnd_1 : decode b_Fol_unfoldEnd 1 = .ok (.iload_n 1, 1) := by decide +kernel
theorem d_Fol_unfoldEnd_2 : decode b_Fol_unfoldEnd 2 = .ok (.iadd, 1) := by decide +kernel
theorem d_Fol_unfoldEnd_3 : decode b_Fol_unfoldEnd 3 = .ok (.iconst 1, 1) := by decide +kernel
theorem d_Fol_unfoldEnd_4 : decode b_Fol_unfoldEnd 4 = .ok (.iand, 1) := by decide +kernel
theorem d_Fol_unfoldEnd_5 : decode b_Fol_unfoldEnd 5 = .ok (.istore_n 3, 1) := by decide +kernel
theorem d_Fol_unfoldEnd_6 : decode b_Fol_unfoldEnd 6 = .ok (.iload_n 0, 1) := by decide +kernel
theorem d_Fol_unfoldEnd_7 : decode b_Fol_unfoldEnd 7 = .ok (.iload_n 1, 1) := by decide +kernel
theorem d_Fol_unfoldEnd_8 : decode b_Fol_unfoldEnd 8 = .ok (.iadd, 1) := by decide +kernel
theorem d_Fol_unfoldEnd_9 : decode b_Fol_unfoldEnd 9 = .ok (.iload_n 3, 1) := by decide +kernel
theorem d_Fol_unfoldEnd_10 : decode b_Fol_unfoldEnd 10 = .ok (.iadd, 1) := by decide +kernel
theorem d_Fol_unfoldEnd_11 : decode b_Fol_unfoldEnd 11 = .ok (.iconst 2, 1) := by decide +kernel
theorem d_Fol_unfoldEnd_12 : decode b_Fol_unfoldEnd 12 = .ok (.idiv, 1) := by decide +kernel
theorem d_Fol_unfoldEnd_13 : decode b_Fol_unfoldEnd 13 = .ok (.istore 4, 2) := by decide +kernel
theorem d_Fol_unfoldEnd_15 : decode b_Fol_unfoldEnd 15 = .ok (.iload_n 3, 1) := by decide +kernel
theorem d_Fol_unfoldEnd_16 : decode b_Fol_unfoldEnd 16 = .ok (.iconst 1, 1) := by decide +kernel
theorem d_Fol_unfoldEnd_17 : decode b_Fol_unfoldEnd 17 = .ok (.if_icmp .ne 7, 3) := by decide +kernel
theorem d_Fol_unfoldEnd_20 : decode b_Fol_unfoldEnd 20 = .ok (.iconst 1, 1) := by decide +kernel
theorem d_Fol_unfoldEnd_21 : decode b_Fol_unfoldEnd 21 = .ok (.goto 4, 3) := by decide +kernel
theorem d_Fol_unfoldEnd_24 : decode b_Fol_unfoldEnd 24 = .ok (.iconst 0, 1) := by decide +kernel
theorem d_Fol_unfoldEnd_25 : decode b_Fol_unfoldEnd 25 = .ok (.iload_n 2, 1) := by decide +kernel
theorem d_Fol_unfoldEnd_26 : decode b_Fol_unfoldEnd 26 = .ok (.if_icmp .ne 9, 3) := by decide +kernel
theorem d_Fol_unfoldEnd_29 : decode b_Fol_unfoldEnd 29 = .ok (.iload 4, 2) := by decide +kernel
theorem d_Fol_unfoldEnd_31 : decode b_Fol_unfoldEnd 31 = .ok (.ineg, 1) := by decide +kernel
theorem d_Fol_unfoldEnd_32 : decode b_Fol_unfoldEnd 32 = .ok (.goto 5, 3) := by decide +kernel
theorem d_Fol_unfoldEnd_35 : decode b_Fol_unfoldEnd 35 = .ok (.iload 4, 2) := by decide +kernel
theorem d_Fol_unfoldEnd_37 : decode b_Fol_unfoldEnd 37 = .ok (.ireturn, 1) := by decide +kernel
theorem d_Fol_unfoldRegular_0 : decode b_Fol_unfoldRegular 0 = .ok (.iload_n 0, 1) := by decide +kernel
theorem d_Fol_unfoldRegular_1 : decode b_Fol_unfoldRegular 1 = .ok (.iconst 1, 1) := by decide +kernel
theorem d_Fol_unfoldRegular_2 : decode b_Fol_unfoldRegular 2 = .ok (.iand, 1) := by decide +kernel
theorem d_Fol_unfoldRegular_3 : decode b_Fol_unfoldRegular 3 = .ok (.iconst 1, 1) := by decide +kernel
theorem d_Fol_unfoldRegular_4 : decode b_Fol_unfoldRegular 4 = .ok (.if_icmp .ne 7, 3) := by decide +kernel
theorem d_Fol_unfoldRegular_7 : decode b_Fol_unfoldRegular 7 = .ok (.iconst 1, 1) := by decide +kernel
theorem d_Fol_unfoldRegular_8 : decode b_Fol_unfoldRegular 8 = .ok (.goto 4, 3) := by decide +kernel
theorem d_Fol_unfoldRegular_11 : decode b_Fol_unfoldRegular 11 = .ok (.iconst 0, 1) := by decide +kernel
theorem d_Fol_unfoldRegular_12 : decode b_Fol_unfoldRegular 12 = .ok (.istore_n 2, 1) := by decide +kernel
theorem d_Fol_unfoldRegular_13 : decode b_Fol_unfoldRegular 13 = .ok (.iload_n 1, 1) := by decide +kernel
theorem d_Fol_unfoldRegular_14 : decode b_Fol_unfoldRegular 14 = .ok (.ifCond .eq 20, 3) := by decide +kernel
theorem d_Fol_unfoldRegular_17 : decode b_Fol_unfoldRegular 17 = .ok (.iload_n 2, 1) := by decide +kernel
theorem d_Fol_unfoldRegular_18 : decode b_Fol_unfoldRegular 18 = .ok (.ifCond .eq 9, 3) := by decide +kernel
theorem d_Fol_unfoldRegular_21 : decode b_Fol_unfoldRegular 21 = .ok (.iload_n 0, 1) := by decide +kernel
theorem d_Fol_unfoldRegular_22 : decode b_Fol_unfoldRegular 22 = .ok (.iconst 2, 1) := by decide +kernel
theorem d_Fol_unfoldRegular_23 : decode b_Fol_unfoldRegular 23 = .ok (.idiv, 1) := by decide +kernel
theorem d_Fol_unfoldRegular_24 : decode b_Fol_unfoldRegular 24 = .ok (.goto 9, 3) := by decide +kernel
theorem d_Fol_unfoldRegular_27 : decode b_Fol_unfoldRegular 27 = .ok (.iload_n 0, 1) := by decide +kernel
theorem d_Fol_unfoldRegular_28 : decode b_Fol_unfoldRegular 28 = .ok (.iconst 2, 1) := by decide +kernel
theorem d_Fol_unfoldRegular_29 : decode b_Fol_unfoldRegular 29 = .ok (.idiv, 1) := by decide +kernel
theorem d_Fol_unfoldRegular_30 : decode b_Fol_unfoldRegular 30 = .ok (.ineg, 1) := by decide +kernel
theorem d_Fol_unfoldRegular_31 : decode b_Fol_unfoldRegular 31 = .ok (.iconst 1, 1) := by decide +kernel
theorem d_Fol_unfoldRegular_32 : decode b_Fol_unfoldRegular 32 = .ok (.isub, 1) := by decide +kernel
theorem d_Fol_unfoldRegular_33 : decode b_Fol_unfoldRegular 33 = .ok (.ireturn, 1) := by decide +kernel
theorem d_Fol_unfoldRegular_34 : decode b_Fol_unfoldRegular 34 = .ok (.iload_n 2, 1) := by decide +kernel
theorem d_Fol_unfoldRegular_35 : decode b_Fol_unfoldRegular 35 = .ok (.ifCond .eq 12, 3) := by decide +kernel
theorem d_Fol_unfoldRegular_38 : decode b_Fol_unfoldRegular 38 = .ok (.iload_n 0, 1) := by decide +kernel
theorem d_Fol_unfoldRegular_39 : decode b_Fol_unfoldRegular 39 = .ok (.iconst 2, 1) := by decide +kernel
theorem d_Fol_unfoldRegular_40 : decode b_Fol_unfoldRegular 40 = .ok (.idiv, 1) := by decide +kernel
theorem d_Fol_unfoldRegular_41 : decode b_Fol_unfoldRegular 41 = .ok (.ineg, 1) := by decide +kernel
theorem d_Fol_unfoldRegular_42 : decode b_Fol_unfoldRegular 42 = .ok (.iconst 1, 1) := by decide +kernel
theorem d_Fol_unfoldRegular_43 : decode b_Fol_unfoldRegular 43 = .ok (.isub, 1) := by decide +kernel
theorem d_Fol_unfoldRegular_44 : decode b_Fol_unfoldRegular 44 = .ok (.goto 6, 3) := by decide +kernel
theorem d_Fol_unfoldRegular_47 : decode b_Fol_unfoldRegular 47 = .ok (.iload_n 0, 1) := by decide +kernel
theorem d_Fol_unfoldRegular_48 : decode b_Fol_unfoldRegular 48 = .ok (.iconst 2, 1) := by decide +kernel
theorem d_Fol_unfoldRegular_49 : decode b_Fol_unfoldRegular 49 = .ok (.idiv, 1) := by decide +kernel
theorem d_Fol_unfoldRegular_50 : decode b_Fol_unfoldRegular 50 = .ok (.ireturn, 1) := by decide +kernel
theorem d_Grc_code_0 : decode b_Grc_code 0 = .ok (.aload_n 0, 1) := by decide +kernel
theorem d_Grc_code_1 : decode b_Grc_code 1 = .ok (.iload_n 1, 1) := by decide +kernel
theorem d_Grc_code_2 : decode b_Grc_code 2 = .ok (.invokevirtual 63, 3) := by decide +kernel
theorem d_Grc_code_5 : decode b_Grc_code 5 = .ok (.ifCond .eq 18, 3) := by decide +kernel
theorem d_Grc_code_8 : decode b_Grc_code 8 = .ok (.aload_n 0, 1) := by decide +kernel
theorem d_Grc_code_9 : decode b_Grc_code 9 = .ok (.getfield 10, 3) := by decide +kernel
theorem d_Grc_code_12 : decode b_Grc_code 12 = .ok (.getfield 51, 3) := by decide +kernel
theorem d_Grc_code_15 : decode b_Grc_code 15 = .ok (.getfield 67, 3) := by decide +kernel
theorem d_Grc_code_18 : decode b_Grc_code 18 = .ok (.iload_n 1, 1) := by decide +kernel
theorem d_Grc_code_19 : decode b_Grc_code 19 = .ok (.iaload, 1) := by decide +kernel
theorem d_Grc_code_20 : decode b_Grc_code 20 = .ok (.goto 4, 3) := by decide +kernel
theorem d_Grc_code_23 : decode b_Grc_code 23 = .ok (.iconst (-1), 1) := by decide +kernel
theorem d_Grc_code_24 : decode b_Grc_code 24 = .ok (.ireturn, 1) := by decide +kernel
theorem d_Grc_context_0 : decode b_Grc_context 0 = .ok (.iload_n 1, 1) := by decide +kernel
theorem d_Grc_context_1 : decode b_Grc_context 1 = .ok (.ifCond .lt 10, 3) := by decide +kernel
theorem d_Grc_context_4 : decode b_Grc_context 4 = .ok (.iload_n 1, 1) := by decide +kernel
theorem d_Grc_context_5 : decode b_Grc_context 5 = .ok (.sipush 367, 3) := by decide +kernel
theorem d_Grc_context_8 : decode b_Grc_context 8 = .ok (.if_icmp .lt 6, 3) := by decide +kernel
theorem d_Grc_context_11 : decode b_Grc_context 11 = .ok (.ldc 132, 2) := by decide +kernel
theorem d_Grc_context_13 : decode b_Grc_context 13 = .ok (.ireturn, 1) := by decide +kernel
theorem d_Grc_context_14 : decode b_Grc_context 14 = .ok (.aload_n 0, 1) := by decide +kernel
theorem d_Grc_context_15 : decode b_Grc_context 15 = .ok (.getfield 10, 3) := by decide +kernel
theorem d_Grc_context_18 : decode b_Grc_context 18 = .ok (.getfield 133, 3) := by decide +kernel
theorem d_Grc_context_21 : decode b_Grc_context 21 = .ok (.astore_n 3, 1) := by decide +kernel
theorem d_Grc_context_22 : decode b_Grc_context 22 = .ok (.iload_n 2, 1) := by decide +kernel
theorem d_Grc_context_23 : decode b_Grc_context 23 = .ok (.tableswitch 68 0 4 #[33, 40, 47, 54, 61], 33) := by decide +kernel
theorem d_Grc_context_56 : decode b_Grc_context 56 = .ok (.aload_n 3, 1) := by decide +kernel
theorem d_Grc_context_57 : decode b_Grc_context 57 = .ok (.getfield 137, 3) := by decide +kernel
theorem d_Grc_context_60 : decode b_Grc_context 60 = .ok (.iload_n 1, 1) := by decide +kernel
theorem d_Grc_context_61 : decode b_Grc_context 61 = .ok (.iaload, 1) := by decide +kernel
theorem d_Grc_context_62 : decode b_Grc_context 62 = .ok (.ireturn, 1) := by decide +kernel
theorem d_Grc_context_63 : decode b_Grc_context 63 = .ok (.aload_n 3, 1) := by decide +kernel
theorem d_Grc_context_64 : decode b_Grc_context 64 = .ok (.getfield 140, 3) := by decide +kernel
theorem d_Grc_context_67 : decode b_Grc_context 67 = .ok (.iload_n 1, 1) := by decide +kernel
theorem d_Grc_context_68 : decode b_Grc_context 68 = .ok (.iaload, 1) := by decide +kernel
theorem d_Grc_context_69 : decode b_Grc_context 69 = .ok (.ireturn, 1) := by decide +kernel
theorem d_Grc_context_70 : decode b_Grc_context 70 = .ok (.aload_n 3, 1) := by decide +kernel
theorem d_Grc_context_71 : decode b_Grc_context 71 = .ok (.getfield 143, 3) := by decide +kernel
theorem d_Grc_context_74 : decode b_Grc_context 74 = .ok (.iload_n 1, 1) := by decide +kernel
theorem d_Grc_context_75 : decode b_Grc_context 75 = .ok (.iaload, 1) := by decide +kernel
theorem d_Grc_context_76 : decode b_Grc_context 76 = .ok (.ireturn, 1) := by decide +kernel
theorem d_Grc_context_77 : decode b_Grc_context 77 = .ok (.aload_n 3, 1) := by decide +kernel
theorem d_Grc_context_78 : decode b_Grc_context 78 = .ok (.getfield 146, 3) := by decide +kernel
theorem d_Grc_context_81 : decode b_Grc_context 81 = .ok (.iload_n 1, 1) := by decide +kernel
theorem d_Grc_context_82 : decode b_Grc_context 82 = .ok (.iaload, 1) := by decide +kernel
theorem d_Grc_context_83 : decode b_Grc_context 83 = .ok (.ireturn, 1) := by decide +kernel
theorem d_Grc_context_84 : decode b_Grc_context 84 = .ok (.aload_n 3, 1) := by decide +kernel
theorem d_Grc_context_85 : decode b_Grc_context 85 = .ok (.getfield 149, 3) := by decide +kernel
theorem d_Grc_context_88 : decode b_Grc_context 88 = .ok (.iload_n 1, 1) := by decide +kernel
theorem d_Grc_context_89 : decode b_Grc_context 89 = .ok (.iaload, 1) := by decide +kernel
theorem d_Grc_context_90 : decode b_Grc_context 90 = .ok (.ireturn, 1) := by decide +kernel
theorem d_Grc_context_91 : decode b_Grc_context 91 = .ok (.ldc 132, 2) := by decide +kernel
theorem d_Grc_context_93 : decode b_Grc_context 93 = .ok (.ireturn, 1) := by decide +kernel
theorem d_Grc_cut_0 : decode b_Grc_cut 0 = .ok (.iload_n 1, 1) := by decide +kernel
theorem d_Grc_cut_1 : decode b_Grc_cut 1 = .ok (.ifCond .lt 17, 3) := by decide +kernel
theorem d_Grc_cut_4 : decode b_Grc_cut 4 = .ok (.iload_n 1, 1) := by decide +kernel
theorem d_Grc_cut_5 : decode b_Grc_cut 5 = .ok (.aload_n 0, 1) := by decide +kernel
theorem d_Grc_cut_6 : decode b_Grc_cut 6 = .ok (.getfield 10, 3) := by decide +kernel
theorem d_Grc_cut_9 : decode b_Grc_cut 9 = .ok (.getfield 51, 3) := by decide +kernel
theorem d_Grc_cut_12 : decode b_Grc_cut 12 = .ok (.getfield 60, 3) := by decide +kernel
theorem d_Grc_cut_15 : decode b_Grc_cut 15 = .ok (.if_icmp .le 5, 3) := by decide +kernel
theorem d_Grc_cut_18 : decode b_Grc_cut 18 = .ok (.iconst 0, 1) := by decide +kernel
theorem d_Grc_cut_19 : decode b_Grc_cut 19 = .ok (.ireturn, 1) := by decide +kernel
theorem d_Grc_cut_20 : decode b_Grc_cut 20 = .ok (.aload_n 0, 1) := by decide +kernel
theorem d_Grc_cut_21 : decode b_Grc_cut 21 = .ok (.getfield 10, 3) := by decide +kernel
theorem d_Grc_cut_24 : decode b_Grc_cut 24 = .ok (.getfield 51, 3) := by decide +kernel
theorem d_Grc_cut_27 : decode b_Grc_cut 27 = .ok (.iload_n 1, 1) := by decide +kernel
theorem d_Grc_cut_28 : decode b_Grc_cut 28 = .ok (.putfield 60, 3) := by decide +kernel
theorem d_Grc_cut_31 : decode b_Grc_cut 31 = .ok (.iconst 1, 1) := by decide +kernel
theorem d_Grc_cut_32 : decode b_Grc_cut 32 = .ok (.ireturn, 1) := by decide +kernel
theorem d_Grc_decode_0 : decode b_Grc_decode 0 = .ok (.aload_n 0, 1) := by decide +kernel
theorem d_Grc_decode_1 : decode b_Grc_decode 1 = .ok (.getfield 19, 3) := by decide +kernel
theorem d_Grc_decode_4 : decode b_Grc_decode 4 = .ok (.aload_n 0, 1) := by decide +kernel
theorem d_Grc_decode_5 : decode b_Grc_decode 5 = .ok (.getfield 10, 3) := by decide +kernel
theorem d_Grc_decode_8 : decode b_Grc_decode 8 = .ok (.getfield 51, 3) := by decide +kernel
theorem d_Grc_decode_11 : decode b_Grc_decode 11 = .ok (.invokevirtual 71, 3) := by decide +kernel
theorem d_Grc_decode_14 : decode b_Grc_decode 14 = .ok (.aload_n 0, 1) := by decide +kernel
theorem d_Grc_decode_15 : decode b_Grc_decode 15 = .ok (.getfield 19, 3) := by decide +kernel
theorem d_Grc_decode_18 : decode b_Grc_decode 18 = .ok (.invokevirtual 75, 3) := by decide +kernel
theorem d_Grc_decode_21 : decode b_Grc_decode 21 = .ok (.aload_n 0, 1) := by decide +kernel
theorem d_Grc_decode_22 : decode b_Grc_decode 22 = .ok (.getfield 19, 3) := by decide +kernel
theorem d_Grc_decode_25 : decode b_Grc_decode 25 = .ok (.getfield 76, 3) := by decide +kernel
theorem d_Grc_decode_28 : decode b_Grc_decode 28 = .ok (.invokevirtual 80, 3) := by decide +kernel
theorem d_Grc_decode_31 : decode b_Grc_decode 31 = .ok (.aload_n 0, 1) := by decide +kernel
theorem d_Grc_decode_32 : decode b_Grc_decode 32 = .ok (.getfield 10, 3) := by decide +kernel
theorem d_Grc_decode_35 : decode b_Grc_decode 35 = .ok (.aload_n 0, 1) := by decide +kernel
theorem d_Grc_decode_36 : decode b_Grc_decode 36 = .ok (.getfield 19, 3) := by decide +kernel
theorem d_Grc_decode_39 : decode b_Grc_decode 39 = .ok (.invokevirtual 85, 3) := by decide +kernel
theorem d_Grc_decode_42 : decode b_Grc_decode 42 = .ok (.aload_n 0, 1) := by decide +kernel
theorem d_Grc_decode_43 : decode b_Grc_decode 43 = .ok (.getfield 10, 3) := by decide +kernel
theorem d_Grc_decode_46 : decode b_Grc_decode 46 = .ok (.getfield 33, 3) := by decide +kernel
theorem d_Grc_decode_49 : decode b_Grc_decode 49 = .ok (.getfield 89, 3) := by decide +kernel
theorem d_Grc_decode_52 : decode b_Grc_decode 52 = .ok (.aload_n 0, 1) := by decide +kernel
theorem d_Grc_decode_53 : decode b_Grc_decode 53 = .ok (.getfield 10, 3) := by decide +kernel
theorem d_Grc_decode_56 : decode b_Grc_decode 56 = .ok (.getfield 33, 3) := by decide +kernel
theorem d_Grc_decode_59 : decode b_Grc_decode 59 = .ok (.getfield 37, 3) := by decide +kernel
theorem d_Grc_decode_62 : decode b_Grc_decode 62 = .ok (.imul, 1) := by decide +kernel
theorem d_Grc_decode_63 : decode b_Grc_decode 63 = .ok (.ireturn, 1) := by decide +kernel
theorem d_Grc_encode_0 : decode b_Grc_encode 0 = .ok (.aload_n 0, 1) := by decide +kernel
theorem d_Grc_encode_1 : decode b_Grc_encode 1 = .ok (.getfield 10, 3) := by decide +kernel
theorem d_Grc_encode_4 : decode b_Grc_encode 4 = .ok (.invokevirtual 45, 3) := by decide +kernel
theorem d_Grc_encode_7 : decode b_Grc_encode 7 = .ok (.aload_n 0, 1) := by decide +kernel
theorem d_Grc_encode_8 : decode b_Grc_encode 8 = .ok (.getfield 10, 3) := by decide +kernel
theorem d_Grc_encode_11 : decode b_Grc_encode 11 = .ok (.invokevirtual 48, 3) := by decide +kernel
theorem d_Grc_encode_14 : decode b_Grc_encode 14 = .ok (.aload_n 0, 1) := by decide +kernel
theorem d_Grc_encode_15 : decode b_Grc_encode 15 = .ok (.getfield 10, 3) := by decide +kernel
theorem d_Grc_encode_18 : decode b_Grc_encode 18 = .ok (.getfield 51, 3) := by decide +kernel
theorem d_Grc_encode_21 : decode b_Grc_encode 21 = .ok (.invokevirtual 55, 3) := by decide +kernel
theorem d_Grc_encode_24 : decode b_Grc_encode 24 = .ok (.aload_n 0, 1) := by decide +kernel
theorem d_Grc_encode_25 : decode b_Grc_encode 25 = .ok (.getfield 10, 3) := by decide +kernel
theorem d_Grc_encode_28 : decode b_Grc_encode 28 = .ok (.getfield 51, 3) := by decide +kernel
theorem d_Grc_encode_31 : decode b_Grc_encode 31 = .ok (.getfield 60, 3) := by decide +kernel
theorem d_Grc_encode_34 : decode b_Grc_encode 34 = .ok (.ireturn, 1) := by decide +kernel
theorem d_Grc_frame_0 : decode b_Grc_frame 0 = .ok (.iload_n 1, 1) := by decide +kernel
theorem d_Grc_frame_1 : decode b_Grc_frame 1 = .ok (.iload_n 2, 1) := by decide +kernel
theorem d_Grc_frame_2 : decode b_Grc_frame 2 = .ok (.iload_n 3, 1) := by decide +kernel
theorem d_Grc_frame_3 : decode b_Grc_frame 3 = .ok (.iload 4, 2) := by decide +kernel
theorem d_Grc_frame_5 : decode b_Grc_frame 5 = .ok (.invokestatic 23, 3) := by decide +kernel
theorem d_Grc_frame_8 : decode b_Grc_frame 8 = .ok (.ifCond .ne 5, 3) := by decide +kernel
theorem d_Grc_frame_11 : decode b_Grc_frame 11 = .ok (.iconst 0, 1) := by decide +kernel
theorem d_Grc_frame_12 : decode b_Grc_frame 12 = .ok (.ireturn, 1) := by decide +kernel
theorem d_Grc_frame_13 : decode b_Grc_frame 13 = .ok (.aload_n 0, 1) := by decide +kernel
theorem d_Grc_frame_14 : decode b_Grc_frame 14 = .ok (.getfield 10, 3) := by decide +kernel
theorem d_Grc_frame_17 : decode b_Grc_frame 17 = .ok (.iload_n 1, 1) := by decide +kernel
theorem d_Grc_frame_18 : decode b_Grc_frame 18 = .ok (.iload_n 2, 1) := by decide +kernel
theorem d_Grc_frame_19 : decode b_Grc_frame 19 = .ok (.iload_n 3, 1) := by decide +kernel
theorem d_Grc_frame_20 : decode b_Grc_frame 20 = .ok (.iload 4, 2) := by decide +kernel
theorem d_Grc_frame_22 : decode b_Grc_frame 22 = .ok (.invokevirtual 29, 3) := by decide +kernel
theorem d_Grc_frame_25 : decode b_Grc_frame 25 = .ok (.iconst 1, 1) := by decide +kernel
theorem d_Grc_frame_26 : decode b_Grc_frame 26 = .ok (.ireturn, 1) := by decide +kernel
theorem d_Grc_hasByte_0 : decode b_Grc_hasByte 0 = .ok (.iload_n 1, 1) := by decide +kernel
theorem d_Grc_hasByte_1 : decode b_Grc_hasByte 1 = .ok (.ifCond .lt 21, 3) := by decide +kernel
theorem d_Grc_hasByte_4 : decode b_Grc_hasByte 4 = .ok (.iload_n 1, 1) := by decide +kernel
theorem d_Grc_hasByte_5 : decode b_Grc_hasByte 5 = .ok (.aload_n 0, 1) := by decide +kernel
theorem d_Grc_hasByte_6 : decode b_Grc_hasByte 6 = .ok (.getfield 10, 3) := by decide +kernel
theorem d_Grc_hasByte_9 : decode b_Grc_hasByte 9 = .ok (.getfield 51, 3) := by decide +kernel
theorem d_Grc_hasByte_12 : decode b_Grc_hasByte 12 = .ok (.getfield 60, 3) := by decide +kernel
theorem d_Grc_hasByte_15 : decode b_Grc_hasByte 15 = .ok (.if_icmp .ge 7, 3) := by decide +kernel
theorem d_Grc_hasByte_18 : decode b_Grc_hasByte 18 = .ok (.iconst 1, 1) := by decide +kernel
theorem d_Grc_hasByte_19 : decode b_Grc_hasByte 19 = .ok (.goto 4, 3) := by decide +kernel
theorem d_Grc_hasByte_22 : decode b_Grc_hasByte 22 = .ok (.iconst 0, 1) := by decide +kernel
theorem d_Grc_hasByte_23 : decode b_Grc_hasByte 23 = .ok (.ireturn, 1) := by decide +kernel
theorem d_Grc_init_0 : decode b_Grc_init 0 = .ok (.aload_n 0, 1) := by decide +kernel
theorem d_Grc_init_1 : decode b_Grc_init 1 = .ok (.invokespecial 1, 3) := by decide +kernel
theorem d_Grc_init_4 : decode b_Grc_init 4 = .ok (.aload_n 0, 1) := by decide +kernel
theorem d_Grc_init_5 : decode b_Grc_init 5 = .ok (.new 7, 3) := by decide +kernel
theorem d_Grc_init_8 : decode b_Grc_init 8 = .ok (.dup, 1) := by decide +kernel
theorem d_Grc_init_9 : decode b_Grc_init 9 = .ok (.invokespecial 9, 3) := by decide +kernel
theorem d_Grc_init_12 : decode b_Grc_init 12 = .ok (.putfield 10, 3) := by decide +kernel
theorem d_Grc_init_15 : decode b_Grc_init 15 = .ok (.aload_n 0, 1) := by decide +kernel
theorem d_Grc_init_16 : decode b_Grc_init 16 = .ok (.new 16, 3) := by decide +kernel
theorem d_Grc_init_19 : decode b_Grc_init 19 = .ok (.dup, 1) := by decide +kernel
theorem d_Grc_init_20 : decode b_Grc_init 20 = .ok (.invokespecial 18, 3) := by decide +kernel
theorem d_Grc_init_23 : decode b_Grc_init 23 = .ok (.putfield 19, 3) := by decide +kernel
theorem d_Grc_init_26 : decode b_Grc_init 26 = .ok (.return_, 1) := by decide +kernel
theorem d_Grc_number_0 : decode b_Grc_number 0 = .ok (.aload_n 0, 1) := by decide +kernel
theorem d_Grc_number_1 : decode b_Grc_number 1 = .ok (.getfield 10, 3) := by decide +kernel
theorem d_Grc_number_4 : decode b_Grc_number 4 = .ok (.getfield 33, 3) := by decide +kernel
theorem d_Grc_number_7 : decode b_Grc_number 7 = .ok (.astore_n 2, 1) := by decide +kernel
theorem d_Grc_number_8 : decode b_Grc_number 8 = .ok (.iload_n 1, 1) := by decide +kernel
theorem d_Grc_number_9 : decode b_Grc_number 9 = .ok (.tableswitch 105 0 9 #[55, 60, 65, 70, 75, 80, 85, 90, 95, 100], 55) := by decide +kernel
theorem d_Grc_number_64 : decode b_Grc_number 64 = .ok (.aload_n 2, 1) := by decide +kernel
theorem d_Grc_number_65 : decode b_Grc_number 65 = .ok (.getfield 89, 3) := by decide +kernel
theorem d_Grc_number_68 : decode b_Grc_number 68 = .ok (.ireturn, 1) := by decide +kernel
theorem d_Grc_number_69 : decode b_Grc_number 69 = .ok (.aload_n 2, 1) := by decide +kernel
theorem d_Grc_number_70 : decode b_Grc_number 70 = .ok (.getfield 37, 3) := by decide +kernel
theorem d_Grc_number_73 : decode b_Grc_number 73 = .ok (.ireturn, 1) := by decide +kernel
theorem d_Grc_number_74 : decode b_Grc_number 74 = .ok (.aload_n 2, 1) := by decide +kernel
theorem d_Grc_number_75 : decode b_Grc_number 75 = .ok (.getfield 92, 3) := by decide +kernel
theorem d_Grc_number_78 : decode b_Grc_number 78 = .ok (.ireturn, 1) := by decide +kernel
theorem d_Grc_number_79 : decode b_Grc_number 79 = .ok (.aload_n 2, 1) := by decide +kernel
theorem d_Grc_number_80 : decode b_Grc_number 80 = .ok (.getfield 95, 3) := by decide +kernel
theorem d_Grc_number_83 : decode b_Grc_number 83 = .ok (.ireturn, 1) := by decide +kernel
theorem d_Grc_number_84 : decode b_Grc_number 84 = .ok (.aload_n 2, 1) := by decide +kernel
theorem d_Grc_number_85 : decode b_Grc_number 85 = .ok (.getfield 98, 3) := by decide +kernel
theorem d_Grc_number_88 : decode b_Grc_number 88 = .ok (.ireturn, 1) := by decide +kernel
theorem d_Grc_number_89 : decode b_Grc_number 89 = .ok (.aload_n 2, 1) := by decide +kernel
theorem d_Grc_number_90 : decode b_Grc_number 90 = .ok (.getfield 101, 3) := by decide +kernel
theorem d_Grc_number_93 : decode b_Grc_number 93 = .ok (.ireturn, 1) := by decide +kernel
theorem d_Grc_number_94 : decode b_Grc_number 94 = .ok (.aload_n 2, 1) := by decide +kernel
theorem d_Grc_number_95 : decode b_Grc_number 95 = .ok (.getfield 104, 3) := by decide +kernel
theorem d_Grc_number_98 : decode b_Grc_number 98 = .ok (.ireturn, 1) := by decide +kernel
theorem d_Grc_number_99 : decode b_Grc_number 99 = .ok (.aload_n 2, 1) := by decide +kernel
theorem d_Grc_number_100 : decode b_Grc_number 100 = .ok (.getfield 107, 3) := by decide +kernel
theorem d_Grc_number_103 : decode b_Grc_number 103 = .ok (.ireturn, 1) := by decide +kernel
theorem d_Grc_number_104 : decode b_Grc_number 104 = .ok (.aload_n 2, 1) := by decide +kernel
theorem d_Grc_number_105 : decode b_Grc_number 105 = .ok (.getfield 110, 3) := by decide +kernel
theorem d_Grc_number_108 : decode b_Grc_number 108 = .ok (.ireturn, 1) := by decide +kernel
theorem d_Grc_number_109 : decode b_Grc_number 109 = .ok (.aload_n 2, 1) := by decide +kernel
theorem d_Grc_number_110 : decode b_Grc_number 110 = .ok (.getfield 113, 3) := by decide +kernel
theorem d_Grc_number_113 : decode b_Grc_number 113 = .ok (.ireturn, 1) := by decide +kernel
theorem d_Grc_number_114 : decode b_Grc_number 114 = .ok (.iconst (-1), 1) := by decide +kernel
theorem d_Grc_number_115 : decode b_Grc_number 115 = .ok (.ireturn, 1) := by decide +kernel
theorem d_Grc_poke_0 : decode b_Grc_poke 0 = .ok (.aload_n 0, 1) := by decide +kernel
theorem d_Grc_poke_1 : decode b_Grc_poke 1 = .ok (.iload_n 1, 1) := by decide +kernel
theorem d_Grc_poke_2 : decode b_Grc_poke 2 = .ok (.invokevirtual 63, 3) := by decide +kernel
theorem d_Grc_poke_5 : decode b_Grc_poke 5 = .ok (.ifCond .eq 14, 3) := by decide +kernel
theorem d_Grc_poke_8 : decode b_Grc_poke 8 = .ok (.iload_n 2, 1) := by decide +kernel
theorem d_Grc_poke_9 : decode b_Grc_poke 9 = .ok (.ifCond .lt 10, 3) := by decide +kernel
theorem d_Grc_poke_12 : decode b_Grc_poke 12 = .ok (.iload_n 2, 1) := by decide +kernel
theorem d_Grc_poke_13 : decode b_Grc_poke 13 = .ok (.sipush 255, 3) := by decide +kernel
theorem d_Grc_poke_16 : decode b_Grc_poke 16 = .ok (.if_icmp .le 5, 3) := by decide +kernel
theorem d_Grc_poke_19 : decode b_Grc_poke 19 = .ok (.iconst 0, 1) := by decide +kernel
theorem d_Grc_poke_20 : decode b_Grc_poke 20 = .ok (.ireturn, 1) := by decide +kernel
theorem d_Grc_poke_21 : decode b_Grc_poke 21 = .ok (.aload_n 0, 1) := by decide +kernel
theorem d_Grc_poke_22 : decode b_Grc_poke 22 = .ok (.getfield 10, 3) := by decide +kernel
theorem d_Grc_poke_25 : decode b_Grc_poke 25 = .ok (.getfield 51, 3) := by decide +kernel
theorem d_Grc_poke_28 : decode b_Grc_poke 28 = .ok (.getfield 67, 3) := by decide +kernel
theorem d_Grc_poke_31 : decode b_Grc_poke 31 = .ok (.iload_n 1, 1) := by decide +kernel
theorem d_Grc_poke_32 : decode b_Grc_poke 32 = .ok (.iload_n 2, 1) := by decide +kernel
theorem d_Grc_poke_33 : decode b_Grc_poke 33 = .ok (.iastore, 1) := by decide +kernel
theorem d_Grc_poke_34 : decode b_Grc_poke 34 = .ok (.iconst 1, 1) := by decide +kernel
theorem d_Grc_poke_35 : decode b_Grc_poke 35 = .ok (.ireturn, 1) := by decide +kernel
theorem d_Grc_rebuilt_0 : decode b_Grc_rebuilt 0 = .ok (.aload_n 0, 1) := by decide +kernel
theorem d_Grc_rebuilt_1 : decode b_Grc_rebuilt 1 = .ok (.getfield 10, 3) := by decide +kernel
theorem d_Grc_rebuilt_4 : decode b_Grc_rebuilt 4 = .ok (.getfield 33, 3) := by decide +kernel
theorem d_Grc_rebuilt_7 : decode b_Grc_rebuilt 7 = .ok (.iload_n 1, 1) := by decide +kernel
theorem d_Grc_rebuilt_8 : decode b_Grc_rebuilt 8 = .ok (.iload_n 2, 1) := by decide +kernel
theorem d_Grc_rebuilt_9 : decode b_Grc_rebuilt 9 = .ok (.invokevirtual 116, 3) := by decide +kernel
theorem d_Grc_rebuilt_12 : decode b_Grc_rebuilt 12 = .ok (.ifCond .eq 19, 3) := by decide +kernel
theorem d_Grc_rebuilt_15 : decode b_Grc_rebuilt 15 = .ok (.aload_n 0, 1) := by decide +kernel
theorem d_Grc_rebuilt_16 : decode b_Grc_rebuilt 16 = .ok (.getfield 10, 3) := by decide +kernel
theorem d_Grc_rebuilt_19 : decode b_Grc_rebuilt 19 = .ok (.getfield 127, 3) := by decide +kernel
theorem d_Grc_rebuilt_22 : decode b_Grc_rebuilt 22 = .ok (.iload_n 1, 1) := by decide +kernel
theorem d_Grc_rebuilt_23 : decode b_Grc_rebuilt 23 = .ok (.iload_n 2, 1) := by decide +kernel
theorem d_Grc_rebuilt_24 : decode b_Grc_rebuilt 24 = .ok (.invokestatic 123, 3) := by decide +kernel
theorem d_Grc_rebuilt_27 : decode b_Grc_rebuilt 27 = .ok (.iaload, 1) := by decide +kernel
theorem d_Grc_rebuilt_28 : decode b_Grc_rebuilt 28 = .ok (.goto 4, 3) := by decide +kernel
theorem d_Grc_rebuilt_31 : decode b_Grc_rebuilt 31 = .ok (.iconst (-1), 1) := by decide +kernel
theorem d_Grc_rebuilt_32 : decode b_Grc_rebuilt 32 = .ok (.ireturn, 1) := by decide +kernel
theorem d_Grc_row_0 : decode b_Grc_row 0 = .ok (.iload_n 1, 1) := by decide +kernel
theorem d_Grc_row_1 : decode b_Grc_row 1 = .ok (.ifCond .lt 17, 3) := by decide +kernel
theorem d_Grc_row_4 : decode b_Grc_row 4 = .ok (.iload_n 1, 1) := by decide +kernel
theorem d_Grc_row_5 : decode b_Grc_row 5 = .ok (.aload_n 0, 1) := by decide +kernel
theorem d_Grc_row_6 : decode b_Grc_row 6 = .ok (.getfield 10, 3) := by decide +kernel
theorem d_Grc_row_9 : decode b_Grc_row 9 = .ok (.getfield 33, 3) := by decide +kernel
theorem d_Grc_row_12 : decode b_Grc_row 12 = .ok (.getfield 37, 3) := by decide +kernel
theorem d_Grc_row_15 : decode b_Grc_row 15 = .ok (.if_icmp .lt 5, 3) := by decide +kernel
theorem d_Grc_row_18 : decode b_Grc_row 18 = .ok (.iconst 0, 1) := by decide +kernel
theorem d_Grc_row_19 : decode b_Grc_row 19 = .ok (.ireturn, 1) := by decide +kernel
theorem d_Grc_row_20 : decode b_Grc_row 20 = .ok (.aload_n 0, 1) := by decide +kernel
theorem d_Grc_row_21 : decode b_Grc_row 21 = .ok (.getfield 10, 3) := by decide +kernel
theorem d_Grc_row_24 : decode b_Grc_row 24 = .ok (.iload_n 1, 1) := by decide +kernel
theorem d_Grc_row_25 : decode b_Grc_row 25 = .ok (.lload_n 2, 1) := by decide +kernel
theorem d_Grc_row_26 : decode b_Grc_row 26 = .ok (.invokevirtual 41, 3) := by decide +kernel
theorem d_Grc_row_29 : decode b_Grc_row 29 = .ok (.ireturn, 1) := by decide +kernel
theorem d_Grc_runIndex_0 : decode b_Grc_runIndex 0 = .ok (.aload_n 0, 1) := by decide +kernel
theorem d_Grc_runIndex_1 : decode b_Grc_runIndex 1 = .ok (.getfield 10, 3) := by decide +kernel
theorem d_Grc_runIndex_4 : decode b_Grc_runIndex 4 = .ok (.getfield 133, 3) := by decide +kernel
theorem d_Grc_runIndex_7 : decode b_Grc_runIndex 7 = .ok (.getfield 152, 3) := by decide +kernel
theorem d_Grc_runIndex_10 : decode b_Grc_runIndex 10 = .ok (.ireturn, 1) := by decide +kernel
theorem d_Grc_sample_0 : decode b_Grc_sample 0 = .ok (.aload_n 0, 1) := by decide +kernel
theorem d_Grc_sample_1 : decode b_Grc_sample 1 = .ok (.getfield 10, 3) := by decide +kernel
theorem d_Grc_sample_4 : decode b_Grc_sample 4 = .ok (.getfield 33, 3) := by decide +kernel
theorem d_Grc_sample_7 : decode b_Grc_sample 7 = .ok (.iload_n 1, 1) := by decide +kernel
theorem d_Grc_sample_8 : decode b_Grc_sample 8 = .ok (.iload_n 2, 1) := by decide +kernel
theorem d_Grc_sample_9 : decode b_Grc_sample 9 = .ok (.invokevirtual 116, 3) := by decide +kernel
theorem d_Grc_sample_12 : decode b_Grc_sample 12 = .ok (.ifCond .eq 19, 3) := by decide +kernel
theorem d_Grc_sample_15 : decode b_Grc_sample 15 = .ok (.aload_n 0, 1) := by decide +kernel
theorem d_Grc_sample_16 : decode b_Grc_sample 16 = .ok (.getfield 10, 3) := by decide +kernel
theorem d_Grc_sample_19 : decode b_Grc_sample 19 = .ok (.getfield 120, 3) := by decide +kernel
theorem d_Grc_sample_22 : decode b_Grc_sample 22 = .ok (.iload_n 1, 1) := by decide +kernel
theorem d_Grc_sample_23 : decode b_Grc_sample 23 = .ok (.iload_n 2, 1) := by decide +kernel
theorem d_Grc_sample_24 : decode b_Grc_sample 24 = .ok (.invokestatic 123, 3) := by decide +kernel
theorem d_Grc_sample_27 : decode b_Grc_sample 27 = .ok (.iaload, 1) := by decide +kernel
theorem d_Grc_sample_28 : decode b_Grc_sample 28 = .ok (.goto 4, 3) := by decide +kernel
theorem d_Grc_sample_31 : decode b_Grc_sample 31 = .ok (.iconst (-1), 1) := by decide +kernel
theorem d_Grc_sample_32 : decode b_Grc_sample 32 = .ok (.ireturn, 1) := by decide +kernel
theorem d_Grc_size_0 : decode b_Grc_size 0 = .ok (.aload_n 0, 1) := by decide +kernel
theorem d_Grc_size_1 : decode b_Grc_size 1 = .ok (.getfield 10, 3) := by decide +kernel
theorem d_Grc_size_4 : decode b_Grc_size 4 = .ok (.getfield 51, 3) := by decide +kernel
theorem d_Grc_size_7 : decode b_Grc_size 7 = .ok (.getfield 60, 3) := by decide +kernel
theorem d_Grc_size_10 : decode b_Grc_size 10 = .ok (.ireturn, 1) := by decide +kernel
theorem d_Law_decode_0 : decode b_Law_decode 0 = .ok (.aload_n 1, 1) := by decide +kernel
theorem d_Law_decode_1 : decode b_Law_decode 1 = .ok (.iconst 0, 1) := by decide +kernel
theorem d_Law_decode_2 : decode b_Law_decode 2 = .ok (.aload_n 0, 1) := by decide +kernel
theorem d_Law_decode_3 : decode b_Law_decode 3 = .ok (.invokevirtual 7, 3) := by decide +kernel
theorem d_Law_decode_6 : decode b_Law_decode 6 = .ok (.i2l, 1) := by decide +kernel
theorem d_Law_decode_7 : decode b_Law_decode 7 = .ok (.lastore, 1) := by decide +kernel
theorem d_Law_decode_8 : decode b_Law_decode 8 = .ok (.goto 6, 3) := by decide +kernel
theorem d_Law_decode_11 : decode b_Law_decode 11 = .ok (.astore_n 2, 1) := by decide +kernel
theorem d_Law_decode_12 : decode b_Law_decode 12 = .ok (.iconst 1, 1) := by decide +kernel
theorem d_Law_decode_13 : decode b_Law_decode 13 = .ok (.ireturn, 1) := by decide +kernel
theorem d_Law_decode_14 : decode b_Law_decode 14 = .ok (.iconst 0, 1) := by decide +kernel
theorem d_Law_decode_15 : decode b_Law_decode 15 = .ok (.ireturn, 1) := by decide +kernel
