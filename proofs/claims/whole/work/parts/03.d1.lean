theorem d_Fol_foldEnd_0 : decode b_Fol_foldEnd 0 = .ok (.iload_n 0, 1) := by decide +kernel
theorem d_Fol_foldEnd_1 : decode b_Fol_foldEnd 1 = .ok (.ifCond .eq 20, 3) := by decide +kernel
theorem d_Fol_foldEnd_4 : decode b_Fol_foldEnd 4 = .ok (.iload_n 0, 1) := by decide +kernel
theorem d_Fol_foldEnd_5 : decode b_Fol_foldEnd 5 = .ok (.ifCond .ge 7, 3) := by decide +kernel
theorem d_Fol_foldEnd_8 : decode b_Fol_foldEnd 8 = .ok (.iconst 1, 1) := by decide +kernel
theorem d_Fol_foldEnd_9 : decode b_Fol_foldEnd 9 = .ok (.goto 4, 3) := by decide +kernel
theorem d_Fol_foldEnd_12 : decode b_Fol_foldEnd 12 = .ok (.iconst 0, 1) := by decide +kernel
theorem d_Fol_foldEnd_13 : decode b_Fol_foldEnd 13 = .ok (.iload_n 2, 1) := by decide +kernel
theorem d_Fol_foldEnd_14 : decode b_Fol_foldEnd 14 = .ok (.if_icmp .ne 7, 3) := by decide +kernel
theorem d_Fol_foldEnd_17 : decode b_Fol_foldEnd 17 = .ok (.iconst 1, 1) := by decide +kernel
theorem d_Fol_foldEnd_18 : decode b_Fol_foldEnd 18 = .ok (.goto 4, 3) := by decide +kernel
theorem d_Fol_foldEnd_21 : decode b_Fol_foldEnd 21 = .ok (.iconst 0, 1) := by decide +kernel
theorem d_Fol_foldEnd_22 : decode b_Fol_foldEnd 22 = .ok (.istore_n 3, 1) := by decide +kernel
theorem d_Fol_foldEnd_23 : decode b_Fol_foldEnd 23 = .ok (.iconst 2, 1) := by decide +kernel
theorem d_Fol_foldEnd_24 : decode b_Fol_foldEnd 24 = .ok (.iload_n 0, 1) := by decide +kernel
theorem d_Fol_foldEnd_25 : decode b_Fol_foldEnd 25 = .ok (.invokestatic 7, 3) := by decide +kernel
theorem d_Fol_foldEnd_28 : decode b_Fol_foldEnd 28 = .ok (.imul, 1) := by decide +kernel
theorem d_Fol_foldEnd_29 : decode b_Fol_foldEnd 29 = .ok (.iload_n 1, 1) := by decide +kernel
theorem d_Fol_foldEnd_30 : decode b_Fol_foldEnd 30 = .ok (.isub, 1) := by decide +kernel
theorem d_Fol_foldEnd_31 : decode b_Fol_foldEnd 31 = .ok (.iload_n 3, 1) := by decide +kernel
theorem d_Fol_foldEnd_32 : decode b_Fol_foldEnd 32 = .ok (.isub, 1) := by decide +kernel
theorem d_Fol_foldEnd_33 : decode b_Fol_foldEnd 33 = .ok (.ireturn, 1) := by decide +kernel
theorem d_Fol_foldRegular_0 : decode b_Fol_foldRegular 0 = .ok (.iload_n 1, 1) := by decide +kernel
theorem d_Fol_foldRegular_1 : decode b_Fol_foldRegular 1 = .ok (.ifCond .eq 22, 3) := by decide +kernel
theorem d_Fol_foldRegular_4 : decode b_Fol_foldRegular 4 = .ok (.iload_n 0, 1) := by decide +kernel
theorem d_Fol_foldRegular_5 : decode b_Fol_foldRegular 5 = .ok (.ifCond .lt 11, 3) := by decide +kernel
theorem d_Fol_foldRegular_8 : decode b_Fol_foldRegular 8 = .ok (.iconst 2, 1) := by decide +kernel
theorem d_Fol_foldRegular_9 : decode b_Fol_foldRegular 9 = .ok (.iload_n 0, 1) := by decide +kernel
theorem d_Fol_foldRegular_10 : decode b_Fol_foldRegular 10 = .ok (.imul, 1) := by decide +kernel
theorem d_Fol_foldRegular_11 : decode b_Fol_foldRegular 11 = .ok (.iconst 1, 1) := by decide +kernel
theorem d_Fol_foldRegular_12 : decode b_Fol_foldRegular 12 = .ok (.iadd, 1) := by decide +kernel
theorem d_Fol_foldRegular_13 : decode b_Fol_foldRegular 13 = .ok (.goto 9, 3) := by decide +kernel
theorem d_Fol_foldRegular_16 : decode b_Fol_foldRegular 16 = .ok (.bipush (-2), 2) := by decide +kernel
theorem d_Fol_foldRegular_18 : decode b_Fol_foldRegular 18 = .ok (.iload_n 0, 1) := by decide +kernel
theorem d_Fol_foldRegular_19 : decode b_Fol_foldRegular 19 = .ok (.iconst 1, 1) := by decide +kernel
theorem d_Fol_foldRegular_20 : decode b_Fol_foldRegular 20 = .ok (.iadd, 1) := by decide +kernel
theorem d_Fol_foldRegular_21 : decode b_Fol_foldRegular 21 = .ok (.imul, 1) := by decide +kernel
theorem d_Fol_foldRegular_22 : decode b_Fol_foldRegular 22 = .ok (.ireturn, 1) := by decide +kernel
theorem d_Fol_foldRegular_23 : decode b_Fol_foldRegular 23 = .ok (.iload_n 0, 1) := by decide +kernel
theorem d_Fol_foldRegular_24 : decode b_Fol_foldRegular 24 = .ok (.ifCond .lt 9, 3) := by decide +kernel
theorem d_Fol_foldRegular_27 : decode b_Fol_foldRegular 27 = .ok (.iconst 2, 1) := by decide +kernel
theorem d_Fol_foldRegular_28 : decode b_Fol_foldRegular 28 = .ok (.iload_n 0, 1) := by decide +kernel
theorem d_Fol_foldRegular_29 : decode b_Fol_foldRegular 29 = .ok (.imul, 1) := by decide +kernel
theorem d_Fol_foldRegular_30 : decode b_Fol_foldRegular 30 = .ok (.goto 9, 3) := by decide +kernel
theorem d_Fol_foldRegular_33 : decode b_Fol_foldRegular 33 = .ok (.bipush (-2), 2) := by decide +kernel
theorem d_Fol_foldRegular_35 : decode b_Fol_foldRegular 35 = .ok (.iload_n 0, 1) := by decide +kernel
theorem d_Fol_foldRegular_36 : decode b_Fol_foldRegular 36 = .ok (.imul, 1) := by decide +kernel
theorem d_Fol_foldRegular_37 : decode b_Fol_foldRegular 37 = .ok (.iconst 1, 1) := by decide +kernel
theorem d_Fol_foldRegular_38 : decode b_Fol_foldRegular 38 = .ok (.isub, 1) := by decide +kernel
theorem d_Fol_foldRegular_39 : decode b_Fol_foldRegular 39 = .ok (.ireturn, 1) := by decide +kernel
theorem d_Fol_unfoldEnd_0 : decode b_Fol_unfoldEnd 0 = .ok (.iload_n 0, 1) := by decide +kernel
theorem d_Fol_unfoldEnd_1 : decode b_Fol_unfoldEnd 1 = .ok (.iload_n 1, 1) := by decide +kernel
theorem d_Fol_unfoldEnd_2 : decode b_Fol_unfoldEnd 2 = .ok (.iadd, 1) := by decide +kernel
theorem d_Fol_unfoldEnd_3 : decode b_Fol_unfoldEnd 3 = .ok (.iconst 1, 1) := by decide +kernel
theorem d_Fol_unfoldEnd_4 : decode b_Fol_unfoldEnd 4 = .ok (.iand, 1) := by decide +kernel
theorem d_Fol_unfoldEnd_5 : decode b_Fol_unfoldEnd 5 = .ok (.istore_n 3, 1) := by decide +kernel
theorem d_Fol_unfoldEnd_6 : decode b_Fol_unfoldEnd 6 = .ok (.iload_n 0, 1) := by decide +kernel
theorem d_Fol_unfoldEnd_7 : decode b_Fol_unfoldEnd 7 = .ok (.iload_n 1, 1) := by decide +kernel
theorem d_Fol_unfoldEnd_8 : decode b_Fol_unfoldEnd 8 = .ok (.iadd, 1) := by decide +kernel
theorem d_Fol_unfoldEnd_9 : decode b_Fol_unfoldEnd 9 = .ok (.iload_n 3, 1) := by decide +kernel
theorem d_Fol_unfoldEnd_10 : decode b_Fol_unfoldEnd 10 = .ok (.iadd, 1) := by decide +kernel
theorem d_Fol_unfoldEnd_11 : decode b_Fol_unfoldEnd 11 = .ok (.iconst 2, 1) := by decide +kernel
theorem d_Fol_unfoldEnd_12 : decode b_Fol_unfoldEnd 12 = .ok (.idiv, 1) := by decide +kernel
theorem d_Fol_unfoldEnd_13 : decode b_Fol_unfoldEnd 13 = .ok (.istore 4, 2) := by decide +kernel
theorem d_Fol_unfoldEnd_15 : decode b_Fol_unfoldEnd 15 = .ok (.iload_n 3, 1) := by decide +kernel
theorem d_Fol_unfoldEnd_16 : decode b_Fol_unfoldEnd 16 = .ok (.iconst 1, 1) := by decide +kernel
theorem d_Fol_unfoldEnd_17 : decode b_Fol_unfoldEnd 17 = .ok (.if_icmp .ne 7, 3) := by decide +kernel
theorem d_Fol_unfoldEnd_20 : decode b_Fol_unfoldEnd 20 = .ok (.iconst 1, 1) := by decide +kernel
theorem d_Fol_unfoldEnd_21 : decode b_Fol_unfoldEnd 21 = .ok (.goto 4, 3) := by decide +kernel
theorem d_Fol_unfoldEnd_24 : decode b_Fol_unfoldEnd 24 = .ok (.iconst 0, 1) := by decide +kernel
theorem d_Fol_unfoldEnd_25 : decode b_Fol_unfoldEnd 25 = .ok (.iload_n 2, 1) := by decide +kernel
theorem d_Fol_unfoldEnd_26 : decode b_Fol_unfoldEnd 26 = .ok (.if_icmp .ne 9, 3) := by decide +kernel
theorem d_Fol_unfoldEnd_29 : decode b_Fol_unfoldEnd 29 = .ok (.iload 4, 2) := by decide +kernel
theorem d_Fol_unfoldEnd_31 : decode b_Fol_unfoldEnd 31 = .ok (.ineg, 1) := by decide +kernel
theorem d_Fol_unfoldEnd_32 : decode b_Fol_unfoldEnd 32 = .ok (.goto 5, 3) := by decide +kernel
theorem d_Fol_unfoldEnd_35 : decode b_Fol_unfoldEnd 35 = .ok (.iload 4, 2) := by decide +kernel
theorem d_Fol_unfoldEnd_37 : decode b_Fol_unfoldEnd 37 = .ok (.ireturn, 1) := by decide +kernel
theorem d_Fol_unfoldRegular_0 : decode b_Fol_unfoldRegular 0 = .ok (.iload_n 0, 1) := by decide +kernel
theorem d_Fol_unfoldRegular_1 : decode b_Fol_unfoldRegular 1 = .ok (.iconst 1, 1) := by decide +kernel
theorem d_Fol_unfoldRegular_2 : decode b_Fol_unfoldRegular 2 = .ok (.iand, 1) := by decide +kernel
theorem d_Fol_unfoldRegular_3 : decode b_Fol_unfoldRegular 3 = .ok (.iconst 1, 1) := by decide +kernel
theorem d_Fol_unfoldRegular_4 : decode b_Fol_unfoldRegular 4 = .ok (.if_icmp .ne 7, 3) := by decide +kernel
theorem d_Fol_unfoldRegular_7 : decode b_Fol_unfoldRegular 7 = .ok (.iconst 1, 1) := by decide +kernel
theorem d_Fol_unfoldRegular_8 : decode b_Fol_unfoldRegular 8 = .ok (.goto 4, 3) := by decide +kernel
theorem d_Fol_unfoldRegular_11 : decode b_Fol_unfoldRegular 11 = .ok (.iconst 0, 1) := by decide +kernel
theorem d_Fol_unfoldRegular_12 : decode b_Fol_unfoldRegular 12 = .ok (.istore_n 2, 1) := by decide +kernel
theorem d_Fol_unfoldRegular_13 : decode b_Fol_unfoldRegular 13 = .ok (.iload_n 1, 1) := by decide +kernel
theorem d_Fol_unfoldRegular_14 : decode b_Fol_unfoldRegular 14 = .ok (.ifCond .eq 20, 3) := by decide +kernel
theorem d_Fol_unfoldRegular_17 : decode b_Fol_unfoldRegular 17 = .ok (.iload_n 2, 1) := by decide +kernel
theorem d_Fol_unfoldRegular_18 : decode b_Fol_unfoldRegular 18 = .ok (.ifCond .eq 9, 3) := by decide +kernel
theorem d_Fol_unfoldRegular_21 : decode b_Fol_unfoldRegular 21 = .ok (.iload_n 0, 1) := by decide +kernel
theorem d_Fol_unfoldRegular_22 : decode b_Fol_unfoldRegular 22 = .ok (.iconst 2, 1) := by decide +kernel
theorem d_Fol_unfoldRegular_23 : decode b_Fol_unfoldRegular 23 = .ok (.idiv, 1) := by decide +kernel
theorem d_Fol_unfoldRegular_24 : decode b_Fol_unfoldRegular 24 = .ok (.goto 9, 3) := by decide +kernel
theorem d_Fol_unfoldRegular_27 : decode b_Fol_unfoldRegular 27 = .ok (.iload_n 0, 1) := by decide +kernel
theorem d_Fol_unfoldRegular_28 : decode b_Fol_unfoldRegular 28 = .ok (.iconst 2, 1) := by decide +kernel
theorem d_Fol_unfoldRegular_29 : decode b_Fol_unfoldRegular 29 = .ok (.idiv, 1) := by decide +kernel
theorem d_Fol_unfoldRegular_30 : decode b_Fol_unfoldRegular 30 = .ok (.ineg, 1) := by decide +kernel
theorem d_Fol_unfoldRegular_31 : decode b_Fol_unfoldRegular 31 = .ok (.iconst 1, 1) := by decide +kernel
theorem d_Fol_unfoldRegular_32 : decode b_Fol_unfoldRegular 32 = .ok (.isub, 1) := by decide +kernel
theorem d_Fol_unfoldRegular_33 : decode b_Fol_unfoldRegular 33 = .ok (.ireturn, 1) := by decide +kernel
theorem d_Fol_unfoldRegular_34 : decode b_Fol_unfoldRegular 34 = .ok (.iload_n 2, 1) := by decide +kernel
theorem d_Fol_unfoldRegular_35 : decode b_Fol_unfoldRegular 35 = .ok (.ifCond .eq 12, 3) := by decide +kernel
theorem d_Fol_unfoldRegular_38 : decode b_Fol_unfoldRegular 38 = .ok (.iload_n 0, 1) := by decide +kernel
theorem d_Fol_unfoldRegular_39 : decode b_Fol_unfoldRegular 39 = .ok (.iconst 2, 1) := by decide +kernel
theorem d_Fol_unfoldRegular_40 : decode b_Fol_unfoldRegular 40 = .ok (.idiv, 1) := by decide +kernel
theorem d_Fol_unfoldRegular_41 : decode b_Fol_unfoldRegular 41 = .ok (.ineg, 1) := by decide +kernel
theorem d_Fol_unfoldRegular_42 : decode b_Fol_unfoldRegular 42 = .ok (.iconst 1, 1) := by decide +kernel
theorem d_Fol_unfoldRegular_43 : decode b_Fol_unfoldRegular 43 = .ok (.isub, 1) := by decide +kernel
theorem d_Fol_unfoldRegular_44 : decode b_Fol_unfoldRegular 44 = .ok (.goto 6, 3) := by decide +kernel
theorem d_Fol_unfoldRegular_47 : decode b_Fol_unfoldRegular 47 = .ok (.iload_n 0, 1) := by decide +kernel
theorem d_Fol_unfoldRegular_48 : decode b_Fol_unfoldRegular 48 = .ok (.iconst 2, 1) := by decide +kernel
theorem d_Fol_unfoldRegular_49 : decode b_Fol_unfoldRegular 49 = .ok (.idiv, 1) := by decide +kernel
theorem d_Fol_unfoldRegular_50 : decode b_Fol_unfoldRegular 50 = .ok (.ireturn, 1) := by decide +kernel
theorem d_Grc_code_0 : decode b_Grc_code 0 = .ok (.aload_n 0, 1) := by decide +kernel
theorem d_Grc_code_1 : decode b_Grc_code 1 = .ok (.iload_n 1, 1) := by decide +kernel
theorem d_Grc_code_2 : decode b_Grc_code 2 = .ok (.invokevirtual 63, 3) := by decide +kernel
theorem d_Grc_code_5 : decode b_Grc_code 5 = .ok (.ifCond .eq 18, 3) := by decide +kernel
theorem d_Grc_code_8 : decode b_Grc_code 8 = .ok (.aload_n 0, 1) := by decide +kernel
theorem d_Grc_code_9 : decode b_Grc_code 9 = .ok (.getfield 10, 3) := by decide +kernel
theorem d_Grc_code_12 : decode b_Grc_code 12 = .ok (.getfield 51, 3) := by decide +kernel
theorem d_Grc_code_15 : decode b_Grc_code 15 = .ok (.getfield 67, 3) := by decide +kernel
theorem d_Grc_code_18 : decode b_Grc_code 18 = .ok (.iload_n 1, 1) := by decide +kernel
theorem d_Grc_code_19 : decode b_Grc_code 19 = .ok (.iaload, 1) := by decide +kernel
theorem d_Grc_code_20 : decode b_Grc_code 20 = .ok (.goto 4, 3) := by decide +kernel
theorem d_Grc_code_23 : decode b_Grc_code 23 = .ok (.iconst (-1), 1) := by decide +kernel
theorem d_Grc_code_24 : decode b_Grc_code 24 = .ok (.ireturn, 1) := by decide +kernel
theorem d_Grc_context_0 : decode b_Grc_context 0 = .ok (.iload_n 1, 1) := by decide +kernel
theorem d_Grc_context_1 : decode b_Grc_context 1 = .ok (.ifCond .lt 10, 3) := by decide +kernel
theorem d_Grc_context_4 : decode b_Grc_context 4 = .ok (.iload_n 1, 1) := by decide +kernel
theorem d_Grc_context_5 : decode b_Grc_context 5 = .ok (.sipush 367, 3) := by decide +kernel
theorem d_Grc_context_8 : decode b_Grc_context 8 = .ok (.if_icmp .lt 6, 3) := by decide +kernel
theorem d_Grc_context_11 : decode b_Grc_context 11 = .ok (.ldc 132, 2) := by decide +kernel
theorem d_Grc_context_13 : decode b_Grc_context 13 = .ok (.ireturn, 1) := by decide +kernel
theorem d_Grc_context_14 : decode b_Grc_context 14 = .ok (.aload_n 0, 1) := by decide +kernel
theorem d_Grc_context_15 : decode b_Grc_context 15 = .ok (.getfield 10, 3) := by decide +kernel
theorem d_Grc_context_18 : decode b_Grc_context 18 = .ok (.getfield 133, 3) := by decide +kernel
theorem d_Grc_context_21 : decode b_Grc_context 21 = .ok (.astore_n 3, 1) := by decide +kernel
theorem d_Grc_context_22 : decode b_Grc_context 22 = .ok (.iload_n 2, 1) := by decide +kernel
theorem d_Grc_context_23 : decode b_Grc_context 23 = .ok (.tableswitch 68 0 4 #[33, 40, 47, 54, 61], 33) := by decide +kernel
theorem d_Grc_context_56 : decode b_Grc_context 56 = .ok (.aload_n 3, 1) := by decide +kernel
theorem d_Grc_context_57 : decode b_Grc_context 57 = .ok (.getfield 137, 3) := by decide +kernel
theorem d_Grc_context_60 : decode b_Grc_context 60 = .ok (.iload_n 1, 1) := by decide +kernel
theorem d_Grc_context_61 : decode b_Grc_context 61 = .ok (.iaload, 1) := by decide +kernel
theorem d_Grc_context_62 : decode b_Grc_context 62 = .ok (.ireturn, 1) := by decide +kernel
theorem d_Grc_context_63 : decode b_Grc_context 63 = .ok (.aload_n 3, 1) := by decide +kernel
theorem d_Grc_context_64 : decode b_Grc_context 64 = .ok (.getfield 140, 3) := by decide +kernel
theorem d_Grc_context_67 : decode b_Grc_context 67 = .ok (.iload_n 1, 1) := by decide +kernel
theorem d_Grc_context_68 : decode b_Grc_context 68 = .ok (.iaload, 1) := by decide +kernel
theorem d_Grc_context_69 : decode b_Grc_context 69 = .ok (.ireturn, 1) := by decide +kernel
theorem d_Grc_context_70 : decode b_Grc_context 70 = .ok (.aload_n 3, 1) := by decide +kernel
theorem d_Grc_context_71 : decode b_Grc_context 71 = .ok (.getfield 143, 3) := by decide +kernel
theorem d_Grc_context_74 : decode b_Grc_context 74 = .ok (.iload_n 1, 1) := by decide +kernel
theorem d_Grc_context_75 : decode b_Grc_context 75 = .ok (.iaload, 1) := by decide +kernel
theorem d_Grc_context_76 : decode b_Grc_context 76 = .ok (.ireturn, 1) := by decide +kernel
theorem d_Grc_context_77 : decode b_Grc_context 77 = .ok (.aload_n 3, 1) := by decide +kernel
theorem d_Grc_context_78 : decode b_Grc_context 78 = .ok (.getfield 146, 3) := by decide +kernel
theorem d_Grc_context_81 : decode b_Grc_context 81 = .ok (.iload_n 1, 1) := by decide +kernel
theorem d_Grc_context_82 : decode b_Grc_context 82 = .ok (.iaload, 1) := by decide +kernel
theorem d_Grc_context_83 : decode b_Grc_context 83 = .ok (.ireturn, 1) := by decide +kernel
theorem d_Grc_context_84 : decode b_Grc_context 84 = .ok (.aload_n 3, 1) := by decide +kernel
theorem d_Grc_context_85 : decode b_Grc_context 85 = .ok (.getfield 149, 3) := by decide +kernel
theorem d_Grc_context_88 : decode b_Grc_context 88 = .ok (.iload_n 1, 1) := by decide +kernel
theorem d_Grc_context_89 : decode b_Grc_context 89 = .ok (.iaload, 1) := by decide +kernel
theorem d_Grc_context_90 : decode b_Grc_context 90 = .ok (.ireturn, 1) := by decide +kernel
theorem d_Grc_context_91 : decode b_Grc_context 91 = .ok (.ldc 132, 2) := by decide +kernel
theorem d_Grc_context_93 : decode b_Grc_context 93 = .ok (.ireturn, 1) := by decide +kernel
theorem d_Grc_cut_0 : decode b_Grc_cut 0 = .ok (.iload_n 1, 1) := by decide +kernel
theorem d_Grc_cut_1 : decode b_Grc_cut 1 = .ok (.ifCond .lt 17, 3) := by decide +kernel
theorem d_Grc_cut_4 : decode b_Grc_cut 4 = .ok (.iload_n 1, 1) := by decide +kernel
theorem d_Grc_cut_5 : decode b_Grc_cut 5 = .ok (.aload_n 0, 1) := by decide +kernel
theorem d_Grc_cut_6 : decode b_Grc_cut 6 = .ok (.getfield 10, 3) := by decide +kernel
theorem d_Grc_cut_9 : decode b_Grc_cut 9 = .ok (.getfield 51, 3) := by decide +kernel
theorem d_Grc_cut_12 : decode b_Grc_cut 12 = .ok (.getfield 60, 3) := by decide +kernel
theorem d_Grc_cut_15 : decode b_Grc_cut 15 = .ok (.if_icmp .le 5, 3) := by decide +kernel
theorem d_Grc_cut_18 : decode b_Grc_cut 18 = .ok (.iconst 0, 1) := by decide +kernel
theorem d_Grc_cut_19 : decode b_Grc_cut 19 = .ok (.ireturn, 1) := by decide +kernel
theorem d_Grc_cut_20 : decode b_Grc_cut 20 = .ok (.aload_n 0, 1) := by decide +kernel
theorem d_Grc_cut_21 : decode b_Grc_cut 21 = .ok (.getfield 10, 3) := by decide +kernel
theorem d_Grc_cut_24 : decode b_Grc_cut 24 = .ok (.getfield 51, 3) := by decide +kernel
theorem d_Grc_cut_27 : decode b_Grc_cut 27 = .ok (.iload_n 1, 1) := by decide +kernel
theorem d_Grc_cut_28 : decode b_Grc_cut 28 = .ok (.putfield 60, 3) := by decide +kernel
theorem d_Grc_cut_31 : decode b_Grc_cut 31 = .ok (.iconst 1, 1) := by decide +kernel
theorem d_Grc_cut_32 : decode b_Grc_cut 32 = .ok (.ireturn, 1) := by decide +kernel
theorem d_Grc_encode_0 : decode b_Grc_encode 0 = .ok (.aload_n 0, 1) := by decide +kernel
theorem d_Grc_encode_1 : decode b_Grc_encode 1 = .ok (.getfield 10, 3) := by decide +kernel
theorem d_Grc_encode_4 : decode b_Grc_encode 4 = .ok (.invokevirtual 45, 3) := by decide +kernel
theorem d_Grc_encode_7 : decode b_Grc_encode 7 = .ok (.aload_n 0, 1) := by decide +kernel
theorem d_Grc_encode_8 : decode b_Grc_encode 8 = .ok (.getfield 10, 3) := by decide +kernel
theorem d_Grc_encode_11 : decode b_Grc_encode 11 = .ok (.invokevirtual 48, 3) := by decide +kernel
theorem d_Grc_encode_14 : decode b_Grc_encode 14 = .ok (.aload_n 0, 1) := by decide +kernel
theorem d_Grc_encode_15 : decode b_Grc_encode 15 = .ok (.getfield 10, 3) := by decide +kernel
theorem d_Grc_encode_18 : decode b_Grc_encode 18 = .ok (.getfield 51, 3) := by decide +kernel
theorem d_Grc_encode_21 : decode b_Grc_encode 21 = .ok (.invokevirtual 55, 3) := by decide +kernel
theorem d_Grc_encode_24 : decode b_Grc_encode 24 = .ok (.aload_n 0, 1) := by decide +kernel
theorem d_Grc_encode_25 : decode b_Grc_encode 25 = .ok (.getfield 10, 3) := by decide +kernel
theorem d_Grc_encode_28 : decode b_Grc_encode 28 = .ok (.getfield 51, 3) := by decide +kernel
theorem d_Grc_encode_31 : decode b_Grc_encode 31 = .ok (.getfield 60, 3) := by decide +kernel
theorem d_Grc_encode_34 : decode b_Grc_encode 34 = .ok (.ireturn, 1) := by decide +kernel
theorem d_Grc_frame_0 : decode b_Grc_frame 0 = .ok (.iload_n 1, 1) := by decide +kernel
theorem d_Grc_frame_1 : decode b_Grc_frame 1 = .ok (.iload_n 2, 1) := by decide +kernel
theorem d_Grc_frame_2 : decode b_Grc_frame 2 = .ok (.iload_n 3, 1) := by decide +kernel
theorem d_Grc_frame_3 : decode b_Grc_frame 3 = .ok (.iload 4, 2) := by decide +kernel
theorem d_Grc_frame_5 : decode b_Grc_frame 5 = .ok (.invokestatic 23, 3) := by decide +kernel
theorem d_Grc_frame_8 : decode b_Grc_frame 8 = .ok (.ifCond .ne 5, 3) := by decide +kernel
theorem d_Grc_frame_11 : decode b_Grc_frame 11 = .ok (.iconst 0, 1) := by decide +kernel
theorem d_Grc_frame_12 : decode b_Grc_frame 12 = .ok (.ireturn, 1) := by decide +kernel
theorem d_Grc_frame_13 : decode b_Grc_frame 13 = .ok (.aload_n 0, 1) := by decide +kernel
theorem d_Grc_frame_14 : decode b_Grc_frame 14 = .ok (.getfield 10, 3) := by decide +kernel
theorem d_Grc_frame_17 : decode b_Grc_frame 17 = .ok (.iload_n 1, 1) := by decide +kernel
theorem d_Grc_frame_18 : decode b_Grc_frame 18 = .ok (.iload_n 2, 1) := by decide +kernel
theorem d_Grc_frame_19 : decode b_Grc_frame 19 = .ok (.iload_n 3, 1) := by decide +kernel
theorem d_Grc_frame_20 : decode b_Grc_frame 20 = .ok (.iload 4, 2) := by decide +kernel
theorem d_Grc_frame_22 : decode b_Grc_frame 22 = .ok (.invokevirtual 29, 3) := by decide +kernel
theorem d_Grc_frame_25 : decode b_Grc_frame 25 = .ok (.iconst 1, 1) := by decide +kernel
theorem d_Grc_frame_26 : decode b_Grc_frame 26 = .ok (.ireturn, 1) := by decide +kernel
theorem d_Grc_hasByte_0 : decode b_Grc_hasByte 0 = .ok (.iload_n 1, 1) := by decide +kernel
theorem d_Grc_hasByte_1 : decode b_Grc_hasByte 1 = .ok (.ifCond .lt 21, 3) := by decide +kernel
theorem d_Grc_hasByte_4 : decode b_Grc_hasByte 4 = .ok (.iload_n 1, 1) := by decide +kernel
theorem d_Grc_hasByte_5 : decode b_Grc_hasByte 5 = .ok (.aload_n 0, 1) := by decide +kernel
theorem d_Grc_hasByte_6 : decode b_Grc_hasByte 6 = .ok (.getfield 10, 3) := by decide +kernel
theorem d_Grc_hasByte_9 : decode b_Grc_hasByte 9 = .ok (.getfield 51, 3) := by decide +kernel
theorem d_Grc_hasByte_12 : decode b_Grc_hasByte 12 = .ok (.getfield 60, 3) := by decide +kernel
theorem d_Grc_hasByte_15 : decode b_Grc_hasByte 15 = .ok (.if_icmp .ge 7, 3) := by decide +kernel
theorem d_Grc_hasByte_18 : decode b_Grc_hasByte 18 = .ok (.iconst 1, 1) := by decide +kernel
theorem d_Grc_hasByte_19 : decode b_Grc_hasByte 19 = .ok (.goto 4, 3) := by decide +kernel
theorem d_Grc_hasByte_22 : decode b_Grc_hasByte 22 = .ok (.iconst 0, 1) := by decide +kernel
theorem d_Grc_hasByte_23 : decode b_Grc_hasByte 23 = .ok (.ireturn, 1) := by decide +kernel
theorem d_Grc_number_0 : decode b_Grc_number 0 = .ok (.aload_n 0, 1) := by decide +kernel
theorem d_Grc_number_1 : decode b_Grc_number 1 = .ok (.getfield 10, 3) := by decide +kernel
theorem d_Grc_number_4 : decode b_Grc_number 4 = .ok (.getfield 33, 3) := by decide +kernel
theorem d_Grc_number_7 : decode b_Grc_number 7 = .ok (.astore_n 2, 1) := by decide +kernel
theorem d_Grc_number_8 : decode b_Grc_number 8 = .ok (.iload_n 1, 1) := by decide +kernel
theorem d_Grc_number_9 : decode b_Grc_number 9 = .ok (.tableswitch 105 0 9 #[55, 60, 65, 70, 75, 80, 85, 90, 95, 100], 55) := by decide +kernel
theorem d_Grc_number_64 : decode b_Grc_number 64 = .ok (.aload_n 2, 1) := by decide +kernel
theorem d_Grc_number_65 : decode b_Grc_number 65 = .ok (.getfield 89, 3) := by decide +kernel
theorem d_Grc_number_68 : decode b_Grc_number 68 = .ok (.ireturn, 1) := by decide +kernel
theorem d_Grc_number_69 : decode b_Grc_number 69 = .ok (.aload_n 2, 1) := by decide +kernel
theorem d_Grc_number_70 : decode b_Grc_number 70 = .ok (.getfield 37, 3) := by decide +kernel
theorem d_Grc_number_73 : decode b_Grc_number 73 = .ok (.ireturn, 1) := by decide +kernel
theorem d_Grc_number_74 : decode b_Grc_number 74 = .ok (.aload_n 2, 1) := by decide +kernel
theorem d_Grc_number_75 : decode b_Grc_number 75 = .ok (.getfield 92, 3) := by decide +kernel
theorem d_Grc_number_78 : decode b_Grc_number 78 = .ok (.ireturn, 1) := by decide +kernel
theorem d_Grc_number_79 : decode b_Grc_number 79 = .ok (.aload_n 2, 1) := by decide +kernel
theorem d_Grc_number_80 : decode b_Grc_number 80 = .ok (.getfield 95, 3) := by decide +kernel
theorem d_Grc_number_83 : decode b_Grc_number 83 = .ok (.ireturn, 1) := by decide +kernel
theorem d_Grc_number_84 : decode b_Grc_number 84 = .ok (.aload_n 2, 1) := by decide +kernel
theorem d_Grc_number_85 : decode b_Grc_number 85 = .ok (.getfield 98, 3) := by decide +kernel
theorem d_Grc_number_88 : decode b_Grc_number 88 = .ok (.ireturn, 1) := by decide +kernel
theorem d_Grc_number_89 : decode b_Grc_number 89 = .ok (.aload_n 2, 1) := by decide +kernel
theorem d_Grc_number_90 : decode b_Grc_number 90 = .ok (.getfield 101, 3) := by decide +kernel
theorem d_Grc_number_93 : decode b_Grc_number 93 = .ok (.ireturn, 1) := by decide +kernel
theorem d_Grc_number_94 : decode b_Grc_number 94 = .ok (.aload_n 2, 1) := by decide +kernel
theorem d_Grc_number_95 : decode b_Grc_number 95 = .ok (.getfield 104, 3) := by decide +kernel
theorem d_Grc_number_98 : decode b_Grc_number 98 = .ok (.ireturn, 1) := by decide +kernel
theorem d_Grc_number_99 : decode b_Grc_number 99 = .ok (.aload_n 2, 1) := by decide +kernel
theorem d_Grc_number_100 : decode b_Grc_number 100 = .ok (.getfield 107, 3) := by decide +kernel
theorem d_Grc_number_103 : decode b_Grc_number 103 = .ok (.ireturn, 1) := by decide +kernel
theorem d_Grc_number_104 : decode b_Grc_number 104 = .ok (.aload_n 2, 1) := by decide +kernel
theorem d_Grc_number_105 : decode b_Grc_number 105 = .ok (.getfield 110, 3) := by decide +kernel
theorem d_Grc_number_108 : decode b_Grc_number 108 = .ok (.ireturn, 1) := by decide +kernel
theorem d_Grc_number_109 : decode b_Grc_number 109 = .ok (.aload_n 2, 1) := by decide +kernel
theorem d_Grc_number_110 : decode b_Grc_number 110 = .ok (.getfield 113, 3) := by decide +kernel
theorem d_Grc_number_113 : decode b_Grc_number 113 = .ok (.ireturn, 1) := by decide +kernel
theorem d_Grc_number_114 : decode b_Grc_number 114 = .ok (.iconst (-1), 1) := by decide +kernel
theorem d_Grc_number_115 : decode b_Grc_number 115 = .ok (.ireturn, 1) := by decide +kernel
theorem d_Grc_poke_0 : decode b_Grc_poke 0 = .ok (.aload_n 0, 1) := by decide +kernel
theorem d_Grc_poke_1 : decode b_Grc_poke 1 = .ok (.iload_n 1, 1) := by decide +kernel
theorem d_Grc_poke_2 : decode b_Grc_poke 2 = .ok (.invokevirtual 63, 3) := by decide +kernel
theorem d_Grc_poke_5 : decode b_Grc_poke 5 = .ok (.ifCond .eq 14, 3) := by decide +kernel
theorem d_Grc_poke_8 : decode b_Grc_poke 8 = .ok (.iload_n 2, 1) := by decide +kernel
theorem d_Grc_poke_9 : decode b_Grc_poke 9 = .ok (.ifCond .lt 10, 3) := by decide +kernel
theorem d_Grc_poke_12 : decode b_Grc_poke 12 = .ok (.iload_n 2, 1) := by decide +kernel
theorem d_Grc_poke_13 : decode b_Grc_poke 13 = .ok (.sipush 255, 3) := by decide +kernel
theorem d_Grc_poke_16 : decode b_Grc_poke 16 = .ok (.if_icmp .le 5, 3) := by decide +kernel
theorem d_Grc_poke_19 : decode b_Grc_poke 19 = .ok (.iconst 0, 1) := by decide +kernel
theorem d_Grc_poke_20 : decode b_Grc_poke 20 = .ok (.ireturn, 1) := by decide +kernel
theorem d_Grc_poke_21 : decode b_Grc_poke 21 = .ok (.aload_n 0, 1) := by decide +kernel
theorem d_Grc_poke_22 : decode b_Grc_poke 22 = .ok (.getfield 10, 3) := by decide +kernel
theorem d_Grc_poke_25 : decode b_Grc_poke 25 = .ok (.getfield 51, 3) := by decide +kernel
theorem d_Grc_poke_28 : decode b_Grc_poke 28 = .ok (.getfield 67, 3) := by decide +kernel
theorem d_Grc_poke_31 : decode b_Grc_poke 31 = .ok (.iload_n 1, 1) := by decide +kernel
theorem d_Grc_poke_32 : decode b_Grc_poke 32 = .ok (.iload_n 2, 1) := by decide +kernel
theorem d_Grc_poke_33 : decode b_Grc_poke 33 = .ok (.iastore, 1) := by decide +kernel
theorem d_Grc_poke_34 : decode b_Grc_poke 34 = .ok (.iconst 1, 1) := by decide +kernel
theorem d_Grc_poke_35 : decode b_Grc_poke 35 = .ok (.ireturn, 1) := by decide +kernel
theorem d_Grc_rebuilt_0 : decode b_Grc_rebuilt 0 = .ok (.aload_n 0, 1) := by decide +kernel
theorem d_Grc_rebuilt_1 : decode b_Grc_rebuilt 1 = .ok (.getfield 10, 3) := by decide +kernel
theorem d_Grc_rebuilt_4 : decode b_Grc_rebuilt 4 = .ok (.getfield 33, 3) := by decide +kernel
theorem d_Grc_rebuilt_7 : decode b_Grc_rebuilt 7 = .ok (.iload_n 1, 1) := by decide +kernel
theorem d_Grc_rebuilt_8 : decode b_Grc_rebuilt 8 = .ok (.iload_n 2, 1) := by decide +kernel
theorem d_Grc_rebuilt_9 : decode b_Grc_rebuilt 9 = .ok (.invokevirtual 116, 3) := by decide +kernel
theorem d_Grc_rebuilt_12 : decode b_Grc_rebuilt 12 = .ok (.ifCond .eq 19, 3) := by decide +kernel
theorem d_Grc_rebuilt_15 : decode b_Grc_rebuilt 15 = .ok (.aload_n 0, 1) := by decide +kernel
theorem d_Grc_rebuilt_16 : decode b_Grc_rebuilt 16 = .ok (.getfield 10, 3) := by decide +kernel
theorem d_Grc_rebuilt_19 : decode b_Grc_rebuilt 19 = .ok (.getfield 127, 3) := by decide +kernel
theorem d_Grc_rebuilt_22 : decode b_Grc_rebuilt 22 = .ok (.iload_n 1, 1) := by decide +kernel
theorem d_Grc_rebuilt_23 : decode b_Grc_rebuilt 23 = .ok (.iload_n 2, 1) := by decide +kernel
theorem d_Grc_rebuilt_24 : decode b_Grc_rebuilt 24 = .ok (.invokestatic 123, 3) := by decide +kernel
theorem d_Grc_rebuilt_27 : decode b_Grc_rebuilt 27 = .ok (.iaload, 1) := by decide +kernel
theorem d_Grc_rebuilt_28 : decode b_Grc_rebuilt 28 = .ok (.goto 4, 3) := by decide +kernel
theorem d_Grc_rebuilt_31 : decode b_Grc_rebuilt 31 = .ok (.iconst (-1), 1) := by decide +kernel
theorem d_Grc_rebuilt_32 : decode b_Grc_rebuilt 32 = .ok (.ireturn, 1) := by decide +kernel
theorem d_Grc_row_0 : decode b_Grc_row 0 = .ok (.iload_n 1, 1) := by decide +kernel
theorem d_Grc_row_1 : decode b_Grc_row 1 = .ok (.ifCond .lt 17, 3) := by decide +kernel
theorem d_Grc_row_4 : decode b_Grc_row 4 = .ok (.iload_n 1, 1) := by decide +kernel
theorem d_Grc_row_5 : decode b_Grc_row 5 = .ok (.aload_n 0, 1) := by decide +kernel
theorem d_Grc_row_6 : decode b_Grc_row 6 = .ok (.getfield 10, 3) := by decide +kernel
theorem d_Grc_row_9 : decode b_Grc_row 9 = .ok (.getfield 33, 3) := by decide +kernel
theorem d_Grc_row_12 : decode b_Grc_row 12 = .ok (.getfield 37, 3) := by decide +kernel
theorem d_Grc_row_15 : decode b_Grc_row 15 = .ok (.if_icmp .lt 5, 3) := by decide +kernel
theorem d_Grc_row_18 : decode b_Grc_row 18 = .ok (.iconst 0, 1) := by decide +kernel
theorem d_Grc_row_19 : decode b_Grc_row 19 = .ok (.ireturn, 1) := by decide +kernel
theorem d_Grc_row_20 : decode b_Grc_row 20 = .ok (.aload_n 0, 1) := by decide +kernel
theorem d_Grc_row_21 : decode b_Grc_row 21 = .ok (.getfield 10, 3) := by decide +kernel
theorem d_Grc_row_24 : decode b_Grc_row 24 = .ok (.iload_n 1, 1) := by decide +kernel
theorem d_Grc_row_25 : decode b_Grc_row 25 = .ok (.lload_n 2, 1) := by decide +kernel
theorem d_Grc_row_26 : decode b_Grc_row 26 = .ok (.invokevirtual 41, 3) := by decide +kernel
theorem d_Grc_row_29 : decode b_Grc_row 29 = .ok (.ireturn, 1) := by decide +kernel
theorem d_Grc_runIndex_0 : decode b_Grc_runIndex 0 = .ok (.aload_n 0, 1) := by decide +kernel
theorem d_Grc_runIndex_1 : decode b_Grc_runIndex 1 = .ok (.getfield 10, 3) := by decide +kernel
theorem d_Grc_runIndex_4 : decode b_Grc_runIndex 4 = .ok (.getfield 133, 3) := by decide +kernel
theorem d_Grc_runIndex_7 : decode b_Grc_runIndex 7 = .ok (.getfield 152, 3) := by decide +kernel
theorem d_Grc_runIndex_10 : decode b_Grc_runIndex 10 = .ok (.ireturn, 1) := by decide +kernel
theorem d_Grc_sample_0 : decode b_Grc_sample 0 = .ok (.aload_n 0, 1) := by decide +kernel
theorem d_Grc_sample_1 : decode b_Grc_sample 1 = .ok (.getfield 10, 3) := by decide +kernel
theorem d_Grc_sample_4 : decode b_Grc_sample 4 = .ok (.getfield 33, 3) := by decide +kernel
theorem d_Grc_sample_7 : decode b_Grc_sample 7 = .ok (.iload_n 1, 1) := by decide +kernel
theorem d_Grc_sample_8 : decode b_Grc_sample 8 = .ok (.iload_n 2, 1) := by decide +kernel
theorem d_Grc_sample_9 : decode b_Grc_sample 9 = .ok (.invokevirtual 116, 3) := by decide +kernel
theorem d_Grc_sample_12 : decode b_Grc_sample 12 = .ok (.ifCond .eq 19, 3) := by decide +kernel
theorem d_Grc_sample_15 : decode b_Grc_sample 15 = .ok (.aload_n 0, 1) := by decide +kernel
theorem d_Grc_sample_16 : decode b_Grc_sample 16 = .ok (.getfield 10, 3) := by decide +kernel
theorem d_Grc_sample_19 : decode b_Grc_sample 19 = .ok (.getfield 120, 3) := by decide +kernel
theorem d_Grc_sample_22 : decode b_Grc_sample 22 = .ok (.iload_n 1, 1) := by decide +kernel
theorem d_Grc_sample_23 : decode b_Grc_sample 23 = .ok (.iload_n 2, 1) := by decide +kernel
theorem d_Grc_sample_24 : decode b_Grc_sample 24 = .ok (.invokestatic 123, 3) := by decide +kernel
theorem d_Grc_sample_27 : decode b_Grc_sample 27 = .ok (.iaload, 1) := by decide +kernel
theorem d_Grc_sample_28 : decode b_Grc_sample 28 = .ok (.goto 4, 3) := by decide +kernel
theorem d_Grc_sample_31 : decode b_Grc_sample 31 = .ok (.iconst (-1), 1) := by decide +kernel
theorem d_Grc_sample_32 : decode b_Grc_sample 32 = .ok (.ireturn, 1) := by decide +kernel
theorem d_Grc_size_0 : decode b_Grc_size 0 = .ok (.aload_n 0, 1) := by decide +kernel
theorem d_Grc_size_1 : decode b_Grc_size 1 = .ok (.getfield 10, 3) := by decide +kernel
theorem d_Grc_size_4 : decode b_Grc_size 4 = .ok (.getfield 51, 3) := by decide +kernel
theorem d_Grc_size_7 : decode b_Grc_size 7 = .ok (.getfield 60, 3) := by decide +kernel
theorem d_Grc_size_10 : decode b_Grc_size 10 = .ok (.ireturn, 1) := by decide +kernel
theorem d_Mod_above_0 : decode b_Mod_above 0 = .ok (.aload_n 0, 1) := by decide +kernel
theorem d_Mod_above_1 : decode b_Mod_above 1 = .ok (.iload_n 1, 1) := by decide +kernel
theorem d_Mod_above_2 : decode b_Mod_above 2 = .ok (.iload_n 2, 1) := by decide +kernel
theorem d_Mod_above_3 : decode b_Mod_above 3 = .ok (.iconst 1, 1) := by decide +kernel
theorem d_Mod_above_4 : decode b_Mod_above 4 = .ok (.isub, 1) := by decide +kernel
theorem d_Mod_above_5 : decode b_Mod_above 5 = .ok (.invokevirtual 134, 3) := by decide +kernel
theorem d_Mod_above_8 : decode b_Mod_above 8 = .ok (.ireturn, 1) := by decide +kernel
theorem d_Mod_before_0 : decode b_Mod_before 0 = .ok (.iload_n 1, 1) := by decide +kernel
theorem d_Mod_before_1 : decode b_Mod_before 1 = .ok (.ifCond .le 14, 3) := by decide +kernel
theorem d_Mod_before_4 : decode b_Mod_before 4 = .ok (.aload_n 0, 1) := by decide +kernel
theorem d_Mod_before_5 : decode b_Mod_before 5 = .ok (.iload_n 1, 1) := by decide +kernel
theorem d_Mod_before_6 : decode b_Mod_before 6 = .ok (.iconst 1, 1) := by decide +kernel
theorem d_Mod_before_7 : decode b_Mod_before 7 = .ok (.isub, 1) := by decide +kernel
theorem d_Mod_before_8 : decode b_Mod_before 8 = .ok (.iload_n 2, 1) := by decide +kernel
theorem d_Mod_before_9 : decode b_Mod_before 9 = .ok (.invokevirtual 134, 3) := by decide +kernel
theorem d_Mod_before_12 : decode b_Mod_before 12 = .ok (.goto 9, 3) := by decide +kernel
theorem d_Mod_before_15 : decode b_Mod_before 15 = .ok (.aload_n 0, 1) := by decide +kernel
theorem d_Mod_before_16 : decode b_Mod_before 16 = .ok (.iconst 0, 1) := by decide +kernel
theorem d_Mod_before_17 : decode b_Mod_before 17 = .ok (.iload_n 2, 1) := by decide +kernel
theorem d_Mod_before_18 : decode b_Mod_before 18 = .ok (.invokevirtual 137, 3) := by decide +kernel
theorem d_Mod_before_21 : decode b_Mod_before 21 = .ok (.ireturn, 1) := by decide +kernel
theorem d_Mod_beyond_0 : decode b_Mod_beyond 0 = .ok (.iload_n 1, 1) := by decide +kernel
theorem d_Mod_beyond_1 : decode b_Mod_beyond 1 = .ok (.aload_n 0, 1) := by decide +kernel
theorem d_Mod_beyond_2 : decode b_Mod_beyond 2 = .ok (.getfield 7, 3) := by decide +kernel
theorem d_Mod_beyond_5 : decode b_Mod_beyond 5 = .ok (.iconst 1, 1) := by decide +kernel
theorem d_Mod_beyond_6 : decode b_Mod_beyond 6 = .ok (.isub, 1) := by decide +kernel
theorem d_Mod_beyond_7 : decode b_Mod_beyond 7 = .ok (.if_icmp .ge 16, 3) := by decide +kernel
theorem d_Mod_beyond_10 : decode b_Mod_beyond 10 = .ok (.aload_n 0, 1) := by decide +kernel
theorem d_Mod_beyond_11 : decode b_Mod_beyond 11 = .ok (.iload_n 1, 1) := by decide +kernel
theorem d_Mod_beyond_12 : decode b_Mod_beyond 12 = .ok (.iconst 1, 1) := by decide +kernel
theorem d_Mod_beyond_13 : decode b_Mod_beyond 13 = .ok (.iadd, 1) := by decide +kernel
theorem d_Mod_beyond_14 : decode b_Mod_beyond 14 = .ok (.iload_n 2, 1) := by decide +kernel
theorem d_Mod_beyond_15 : decode b_Mod_beyond 15 = .ok (.iconst 1, 1) := by decide +kernel
theorem d_Mod_beyond_16 : decode b_Mod_beyond 16 = .ok (.isub, 1) := by decide +kernel
theorem d_Mod_beyond_17 : decode b_Mod_beyond 17 = .ok (.invokevirtual 134, 3) := by decide +kernel
theorem d_Mod_beyond_20 : decode b_Mod_beyond 20 = .ok (.goto 9, 3) := by decide +kernel
theorem d_Mod_beyond_23 : decode b_Mod_beyond 23 = .ok (.aload_n 0, 1) := by decide +kernel
theorem d_Mod_beyond_24 : decode b_Mod_beyond 24 = .ok (.iload_n 1, 1) := by decide +kernel
theorem d_Mod_beyond_25 : decode b_Mod_beyond 25 = .ok (.iload_n 2, 1) := by decide +kernel
theorem d_Mod_beyond_26 : decode b_Mod_beyond 26 = .ok (.invokevirtual 137, 3) := by decide +kernel
theorem d_Mod_beyond_29 : decode b_Mod_beyond 29 = .ok (.ireturn, 1) := by decide +kernel
theorem d_Mod_clamp_0 : decode b_Mod_clamp 0 = .ok (.iload_n 1, 1) := by decide +kernel
theorem d_Mod_clamp_1 : decode b_Mod_clamp 1 = .ok (.aload_n 0, 1) := by decide +kernel
theorem d_Mod_clamp_2 : decode b_Mod_clamp 2 = .ok (.getfield 16, 3) := by decide +kernel
theorem d_Mod_clamp_5 : decode b_Mod_clamp 5 = .ok (.if_icmp .gt 8, 3) := by decide +kernel
theorem d_Mod_clamp_8 : decode b_Mod_clamp 8 = .ok (.iload_n 1, 1) := by decide +kernel
theorem d_Mod_clamp_9 : decode b_Mod_clamp 9 = .ok (.iload_n 2, 1) := by decide +kernel
theorem d_Mod_clamp_10 : decode b_Mod_clamp 10 = .ok (.if_icmp .ge 7, 3) := by decide +kernel
theorem d_Mod_clamp_13 : decode b_Mod_clamp 13 = .ok (.iload_n 2, 1) := by decide +kernel
theorem d_Mod_clamp_14 : decode b_Mod_clamp 14 = .ok (.goto 4, 3) := by decide +kernel
theorem d_Mod_clamp_17 : decode b_Mod_clamp 17 = .ok (.iload_n 1, 1) := by decide +kernel
theorem d_Mod_clamp_18 : decode b_Mod_clamp 18 = .ok (.ireturn, 1) := by decide +kernel
theorem d_Mod_code_0 : decode b_Mod_code 0 = .ok (.aload_n 0, 1) := by decide +kernel
theorem d_Mod_code_1 : decode b_Mod_code 1 = .ok (.iconst 0, 1) := by decide +kernel
theorem d_Mod_code_2 : decode b_Mod_code 2 = .ok (.putfield 47, 3) := by decide +kernel
theorem d_Mod_code_5 : decode b_Mod_code 5 = .ok (.iload_n 1, 1) := by decide +kernel
theorem d_Mod_code_6 : decode b_Mod_code 6 = .ok (.ifCond .lt 20, 3) := by decide +kernel
theorem d_Mod_code_9 : decode b_Mod_code 9 = .ok (.iload_n 1, 1) := by decide +kernel
theorem d_Mod_code_10 : decode b_Mod_code 10 = .ok (.aload_n 0, 1) := by decide +kernel
theorem d_Mod_code_11 : decode b_Mod_code 11 = .ok (.getfield 91, 3) := by decide +kernel
theorem d_Mod_code_14 : decode b_Mod_code 14 = .ok (.if_icmp .ge 12, 3) := by decide +kernel
theorem d_Mod_code_17 : decode b_Mod_code 17 = .ok (.aload_n 0, 1) := by decide +kernel
theorem d_Mod_code_18 : decode b_Mod_code 18 = .ok (.getfield 29, 3) := by decide +kernel
theorem d_Mod_code_21 : decode b_Mod_code 21 = .ok (.iload_n 1, 1) := by decide +kernel
theorem d_Mod_code_22 : decode b_Mod_code 22 = .ok (.iaload, 1) := by decide +kernel
theorem d_Mod_code_23 : decode b_Mod_code 23 = .ok (.goto 4, 3) := by decide +kernel
theorem d_Mod_code_26 : decode b_Mod_code 26 = .ok (.iconst (-1), 1) := by decide +kernel
theorem d_Mod_code_27 : decode b_Mod_code 27 = .ok (.ireturn, 1) := by decide +kernel
theorem d_Mod_context_0 : decode b_Mod_context 0 = .ok (.aload_n 0, 1) := by decide +kernel
theorem d_Mod_context_1 : decode b_Mod_context 1 = .ok (.iconst 0, 1) := by decide +kernel
theorem d_Mod_context_2 : decode b_Mod_context 2 = .ok (.putfield 47, 3) := by decide +kernel
theorem d_Mod_context_5 : decode b_Mod_context 5 = .ok (.iload_n 1, 1) := by decide +kernel
theorem d_Mod_context_6 : decode b_Mod_context 6 = .ok (.ifCond .lt 32, 3) := by decide +kernel
theorem d_Mod_context_9 : decode b_Mod_context 9 = .ok (.iload_n 1, 1) := by decide +kernel
theorem d_Mod_context_10 : decode b_Mod_context 10 = .ok (.sipush 367, 3) := by decide +kernel
theorem d_Mod_context_13 : decode b_Mod_context 13 = .ok (.if_icmp .ge 25, 3) := by decide +kernel
theorem d_Mod_context_16 : decode b_Mod_context 16 = .ok (.iload_n 2, 1) := by decide +kernel
theorem d_Mod_context_17 : decode b_Mod_context 17 = .ok (.ifCond .lt 21, 3) := by decide +kernel
theorem d_Mod_context_20 : decode b_Mod_context 20 = .ok (.iload_n 2, 1) := by decide +kernel
theorem d_Mod_context_21 : decode b_Mod_context 21 = .ok (.iconst 5, 1) := by decide +kernel
theorem d_Mod_context_22 : decode b_Mod_context 22 = .ok (.if_icmp .ge 16, 3) := by decide +kernel
theorem d_Mod_context_25 : decode b_Mod_context 25 = .ok (.aload_n 0, 1) := by decide +kernel
theorem d_Mod_context_26 : decode b_Mod_context 26 = .ok (.getfield 26, 3) := by decide +kernel
theorem d_Mod_context_29 : decode b_Mod_context 29 = .ok (.iconst 5, 1) := by decide +kernel
theorem d_Mod_context_30 : decode b_Mod_context 30 = .ok (.iload_n 1, 1) := by decide +kernel
theorem d_Mod_context_31 : decode b_Mod_context 31 = .ok (.imul, 1) := by decide +kernel
theorem d_Mod_context_32 : decode b_Mod_context 32 = .ok (.iload_n 2, 1) := by decide +kernel
theorem d_Mod_context_33 : decode b_Mod_context 33 = .ok (.iadd, 1) := by decide +kernel
theorem d_Mod_context_34 : decode b_Mod_context 34 = .ok (.iaload, 1) := by decide +kernel
theorem d_Mod_context_35 : decode b_Mod_context 35 = .ok (.goto 5, 3) := by decide +kernel
theorem d_Mod_context_38 : decode b_Mod_context 38 = .ok (.ldc 227, 2) := by decide +kernel
theorem d_Mod_context_40 : decode b_Mod_context 40 = .ok (.ireturn, 1) := by decide +kernel
theorem d_Mod_corner_0 : decode b_Mod_corner 0 = .ok (.iload_n 1, 1) := by decide +kernel
theorem d_Mod_corner_1 : decode b_Mod_corner 1 = .ok (.ifCond .le 16, 3) := by decide +kernel
theorem d_Mod_corner_4 : decode b_Mod_corner 4 = .ok (.aload_n 0, 1) := by decide +kernel
theorem d_Mod_corner_5 : decode b_Mod_corner 5 = .ok (.iload_n 1, 1) := by decide +kernel
theorem d_Mod_corner_6 : decode b_Mod_corner 6 = .ok (.iconst 1, 1) := by decide +kernel
theorem d_Mod_corner_7 : decode b_Mod_corner 7 = .ok (.isub, 1) := by decide +kernel
theorem d_Mod_corner_8 : decode b_Mod_corner 8 = .ok (.iload_n 2, 1) := by decide +kernel
theorem d_Mod_corner_9 : decode b_Mod_corner 9 = .ok (.iconst 1, 1) := by decide +kernel
theorem d_Mod_corner_10 : decode b_Mod_corner 10 = .ok (.isub, 1) := by decide +kernel
theorem d_Mod_corner_11 : decode b_Mod_corner 11 = .ok (.invokevirtual 134, 3) := by decide +kernel
theorem d_Mod_corner_14 : decode b_Mod_corner 14 = .ok (.goto 19, 3) := by decide +kernel
theorem d_Mod_corner_17 : decode b_Mod_corner 17 = .ok (.iload_n 2, 1) := by decide +kernel
theorem d_Mod_corner_18 : decode b_Mod_corner 18 = .ok (.ifCond .le 14, 3) := by decide +kernel
theorem d_Mod_corner_21 : decode b_Mod_corner 21 = .ok (.aload_n 0, 1) := by decide +kernel
theorem d_Mod_corner_22 : decode b_Mod_corner 22 = .ok (.iconst 0, 1) := by decide +kernel
theorem d_Mod_corner_23 : decode b_Mod_corner 23 = .ok (.iload_n 2, 1) := by decide +kernel
theorem d_Mod_corner_24 : decode b_Mod_corner 24 = .ok (.iconst 1, 1) := by decide +kernel
theorem d_Mod_corner_25 : decode b_Mod_corner 25 = .ok (.isub, 1) := by decide +kernel
theorem d_Mod_corner_26 : decode b_Mod_corner 26 = .ok (.invokevirtual 140, 3) := by decide +kernel
theorem d_Mod_corner_29 : decode b_Mod_corner 29 = .ok (.goto 4, 3) := by decide +kernel
theorem d_Mod_corner_32 : decode b_Mod_corner 32 = .ok (.iconst 0, 1) := by decide +kernel
theorem d_Mod_corner_33 : decode b_Mod_corner 33 = .ok (.ireturn, 1) := by decide +kernel
theorem d_Mod_cut_0 : decode b_Mod_cut 0 = .ok (.aload_n 0, 1) := by decide +kernel
theorem d_Mod_cut_1 : decode b_Mod_cut 1 = .ok (.iconst 0, 1) := by decide +kernel
theorem d_Mod_cut_2 : decode b_Mod_cut 2 = .ok (.putfield 47, 3) := by decide +kernel
theorem d_Mod_cut_5 : decode b_Mod_cut 5 = .ok (.iload_n 1, 1) := by decide +kernel
theorem d_Mod_cut_6 : decode b_Mod_cut 6 = .ok (.ifCond .lt 11, 3) := by decide +kernel
theorem d_Mod_cut_9 : decode b_Mod_cut 9 = .ok (.iload_n 1, 1) := by decide +kernel
theorem d_Mod_cut_10 : decode b_Mod_cut 10 = .ok (.aload_n 0, 1) := by decide +kernel
theorem d_Mod_cut_11 : decode b_Mod_cut 11 = .ok (.getfield 91, 3) := by decide +kernel
theorem d_Mod_cut_14 : decode b_Mod_cut 14 = .ok (.if_icmp .le 5, 3) := by decide +kernel
theorem d_Mod_cut_17 : decode b_Mod_cut 17 = .ok (.iconst 0, 1) := by decide +kernel
theorem d_Mod_cut_18 : decode b_Mod_cut 18 = .ok (.ireturn, 1) := by decide +kernel
theorem d_Mod_cut_19 : decode b_Mod_cut 19 = .ok (.aload_n 0, 1) := by decide +kernel
theorem d_Mod_cut_20 : decode b_Mod_cut 20 = .ok (.iload_n 1, 1) := by decide +kernel
theorem d_Mod_cut_21 : decode b_Mod_cut 21 = .ok (.putfield 91, 3) := by decide +kernel
theorem d_Mod_cut_24 : decode b_Mod_cut 24 = .ok (.iconst 1, 1) := by decide +kernel
theorem d_Mod_cut_25 : decode b_Mod_cut 25 = .ok (.ireturn, 1) := by decide +kernel
theorem d_Mod_decode_0 : decode b_Mod_decode 0 = .ok (.aload_n 0, 1) := by decide +kernel
theorem d_Mod_decode_1 : decode b_Mod_decode 1 = .ok (.iconst 0, 1) := by decide +kernel
theorem d_Mod_decode_2 : decode b_Mod_decode 2 = .ok (.putfield 47, 3) := by decide +kernel
theorem d_Mod_decode_5 : decode b_Mod_decode 5 = .ok (.aload_n 0, 1) := by decide +kernel
theorem d_Mod_decode_6 : decode b_Mod_decode 6 = .ok (.getfield 91, 3) := by decide +kernel
theorem d_Mod_decode_9 : decode b_Mod_decode 9 = .ok (.bipush 8, 2) := by decide +kernel
theorem d_Mod_decode_11 : decode b_Mod_decode 11 = .ok (.if_icmp .lt 61, 3) := by decide +kernel
theorem d_Mod_decode_14 : decode b_Mod_decode 14 = .ok (.aload_n 0, 1) := by decide +kernel
theorem d_Mod_decode_15 : decode b_Mod_decode 15 = .ok (.getfield 29, 3) := by decide +kernel
theorem d_Mod_decode_18 : decode b_Mod_decode 18 = .ok (.iconst 0, 1) := by decide +kernel
theorem d_Mod_decode_19 : decode b_Mod_decode 19 = .ok (.iaload, 1) := by decide +kernel
theorem d_Mod_decode_20 : decode b_Mod_decode 20 = .ok (.sipush 255, 3) := by decide +kernel
theorem d_Mod_decode_23 : decode b_Mod_decode 23 = .ok (.if_icmp .ne 49, 3) := by decide +kernel
theorem d_Mod_decode_26 : decode b_Mod_decode 26 = .ok (.aload_n 0, 1) := by decide +kernel
theorem d_Mod_decode_27 : decode b_Mod_decode 27 = .ok (.getfield 29, 3) := by decide +kernel
theorem d_Mod_decode_30 : decode b_Mod_decode 30 = .ok (.iconst 1, 1) := by decide +kernel
theorem d_Mod_decode_31 : decode b_Mod_decode 31 = .ok (.iaload, 1) := by decide +kernel
theorem d_Mod_decode_32 : decode b_Mod_decode 32 = .ok (.sipush 216, 3) := by decide +kernel
theorem d_Mod_decode_35 : decode b_Mod_decode 35 = .ok (.if_icmp .ne 37, 3) := by decide +kernel
theorem d_Mod_decode_38 : decode b_Mod_decode 38 = .ok (.aload_n 0, 1) := by decide +kernel
theorem d_Mod_decode_39 : decode b_Mod_decode 39 = .ok (.getfield 29, 3) := by decide +kernel
theorem d_Mod_decode_42 : decode b_Mod_decode 42 = .ok (.iconst 2, 1) := by decide +kernel
theorem d_Mod_decode_43 : decode b_Mod_decode 43 = .ok (.iaload, 1) := by decide +kernel
theorem d_Mod_decode_44 : decode b_Mod_decode 44 = .ok (.aload_n 0, 1) := by decide +kernel
theorem d_Mod_decode_45 : decode b_Mod_decode 45 = .ok (.getfield 29, 3) := by decide +kernel
theorem d_Mod_decode_48 : decode b_Mod_decode 48 = .ok (.iconst 3, 1) := by decide +kernel
theorem d_Mod_decode_49 : decode b_Mod_decode 49 = .ok (.iaload, 1) := by decide +kernel
theorem d_Mod_decode_50 : decode b_Mod_decode 50 = .ok (.aload_n 0, 1) := by decide +kernel
theorem d_Mod_decode_51 : decode b_Mod_decode 51 = .ok (.getfield 29, 3) := by decide +kernel
theorem d_Mod_decode_54 : decode b_Mod_decode 54 = .ok (.iconst 4, 1) := by decide +kernel
theorem d_Mod_decode_55 : decode b_Mod_decode 55 = .ok (.iaload, 1) := by decide +kernel
theorem d_Mod_decode_56 : decode b_Mod_decode 56 = .ok (.aload_n 0, 1) := by decide +kernel
theorem d_Mod_decode_57 : decode b_Mod_decode 57 = .ok (.getfield 29, 3) := by decide +kernel
theorem d_Mod_decode_60 : decode b_Mod_decode 60 = .ok (.iconst 5, 1) := by decide +kernel
theorem d_Mod_decode_61 : decode b_Mod_decode 61 = .ok (.iaload, 1) := by decide +kernel
theorem d_Mod_decode_62 : decode b_Mod_decode 62 = .ok (.invokestatic 87, 3) := by decide +kernel
theorem d_Mod_decode_65 : decode b_Mod_decode 65 = .ok (.ifCond .eq 7, 3) := by decide +kernel
theorem d_Mod_decode_68 : decode b_Mod_decode 68 = .ok (.iconst 1, 1) := by decide +kernel
theorem d_Mod_decode_69 : decode b_Mod_decode 69 = .ok (.goto 4, 3) := by decide +kernel
theorem d_Mod_decode_72 : decode b_Mod_decode 72 = .ok (.iconst 0, 1) := by decide +kernel
theorem d_Mod_decode_73 : decode b_Mod_decode 73 = .ok (.istore_n 1, 1) := by decide +kernel
theorem d_Mod_decode_74 : decode b_Mod_decode 74 = .ok (.iload_n 1, 1) := by decide +kernel
theorem d_Mod_decode_75 : decode b_Mod_decode 75 = .ok (.ifCond .ne 10, 3) := by decide +kernel
theorem d_Mod_decode_78 : decode b_Mod_decode 78 = .ok (.aload_n 0, 1) := by decide +kernel
theorem d_Mod_decode_79 : decode b_Mod_decode 79 = .ok (.iconst 1, 1) := by decide +kernel
theorem d_Mod_decode_80 : decode b_Mod_decode 80 = .ok (.putfield 47, 3) := by decide +kernel
theorem d_Mod_decode_83 : decode b_Mod_decode 83 = .ok (.iconst 0, 1) := by decide +kernel
theorem d_Mod_decode_84 : decode b_Mod_decode 84 = .ok (.ireturn, 1) := by decide +kernel
theorem d_Mod_decode_85 : decode b_Mod_decode 85 = .ok (.aload_n 0, 1) := by decide +kernel
theorem d_Mod_decode_86 : decode b_Mod_decode 86 = .ok (.invokevirtual 213, 3) := by decide +kernel
theorem d_Mod_decode_89 : decode b_Mod_decode 89 = .ok (.aload_n 0, 1) := by decide +kernel
theorem d_Mod_decode_90 : decode b_Mod_decode 90 = .ok (.getfield 7, 3) := by decide +kernel
theorem d_Mod_decode_93 : decode b_Mod_decode 93 = .ok (.istore_n 2, 1) := by decide +kernel
theorem d_Mod_decode_94 : decode b_Mod_decode 94 = .ok (.aload_n 0, 1) := by decide +kernel
theorem d_Mod_decode_95 : decode b_Mod_decode 95 = .ok (.getfield 13, 3) := by decide +kernel
theorem d_Mod_decode_98 : decode b_Mod_decode 98 = .ok (.istore_n 3, 1) := by decide +kernel
theorem d_Mod_decode_99 : decode b_Mod_decode 99 = .ok (.aload_n 0, 1) := by decide +kernel
theorem d_Mod_decode_100 : decode b_Mod_decode 100 = .ok (.getfield 16, 3) := by decide +kernel
theorem d_Mod_decode_103 : decode b_Mod_decode 103 = .ok (.istore 4, 2) := by decide +kernel
theorem d_Mod_decode_105 : decode b_Mod_decode 105 = .ok (.aload_n 0, 1) := by decide +kernel
theorem d_Mod_decode_106 : decode b_Mod_decode 106 = .ok (.getfield 50, 3) := by decide +kernel
theorem d_Mod_decode_109 : decode b_Mod_decode 109 = .ok (.istore 5, 2) := by decide +kernel
theorem d_Mod_decode_111 : decode b_Mod_decode 111 = .ok (.aload_n 0, 1) := by decide +kernel
theorem d_Mod_decode_112 : decode b_Mod_decode 112 = .ok (.getfield 84, 3) := by decide +kernel
theorem d_Mod_decode_115 : decode b_Mod_decode 115 = .ok (.istore 6, 2) := by decide +kernel
theorem d_Mod_decode_117 : decode b_Mod_decode 117 = .ok (.aload_n 0, 1) := by decide +kernel
theorem d_Mod_decode_118 : decode b_Mod_decode 118 = .ok (.aload_n 0, 1) := by decide +kernel
theorem d_Mod_decode_119 : decode b_Mod_decode 119 = .ok (.getfield 29, 3) := by decide +kernel
theorem d_Mod_decode_122 : decode b_Mod_decode 122 = .ok (.iconst 2, 1) := by decide +kernel
theorem d_Mod_decode_123 : decode b_Mod_decode 123 = .ok (.iaload, 1) := by decide +kernel
theorem d_Mod_decode_124 : decode b_Mod_decode 124 = .ok (.putfield 7, 3) := by decide +kernel
theorem d_Mod_decode_127 : decode b_Mod_decode 127 = .ok (.aload_n 0, 1) := by decide +kernel
theorem d_Mod_decode_128 : decode b_Mod_decode 128 = .ok (.aload_n 0, 1) := by decide +kernel
theorem d_Mod_decode_129 : decode b_Mod_decode 129 = .ok (.getfield 29, 3) := by decide +kernel
theorem d_Mod_decode_132 : decode b_Mod_decode 132 = .ok (.iconst 3, 1) := by decide +kernel
theorem d_Mod_decode_133 : decode b_Mod_decode 133 = .ok (.iaload, 1) := by decide +kernel
theorem d_Mod_decode_134 : decode b_Mod_decode 134 = .ok (.putfield 13, 3) := by decide +kernel
theorem d_Mod_decode_137 : decode b_Mod_decode 137 = .ok (.aload_n 0, 1) := by decide +kernel
theorem d_Mod_decode_138 : decode b_Mod_decode 138 = .ok (.aload_n 0, 1) := by decide +kernel
theorem d_Mod_decode_139 : decode b_Mod_decode 139 = .ok (.getfield 29, 3) := by decide +kernel
theorem d_Mod_decode_142 : decode b_Mod_decode 142 = .ok (.iconst 4, 1) := by decide +kernel
theorem d_Mod_decode_143 : decode b_Mod_decode 143 = .ok (.iaload, 1) := by decide +kernel
theorem d_Mod_decode_144 : decode b_Mod_decode 144 = .ok (.putfield 16, 3) := by decide +kernel
theorem d_Mod_decode_147 : decode b_Mod_decode 147 = .ok (.aload_n 0, 1) := by decide +kernel
theorem d_Mod_decode_148 : decode b_Mod_decode 148 = .ok (.aload_n 0, 1) := by decide +kernel
theorem d_Mod_decode_149 : decode b_Mod_decode 149 = .ok (.getfield 29, 3) := by decide +kernel
theorem d_Mod_decode_152 : decode b_Mod_decode 152 = .ok (.iconst 5, 1) := by decide +kernel
theorem d_Mod_decode_153 : decode b_Mod_decode 153 = .ok (.iaload, 1) := by decide +kernel
theorem d_Mod_decode_154 : decode b_Mod_decode 154 = .ok (.putfield 50, 3) := by decide +kernel
theorem d_Mod_decode_157 : decode b_Mod_decode 157 = .ok (.aload_n 0, 1) := by decide +kernel
theorem d_Mod_decode_158 : decode b_Mod_decode 158 = .ok (.invokevirtual 41, 3) := by decide +kernel
theorem d_Mod_decode_161 : decode b_Mod_decode 161 = .ok (.aload_n 0, 1) := by decide +kernel
theorem d_Mod_decode_162 : decode b_Mod_decode 162 = .ok (.invokevirtual 44, 3) := by decide +kernel
theorem d_Mod_decode_165 : decode b_Mod_decode 165 = .ok (.iconst 0, 1) := by decide +kernel
theorem d_Mod_decode_166 : decode b_Mod_decode 166 = .ok (.istore 7, 2) := by decide +kernel
theorem d_Mod_decode_168 : decode b_Mod_decode 168 = .ok (.iload 7, 2) := by decide +kernel
theorem d_Mod_decode_170 : decode b_Mod_decode 170 = .ok (.bipush 64, 2) := by decide +kernel
theorem d_Mod_decode_172 : decode b_Mod_decode 172 = .ok (.if_icmp .ge 17, 3) := by decide +kernel
theorem d_Mod_decode_175 : decode b_Mod_decode 175 = .ok (.aload_n 0, 1) := by decide +kernel
theorem d_Mod_decode_176 : decode b_Mod_decode 176 = .ok (.getfield 19, 3) := by decide +kernel
theorem d_Mod_decode_179 : decode b_Mod_decode 179 = .ok (.iload 7, 2) := by decide +kernel
theorem d_Mod_decode_181 : decode b_Mod_decode 181 = .ok (.iconst 0, 1) := by decide +kernel
theorem d_Mod_decode_182 : decode b_Mod_decode 182 = .ok (.iastore, 1) := by decide +kernel
theorem d_Mod_decode_183 : decode b_Mod_decode 183 = .ok (.iinc 7 1, 3) := by decide +kernel
theorem d_Mod_decode_186 : decode b_Mod_decode 186 = .ok (.goto (-18), 3) := by decide +kernel
theorem d_Mod_decode_189 : decode b_Mod_decode 189 = .ok (.aload_n 0, 1) := by decide +kernel
theorem d_Mod_decode_190 : decode b_Mod_decode 190 = .ok (.iconst 1, 1) := by decide +kernel
theorem d_Mod_decode_191 : decode b_Mod_decode 191 = .ok (.putfield 167, 3) := by decide +kernel
theorem d_Mod_decode_194 : decode b_Mod_decode 194 = .ok (.aload_n 0, 1) := by decide +kernel
theorem d_Mod_decode_195 : decode b_Mod_decode 195 = .ok (.iconst 1, 1) := by decide +kernel
theorem d_Mod_decode_196 : decode b_Mod_decode 196 = .ok (.putfield 118, 3) := by decide +kernel
theorem d_Mod_decode_199 : decode b_Mod_decode 199 = .ok (.aload_n 0, 1) := by decide +kernel
theorem d_Mod_decode_200 : decode b_Mod_decode 200 = .ok (.bipush 6, 2) := by decide +kernel
theorem d_Mod_decode_202 : decode b_Mod_decode 202 = .ok (.putfield 115, 3) := by decide +kernel
theorem d_Mod_decode_205 : decode b_Mod_decode 205 = .ok (.aload_n 0, 1) := by decide +kernel
theorem d_Mod_decode_206 : decode b_Mod_decode 206 = .ok (.iconst 0, 1) := by decide +kernel
theorem d_Mod_decode_207 : decode b_Mod_decode 207 = .ok (.putfield 112, 3) := by decide +kernel
theorem d_Mod_decode_210 : decode b_Mod_decode 210 = .ok (.aload_n 0, 1) := by decide +kernel
theorem d_Mod_decode_211 : decode b_Mod_decode 211 = .ok (.iconst 0, 1) := by decide +kernel
theorem d_Mod_decode_212 : decode b_Mod_decode 212 = .ok (.putfield 109, 3) := by decide +kernel
theorem d_Mod_decode_215 : decode b_Mod_decode 215 = .ok (.aload_n 0, 1) := by decide +kernel
theorem d_Mod_decode_216 : decode b_Mod_decode 216 = .ok (.invokevirtual 210, 3) := by decide +kernel
theorem d_Mod_decode_219 : decode b_Mod_decode 219 = .ok (.aload_n 0, 1) := by decide +kernel
theorem d_Mod_decode_220 : decode b_Mod_decode 220 = .ok (.getfield 118, 3) := by decide +kernel
theorem d_Mod_decode_223 : decode b_Mod_decode 223 = .ok (.ifCond .eq 10, 3) := by decide +kernel
theorem d_Mod_decode_226 : decode b_Mod_decode 226 = .ok (.aload_n 0, 1) := by decide +kernel
theorem d_Mod_decode_227 : decode b_Mod_decode 227 = .ok (.invokevirtual 216, 3) := by decide +kernel
theorem d_Mod_decode_230 : decode b_Mod_decode 230 = .ok (.ifCond .ne 22, 3) := by decide +kernel
theorem d_Mod_decode_233 : decode b_Mod_decode 233 = .ok (.aload_n 0, 1) := by decide +kernel
theorem d_Mod_decode_234 : decode b_Mod_decode 234 = .ok (.iload_n 2, 1) := by decide +kernel
theorem d_Mod_decode_235 : decode b_Mod_decode 235 = .ok (.iload_n 3, 1) := by decide +kernel
theorem d_Mod_decode_236 : decode b_Mod_decode 236 = .ok (.iload 4, 2) := by decide +kernel
theorem d_Mod_decode_238 : decode b_Mod_decode 238 = .ok (.iload 5, 2) := by decide +kernel
theorem d_Mod_decode_240 : decode b_Mod_decode 240 = .ok (.iload 6, 2) := by decide +kernel
theorem d_Mod_decode_242 : decode b_Mod_decode 242 = .ok (.invokevirtual 220, 3) := by decide +kernel
theorem d_Mod_decode_245 : decode b_Mod_decode 245 = .ok (.aload_n 0, 1) := by decide +kernel
theorem d_Mod_decode_246 : decode b_Mod_decode 246 = .ok (.iconst 1, 1) := by decide +kernel
theorem d_Mod_decode_247 : decode b_Mod_decode 247 = .ok (.putfield 47, 3) := by decide +kernel
theorem d_Mod_decode_250 : decode b_Mod_decode 250 = .ok (.iconst 0, 1) := by decide +kernel
theorem d_Mod_decode_251 : decode b_Mod_decode 251 = .ok (.ireturn, 1) := by decide +kernel
theorem d_Mod_decode_252 : decode b_Mod_decode 252 = .ok (.aload_n 0, 1) := by decide +kernel
theorem d_Mod_decode_253 : decode b_Mod_decode 253 = .ok (.getfield 7, 3) := by decide +kernel
theorem d_Mod_decode_256 : decode b_Mod_decode 256 = .ok (.aload_n 0, 1) := by decide +kernel
theorem d_Mod_decode_257 : decode b_Mod_decode 257 = .ok (.getfield 13, 3) := by decide +kernel
theorem d_Mod_decode_260 : decode b_Mod_decode 260 = .ok (.imul, 1) := by decide +kernel
theorem d_Mod_decode_261 : decode b_Mod_decode 261 = .ok (.ireturn, 1) := by decide +kernel
theorem d_Mod_divided_0 : decode b_Mod_divided 0 = .ok (.iload_n 1, 1) := by decide +kernel
theorem d_Mod_divided_1 : decode b_Mod_divided 1 = .ok (.ifCond .le 17, 3) := by decide +kernel
theorem d_Mod_divided_4 : decode b_Mod_divided 4 = .ok (.iload_n 1, 1) := by decide +kernel
theorem d_Mod_divided_5 : decode b_Mod_divided 5 = .ok (.aload_n 0, 1) := by decide +kernel
theorem d_Mod_divided_6 : decode b_Mod_divided 6 = .ok (.getfield 50, 3) := by decide +kernel
theorem d_Mod_divided_9 : decode b_Mod_divided 9 = .ok (.iadd, 1) := by decide +kernel
theorem d_Mod_divided_10 : decode b_Mod_divided 10 = .ok (.aload_n 0, 1) := by decide +kernel
theorem d_Mod_divided_11 : decode b_Mod_divided 11 = .ok (.getfield 53, 3) := by decide +kernel
theorem d_Mod_divided_14 : decode b_Mod_divided 14 = .ok (.idiv, 1) := by decide +kernel
theorem d_Mod_divided_15 : decode b_Mod_divided 15 = .ok (.goto 15, 3) := by decide +kernel
theorem d_Mod_divided_18 : decode b_Mod_divided 18 = .ok (.aload_n 0, 1) := by decide +kernel
theorem d_Mod_divided_19 : decode b_Mod_divided 19 = .ok (.getfield 50, 3) := by decide +kernel
theorem d_Mod_divided_22 : decode b_Mod_divided 22 = .ok (.iload_n 1, 1) := by decide +kernel
theorem d_Mod_divided_23 : decode b_Mod_divided 23 = .ok (.isub, 1) := by decide +kernel
theorem d_Mod_divided_24 : decode b_Mod_divided 24 = .ok (.aload_n 0, 1) := by decide +kernel
theorem d_Mod_divided_25 : decode b_Mod_divided 25 = .ok (.getfield 53, 3) := by decide +kernel
theorem d_Mod_divided_28 : decode b_Mod_divided 28 = .ok (.idiv, 1) := by decide +kernel
theorem d_Mod_divided_29 : decode b_Mod_divided 29 = .ok (.ineg, 1) := by decide +kernel
theorem d_Mod_divided_30 : decode b_Mod_divided 30 = .ok (.ireturn, 1) := by decide +kernel
