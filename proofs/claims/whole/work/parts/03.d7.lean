theorem d_Pic_becomeFine_0 : decode b_Pic_becomeFine 0 = .ok (.aload_n 0, 1) := by decide +kernel
theorem d_Pic_becomeFine_1 : decode b_Pic_becomeFine 1 = .ok (.aload_n 0, 1) := by decide +kernel
theorem d_Pic_becomeFine_2 : decode b_Pic_becomeFine 2 = .ok (.iload_n 1, 1) := by decide +kernel
theorem d_Pic_becomeFine_3 : decode b_Pic_becomeFine 3 = .ok (.iconst 2, 1) := by decide +kernel
theorem d_Pic_becomeFine_4 : decode b_Pic_becomeFine 4 = .ok (.iadd, 1) := by decide +kernel
theorem d_Pic_becomeFine_5 : decode b_Pic_becomeFine 5 = .ok (.iconst 3, 1) := by decide +kernel
theorem d_Pic_becomeFine_6 : decode b_Pic_becomeFine 6 = .ok (.aload_n 0, 1) := by decide +kernel
theorem d_Pic_becomeFine_7 : decode b_Pic_becomeFine 7 = .ok (.getfield 23, 3) := by decide +kernel
theorem d_Pic_becomeFine_10 : decode b_Pic_becomeFine 10 = .ok (.imul, 1) := by decide +kernel
theorem d_Pic_becomeFine_11 : decode b_Pic_becomeFine 11 = .ok (.iadd, 1) := by decide +kernel
theorem d_Pic_becomeFine_12 : decode b_Pic_becomeFine 12 = .ok (.aload_n 0, 1) := by decide +kernel
theorem d_Pic_becomeFine_13 : decode b_Pic_becomeFine 13 = .ok (.getfield 23, 3) := by decide +kernel
theorem d_Pic_becomeFine_16 : decode b_Pic_becomeFine 16 = .ok (.iconst 1, 1) := by decide +kernel
theorem d_Pic_becomeFine_17 : decode b_Pic_becomeFine 17 = .ok (.iadd, 1) := by decide +kernel
theorem d_Pic_becomeFine_18 : decode b_Pic_becomeFine 18 = .ok (.invokevirtual 54, 3) := by decide +kernel
theorem d_Pic_becomeFine_21 : decode b_Pic_becomeFine 21 = .ok (.putfield 57, 3) := by decide +kernel
theorem d_Pic_becomeFine_24 : decode b_Pic_becomeFine 24 = .ok (.aload_n 0, 1) := by decide +kernel
theorem d_Pic_becomeFine_25 : decode b_Pic_becomeFine 25 = .ok (.aload_n 0, 1) := by decide +kernel
theorem d_Pic_becomeFine_26 : decode b_Pic_becomeFine 26 = .ok (.iconst 4, 1) := by decide +kernel
theorem d_Pic_becomeFine_27 : decode b_Pic_becomeFine 27 = .ok (.iload_n 1, 1) := by decide +kernel
theorem d_Pic_becomeFine_28 : decode b_Pic_becomeFine 28 = .ok (.imul, 1) := by decide +kernel
theorem d_Pic_becomeFine_29 : decode b_Pic_becomeFine 29 = .ok (.iconst 3, 1) := by decide +kernel
theorem d_Pic_becomeFine_30 : decode b_Pic_becomeFine 30 = .ok (.iadd, 1) := by decide +kernel
theorem d_Pic_becomeFine_31 : decode b_Pic_becomeFine 31 = .ok (.iconst 5, 1) := by decide +kernel
theorem d_Pic_becomeFine_32 : decode b_Pic_becomeFine 32 = .ok (.aload_n 0, 1) := by decide +kernel
theorem d_Pic_becomeFine_33 : decode b_Pic_becomeFine 33 = .ok (.getfield 23, 3) := by decide +kernel
theorem d_Pic_becomeFine_36 : decode b_Pic_becomeFine 36 = .ok (.imul, 1) := by decide +kernel
theorem d_Pic_becomeFine_37 : decode b_Pic_becomeFine 37 = .ok (.iadd, 1) := by decide +kernel
theorem d_Pic_becomeFine_38 : decode b_Pic_becomeFine 38 = .ok (.aload_n 0, 1) := by decide +kernel
theorem d_Pic_becomeFine_39 : decode b_Pic_becomeFine 39 = .ok (.getfield 57, 3) := by decide +kernel
theorem d_Pic_becomeFine_42 : decode b_Pic_becomeFine 42 = .ok (.invokevirtual 54, 3) := by decide +kernel
theorem d_Pic_becomeFine_45 : decode b_Pic_becomeFine 45 = .ok (.putfield 60, 3) := by decide +kernel
theorem d_Pic_becomeFine_48 : decode b_Pic_becomeFine 48 = .ok (.aload_n 0, 1) := by decide +kernel
theorem d_Pic_becomeFine_49 : decode b_Pic_becomeFine 49 = .ok (.aload_n 0, 1) := by decide +kernel
theorem d_Pic_becomeFine_50 : decode b_Pic_becomeFine 50 = .ok (.bipush 17, 2) := by decide +kernel
theorem d_Pic_becomeFine_52 : decode b_Pic_becomeFine 52 = .ok (.iload_n 1, 1) := by decide +kernel
theorem d_Pic_becomeFine_53 : decode b_Pic_becomeFine 53 = .ok (.imul, 1) := by decide +kernel
theorem d_Pic_becomeFine_54 : decode b_Pic_becomeFine 54 = .ok (.iconst 4, 1) := by decide +kernel
theorem d_Pic_becomeFine_55 : decode b_Pic_becomeFine 55 = .ok (.iadd, 1) := by decide +kernel
theorem d_Pic_becomeFine_56 : decode b_Pic_becomeFine 56 = .ok (.bipush 7, 2) := by decide +kernel
theorem d_Pic_becomeFine_58 : decode b_Pic_becomeFine 58 = .ok (.aload_n 0, 1) := by decide +kernel
theorem d_Pic_becomeFine_59 : decode b_Pic_becomeFine 59 = .ok (.getfield 23, 3) := by decide +kernel
theorem d_Pic_becomeFine_62 : decode b_Pic_becomeFine 62 = .ok (.imul, 1) := by decide +kernel
theorem d_Pic_becomeFine_63 : decode b_Pic_becomeFine 63 = .ok (.iadd, 1) := by decide +kernel
theorem d_Pic_becomeFine_64 : decode b_Pic_becomeFine 64 = .ok (.aload_n 0, 1) := by decide +kernel
theorem d_Pic_becomeFine_65 : decode b_Pic_becomeFine 65 = .ok (.getfield 60, 3) := by decide +kernel
theorem d_Pic_becomeFine_68 : decode b_Pic_becomeFine 68 = .ok (.invokevirtual 54, 3) := by decide +kernel
theorem d_Pic_becomeFine_71 : decode b_Pic_becomeFine 71 = .ok (.putfield 63, 3) := by decide +kernel
theorem d_Pic_becomeFine_74 : decode b_Pic_becomeFine 74 = .ok (.return_, 1) := by decide +kernel
theorem d_Pic_bounded_0 : decode b_Pic_bounded 0 = .ok (.iconst 0, 1) := by decide +kernel
theorem d_Pic_bounded_1 : decode b_Pic_bounded 1 = .ok (.aload_n 0, 1) := by decide +kernel
theorem d_Pic_bounded_2 : decode b_Pic_bounded 2 = .ok (.getfield 20, 3) := by decide +kernel
theorem d_Pic_bounded_5 : decode b_Pic_bounded 5 = .ok (.iload_n 1, 1) := by decide +kernel
theorem d_Pic_bounded_6 : decode b_Pic_bounded 6 = .ok (.invokestatic 66, 3) := by decide +kernel
theorem d_Pic_bounded_9 : decode b_Pic_bounded 9 = .ok (.invokestatic 39, 3) := by decide +kernel
theorem d_Pic_bounded_12 : decode b_Pic_bounded 12 = .ok (.ireturn, 1) := by decide +kernel
theorem d_Pic_clamp_0 : decode b_Pic_clamp 0 = .ok (.iload_n 1, 1) := by decide +kernel
theorem d_Pic_clamp_1 : decode b_Pic_clamp 1 = .ok (.aload_n 0, 1) := by decide +kernel
theorem d_Pic_clamp_2 : decode b_Pic_clamp 2 = .ok (.getfield 20, 3) := by decide +kernel
theorem d_Pic_clamp_5 : decode b_Pic_clamp 5 = .ok (.if_icmp .gt 8, 3) := by decide +kernel
theorem d_Pic_clamp_8 : decode b_Pic_clamp 8 = .ok (.iload_n 1, 1) := by decide +kernel
theorem d_Pic_clamp_9 : decode b_Pic_clamp 9 = .ok (.iload_n 2, 1) := by decide +kernel
theorem d_Pic_clamp_10 : decode b_Pic_clamp 10 = .ok (.if_icmp .ge 7, 3) := by decide +kernel
theorem d_Pic_clamp_13 : decode b_Pic_clamp 13 = .ok (.iload_n 2, 1) := by decide +kernel
theorem d_Pic_clamp_14 : decode b_Pic_clamp 14 = .ok (.goto 4, 3) := by decide +kernel
theorem d_Pic_clamp_17 : decode b_Pic_clamp 17 = .ok (.iload_n 1, 1) := by decide +kernel
theorem d_Pic_clamp_18 : decode b_Pic_clamp 18 = .ok (.ireturn, 1) := by decide +kernel
theorem d_Pic_divided_0 : decode b_Pic_divided 0 = .ok (.iload_n 1, 1) := by decide +kernel
theorem d_Pic_divided_1 : decode b_Pic_divided 1 = .ok (.ifCond .le 17, 3) := by decide +kernel
theorem d_Pic_divided_4 : decode b_Pic_divided 4 = .ok (.iload_n 1, 1) := by decide +kernel
theorem d_Pic_divided_5 : decode b_Pic_divided 5 = .ok (.aload_n 0, 1) := by decide +kernel
theorem d_Pic_divided_6 : decode b_Pic_divided 6 = .ok (.getfield 23, 3) := by decide +kernel
theorem d_Pic_divided_9 : decode b_Pic_divided 9 = .ok (.iadd, 1) := by decide +kernel
theorem d_Pic_divided_10 : decode b_Pic_divided 10 = .ok (.aload_n 0, 1) := by decide +kernel
theorem d_Pic_divided_11 : decode b_Pic_divided 11 = .ok (.getfield 26, 3) := by decide +kernel
theorem d_Pic_divided_14 : decode b_Pic_divided 14 = .ok (.idiv, 1) := by decide +kernel
theorem d_Pic_divided_15 : decode b_Pic_divided 15 = .ok (.goto 15, 3) := by decide +kernel
theorem d_Pic_divided_18 : decode b_Pic_divided 18 = .ok (.aload_n 0, 1) := by decide +kernel
theorem d_Pic_divided_19 : decode b_Pic_divided 19 = .ok (.getfield 23, 3) := by decide +kernel
theorem d_Pic_divided_22 : decode b_Pic_divided 22 = .ok (.iload_n 1, 1) := by decide +kernel
theorem d_Pic_divided_23 : decode b_Pic_divided 23 = .ok (.isub, 1) := by decide +kernel
theorem d_Pic_divided_24 : decode b_Pic_divided 24 = .ok (.aload_n 0, 1) := by decide +kernel
theorem d_Pic_divided_25 : decode b_Pic_divided 25 = .ok (.getfield 26, 3) := by decide +kernel
theorem d_Pic_divided_28 : decode b_Pic_divided 28 = .ok (.idiv, 1) := by decide +kernel
theorem d_Pic_divided_29 : decode b_Pic_divided 29 = .ok (.ineg, 1) := by decide +kernel
theorem d_Pic_divided_30 : decode b_Pic_divided 30 = .ok (.ireturn, 1) := by decide +kernel
theorem d_Pic_fits_0 : decode b_Pic_fits 0 = .ok (.iload_n 0, 1) := by decide +kernel
theorem d_Pic_fits_1 : decode b_Pic_fits 1 = .ok (.iconst 1, 1) := by decide +kernel
theorem d_Pic_fits_2 : decode b_Pic_fits 2 = .ok (.if_icmp .lt 52, 3) := by decide +kernel
theorem d_Pic_fits_5 : decode b_Pic_fits 5 = .ok (.iload_n 0, 1) := by decide +kernel
theorem d_Pic_fits_6 : decode b_Pic_fits 6 = .ok (.bipush 8, 2) := by decide +kernel
theorem d_Pic_fits_8 : decode b_Pic_fits 8 = .ok (.if_icmp .gt 46, 3) := by decide +kernel
theorem d_Pic_fits_11 : decode b_Pic_fits 11 = .ok (.iload_n 1, 1) := by decide +kernel
theorem d_Pic_fits_12 : decode b_Pic_fits 12 = .ok (.iconst 1, 1) := by decide +kernel
theorem d_Pic_fits_13 : decode b_Pic_fits 13 = .ok (.if_icmp .lt 41, 3) := by decide +kernel
theorem d_Pic_fits_16 : decode b_Pic_fits 16 = .ok (.iload_n 1, 1) := by decide +kernel
theorem d_Pic_fits_17 : decode b_Pic_fits 17 = .ok (.bipush 8, 2) := by decide +kernel
theorem d_Pic_fits_19 : decode b_Pic_fits 19 = .ok (.if_icmp .gt 35, 3) := by decide +kernel
theorem d_Pic_fits_22 : decode b_Pic_fits 22 = .ok (.iload_n 2, 1) := by decide +kernel
theorem d_Pic_fits_23 : decode b_Pic_fits 23 = .ok (.iconst 3, 1) := by decide +kernel
theorem d_Pic_fits_24 : decode b_Pic_fits 24 = .ok (.if_icmp .lt 30, 3) := by decide +kernel
theorem d_Pic_fits_27 : decode b_Pic_fits 27 = .ok (.iload_n 2, 1) := by decide +kernel
theorem d_Pic_fits_28 : decode b_Pic_fits 28 = .ok (.sipush 255, 3) := by decide +kernel
theorem d_Pic_fits_31 : decode b_Pic_fits 31 = .ok (.if_icmp .gt 23, 3) := by decide +kernel
theorem d_Pic_fits_34 : decode b_Pic_fits 34 = .ok (.iload_n 3, 1) := by decide +kernel
theorem d_Pic_fits_35 : decode b_Pic_fits 35 = .ok (.ifCond .lt 19, 3) := by decide +kernel
theorem d_Pic_fits_38 : decode b_Pic_fits 38 = .ok (.iload_n 3, 1) := by decide +kernel
theorem d_Pic_fits_39 : decode b_Pic_fits 39 = .ok (.iconst 3, 1) := by decide +kernel
theorem d_Pic_fits_40 : decode b_Pic_fits 40 = .ok (.if_icmp .gt 14, 3) := by decide +kernel
theorem d_Pic_fits_43 : decode b_Pic_fits 43 = .ok (.iload_n 3, 1) := by decide +kernel
theorem d_Pic_fits_44 : decode b_Pic_fits 44 = .ok (.iload_n 2, 1) := by decide +kernel
theorem d_Pic_fits_45 : decode b_Pic_fits 45 = .ok (.iconst 2, 1) := by decide +kernel
theorem d_Pic_fits_46 : decode b_Pic_fits 46 = .ok (.idiv, 1) := by decide +kernel
theorem d_Pic_fits_47 : decode b_Pic_fits 47 = .ok (.if_icmp .gt 7, 3) := by decide +kernel
theorem d_Pic_fits_50 : decode b_Pic_fits 50 = .ok (.iconst 1, 1) := by decide +kernel
theorem d_Pic_fits_51 : decode b_Pic_fits 51 = .ok (.goto 4, 3) := by decide +kernel
theorem d_Pic_fits_54 : decode b_Pic_fits 54 = .ok (.iconst 0, 1) := by decide +kernel
theorem d_Pic_fits_55 : decode b_Pic_fits 55 = .ok (.ireturn, 1) := by decide +kernel
theorem d_Pic_hasPlace_0 : decode b_Pic_hasPlace 0 = .ok (.iload_n 1, 1) := by decide +kernel
theorem d_Pic_hasPlace_1 : decode b_Pic_hasPlace 1 = .ok (.ifCond .lt 27, 3) := by decide +kernel
theorem d_Pic_hasPlace_4 : decode b_Pic_hasPlace 4 = .ok (.iload_n 1, 1) := by decide +kernel
theorem d_Pic_hasPlace_5 : decode b_Pic_hasPlace 5 = .ok (.aload_n 0, 1) := by decide +kernel
theorem d_Pic_hasPlace_6 : decode b_Pic_hasPlace 6 = .ok (.getfield 13, 3) := by decide +kernel
theorem d_Pic_hasPlace_9 : decode b_Pic_hasPlace 9 = .ok (.if_icmp .ge 19, 3) := by decide +kernel
theorem d_Pic_hasPlace_12 : decode b_Pic_hasPlace 12 = .ok (.iload_n 2, 1) := by decide +kernel
theorem d_Pic_hasPlace_13 : decode b_Pic_hasPlace 13 = .ok (.ifCond .lt 15, 3) := by decide +kernel
theorem d_Pic_hasPlace_16 : decode b_Pic_hasPlace 16 = .ok (.iload_n 2, 1) := by decide +kernel
theorem d_Pic_hasPlace_17 : decode b_Pic_hasPlace 17 = .ok (.aload_n 0, 1) := by decide +kernel
theorem d_Pic_hasPlace_18 : decode b_Pic_hasPlace 18 = .ok (.getfield 17, 3) := by decide +kernel
theorem d_Pic_hasPlace_21 : decode b_Pic_hasPlace 21 = .ok (.if_icmp .ge 7, 3) := by decide +kernel
theorem d_Pic_hasPlace_24 : decode b_Pic_hasPlace 24 = .ok (.iconst 1, 1) := by decide +kernel
theorem d_Pic_hasPlace_25 : decode b_Pic_hasPlace 25 = .ok (.goto 4, 3) := by decide +kernel
theorem d_Pic_hasPlace_28 : decode b_Pic_hasPlace 28 = .ok (.iconst 0, 1) := by decide +kernel
theorem d_Pic_hasPlace_29 : decode b_Pic_hasPlace 29 = .ok (.ireturn, 1) := by decide +kernel
theorem d_Pic_init_0 : decode b_Pic_init 0 = .ok (.aload_n 0, 1) := by decide +kernel
theorem d_Pic_init_1 : decode b_Pic_init 1 = .ok (.invokespecial 3, 3) := by decide +kernel
theorem d_Pic_init_4 : decode b_Pic_init 4 = .ok (.aload_n 0, 1) := by decide +kernel
theorem d_Pic_init_5 : decode b_Pic_init 5 = .ok (.iconst 1, 1) := by decide +kernel
theorem d_Pic_init_6 : decode b_Pic_init 6 = .ok (.iconst 1, 1) := by decide +kernel
theorem d_Pic_init_7 : decode b_Pic_init 7 = .ok (.sipush 255, 3) := by decide +kernel
theorem d_Pic_init_10 : decode b_Pic_init 10 = .ok (.iconst 0, 1) := by decide +kernel
theorem d_Pic_init_11 : decode b_Pic_init 11 = .ok (.invokevirtual 9, 3) := by decide +kernel
theorem d_Pic_init_14 : decode b_Pic_init 14 = .ok (.return_, 1) := by decide +kernel
theorem d_Pic_isNear_0 : decode b_Pic_isNear 0 = .ok (.iload_n 1, 1) := by decide +kernel
theorem d_Pic_isNear_1 : decode b_Pic_isNear 1 = .ok (.aload_n 0, 1) := by decide +kernel
theorem d_Pic_isNear_2 : decode b_Pic_isNear 2 = .ok (.getfield 23, 3) := by decide +kernel
theorem d_Pic_isNear_5 : decode b_Pic_isNear 5 = .ok (.ineg, 1) := by decide +kernel
theorem d_Pic_isNear_6 : decode b_Pic_isNear 6 = .ok (.if_icmp .lt 15, 3) := by decide +kernel
theorem d_Pic_isNear_9 : decode b_Pic_isNear 9 = .ok (.iload_n 1, 1) := by decide +kernel
theorem d_Pic_isNear_10 : decode b_Pic_isNear 10 = .ok (.aload_n 0, 1) := by decide +kernel
theorem d_Pic_isNear_11 : decode b_Pic_isNear 11 = .ok (.getfield 23, 3) := by decide +kernel
theorem d_Pic_isNear_14 : decode b_Pic_isNear 14 = .ok (.if_icmp .gt 7, 3) := by decide +kernel
theorem d_Pic_isNear_17 : decode b_Pic_isNear 17 = .ok (.iconst 1, 1) := by decide +kernel
theorem d_Pic_isNear_18 : decode b_Pic_isNear 18 = .ok (.goto 4, 3) := by decide +kernel
theorem d_Pic_isNear_21 : decode b_Pic_isNear 21 = .ok (.iconst 0, 1) := by decide +kernel
theorem d_Pic_isNear_22 : decode b_Pic_isNear 22 = .ok (.ireturn, 1) := by decide +kernel
theorem d_Pic_isReduced_0 : decode b_Pic_isReduced 0 = .ok (.iload_n 1, 1) := by decide +kernel
theorem d_Pic_isReduced_1 : decode b_Pic_isReduced 1 = .ok (.aload_n 0, 1) := by decide +kernel
theorem d_Pic_isReduced_2 : decode b_Pic_isReduced 2 = .ok (.getfield 29, 3) := by decide +kernel
theorem d_Pic_isReduced_5 : decode b_Pic_isReduced 5 = .ok (.iconst 2, 1) := by decide +kernel
theorem d_Pic_isReduced_6 : decode b_Pic_isReduced 6 = .ok (.idiv, 1) := by decide +kernel
theorem d_Pic_isReduced_7 : decode b_Pic_isReduced 7 = .ok (.ineg, 1) := by decide +kernel
theorem d_Pic_isReduced_8 : decode b_Pic_isReduced 8 = .ok (.if_icmp .lt 19, 3) := by decide +kernel
theorem d_Pic_isReduced_11 : decode b_Pic_isReduced 11 = .ok (.iload_n 1, 1) := by decide +kernel
theorem d_Pic_isReduced_12 : decode b_Pic_isReduced 12 = .ok (.aload_n 0, 1) := by decide +kernel
theorem d_Pic_isReduced_13 : decode b_Pic_isReduced 13 = .ok (.getfield 29, 3) := by decide +kernel
theorem d_Pic_isReduced_16 : decode b_Pic_isReduced 16 = .ok (.iconst 1, 1) := by decide +kernel
theorem d_Pic_isReduced_17 : decode b_Pic_isReduced 17 = .ok (.iadd, 1) := by decide +kernel
theorem d_Pic_isReduced_18 : decode b_Pic_isReduced 18 = .ok (.iconst 2, 1) := by decide +kernel
theorem d_Pic_isReduced_19 : decode b_Pic_isReduced 19 = .ok (.idiv, 1) := by decide +kernel
theorem d_Pic_isReduced_20 : decode b_Pic_isReduced 20 = .ok (.if_icmp .ge 7, 3) := by decide +kernel
theorem d_Pic_isReduced_23 : decode b_Pic_isReduced 23 = .ok (.iconst 1, 1) := by decide +kernel
theorem d_Pic_isReduced_24 : decode b_Pic_isReduced 24 = .ok (.goto 4, 3) := by decide +kernel
theorem d_Pic_isReduced_27 : decode b_Pic_isReduced 27 = .ok (.iconst 0, 1) := by decide +kernel
theorem d_Pic_isReduced_28 : decode b_Pic_isReduced 28 = .ok (.ireturn, 1) := by decide +kernel
theorem d_Pic_leastPower_0 : decode b_Pic_leastPower 0 = .ok (.iload_n 0, 1) := by decide +kernel
theorem d_Pic_leastPower_1 : decode b_Pic_leastPower 1 = .ok (.istore_n 2, 1) := by decide +kernel
theorem d_Pic_leastPower_2 : decode b_Pic_leastPower 2 = .ok (.iload_n 2, 1) := by decide +kernel
theorem d_Pic_leastPower_3 : decode b_Pic_leastPower 3 = .ok (.bipush 30, 2) := by decide +kernel
theorem d_Pic_leastPower_5 : decode b_Pic_leastPower 5 = .ok (.if_icmp .ge 16, 3) := by decide +kernel
theorem d_Pic_leastPower_8 : decode b_Pic_leastPower 8 = .ok (.iconst 1, 1) := by decide +kernel
theorem d_Pic_leastPower_9 : decode b_Pic_leastPower 9 = .ok (.iload_n 2, 1) := by decide +kernel
theorem d_Pic_leastPower_10 : decode b_Pic_leastPower 10 = .ok (.ishl, 1) := by decide +kernel
theorem d_Pic_leastPower_11 : decode b_Pic_leastPower 11 = .ok (.iload_n 1, 1) := by decide +kernel
theorem d_Pic_leastPower_12 : decode b_Pic_leastPower 12 = .ok (.if_icmp .ge 9, 3) := by decide +kernel
theorem d_Pic_leastPower_15 : decode b_Pic_leastPower 15 = .ok (.iinc 2 1, 3) := by decide +kernel
theorem d_Pic_leastPower_18 : decode b_Pic_leastPower 18 = .ok (.goto (-16), 3) := by decide +kernel
theorem d_Pic_leastPower_21 : decode b_Pic_leastPower 21 = .ok (.iload_n 2, 1) := by decide +kernel
theorem d_Pic_leastPower_22 : decode b_Pic_leastPower 22 = .ok (.ireturn, 1) := by decide +kernel
theorem d_Pic_level_0 : decode b_Pic_level 0 = .ok (.iload_n 1, 1) := by decide +kernel
theorem d_Pic_level_1 : decode b_Pic_level 1 = .ok (.aload_n 0, 1) := by decide +kernel
theorem d_Pic_level_2 : decode b_Pic_level 2 = .ok (.getfield 63, 3) := by decide +kernel
theorem d_Pic_level_5 : decode b_Pic_level 5 = .ok (.ineg, 1) := by decide +kernel
theorem d_Pic_level_6 : decode b_Pic_level 6 = .ok (.if_icmp .gt 6, 3) := by decide +kernel
theorem d_Pic_level_9 : decode b_Pic_level 9 = .ok (.bipush (-4), 2) := by decide +kernel
theorem d_Pic_level_11 : decode b_Pic_level 11 = .ok (.ireturn, 1) := by decide +kernel
theorem d_Pic_level_12 : decode b_Pic_level 12 = .ok (.iload_n 1, 1) := by decide +kernel
theorem d_Pic_level_13 : decode b_Pic_level 13 = .ok (.aload_n 0, 1) := by decide +kernel
theorem d_Pic_level_14 : decode b_Pic_level 14 = .ok (.getfield 60, 3) := by decide +kernel
theorem d_Pic_level_17 : decode b_Pic_level 17 = .ok (.ineg, 1) := by decide +kernel
theorem d_Pic_level_18 : decode b_Pic_level 18 = .ok (.if_icmp .gt 6, 3) := by decide +kernel
theorem d_Pic_level_21 : decode b_Pic_level 21 = .ok (.bipush (-3), 2) := by decide +kernel
theorem d_Pic_level_23 : decode b_Pic_level 23 = .ok (.ireturn, 1) := by decide +kernel
theorem d_Pic_level_24 : decode b_Pic_level 24 = .ok (.iload_n 1, 1) := by decide +kernel
theorem d_Pic_level_25 : decode b_Pic_level 25 = .ok (.aload_n 0, 1) := by decide +kernel
theorem d_Pic_level_26 : decode b_Pic_level 26 = .ok (.getfield 57, 3) := by decide +kernel
theorem d_Pic_level_29 : decode b_Pic_level 29 = .ok (.ineg, 1) := by decide +kernel
theorem d_Pic_level_30 : decode b_Pic_level 30 = .ok (.if_icmp .gt 6, 3) := by decide +kernel
theorem d_Pic_level_33 : decode b_Pic_level 33 = .ok (.bipush (-2), 2) := by decide +kernel
theorem d_Pic_level_35 : decode b_Pic_level 35 = .ok (.ireturn, 1) := by decide +kernel
theorem d_Pic_level_36 : decode b_Pic_level 36 = .ok (.iload_n 1, 1) := by decide +kernel
theorem d_Pic_level_37 : decode b_Pic_level 37 = .ok (.aload_n 0, 1) := by decide +kernel
theorem d_Pic_level_38 : decode b_Pic_level 38 = .ok (.getfield 23, 3) := by decide +kernel
theorem d_Pic_level_41 : decode b_Pic_level 41 = .ok (.ineg, 1) := by decide +kernel
theorem d_Pic_level_42 : decode b_Pic_level 42 = .ok (.if_icmp .ge 5, 3) := by decide +kernel
theorem d_Pic_level_45 : decode b_Pic_level 45 = .ok (.iconst (-1), 1) := by decide +kernel
theorem d_Pic_level_46 : decode b_Pic_level 46 = .ok (.ireturn, 1) := by decide +kernel
theorem d_Pic_level_47 : decode b_Pic_level 47 = .ok (.iload_n 1, 1) := by decide +kernel
theorem d_Pic_level_48 : decode b_Pic_level 48 = .ok (.aload_n 0, 1) := by decide +kernel
theorem d_Pic_level_49 : decode b_Pic_level 49 = .ok (.getfield 23, 3) := by decide +kernel
theorem d_Pic_level_52 : decode b_Pic_level 52 = .ok (.if_icmp .gt 5, 3) := by decide +kernel
theorem d_Pic_level_55 : decode b_Pic_level 55 = .ok (.iconst 0, 1) := by decide +kernel
theorem d_Pic_level_56 : decode b_Pic_level 56 = .ok (.ireturn, 1) := by decide +kernel
theorem d_Pic_level_57 : decode b_Pic_level 57 = .ok (.iload_n 1, 1) := by decide +kernel
theorem d_Pic_level_58 : decode b_Pic_level 58 = .ok (.aload_n 0, 1) := by decide +kernel
theorem d_Pic_level_59 : decode b_Pic_level 59 = .ok (.getfield 57, 3) := by decide +kernel
theorem d_Pic_level_62 : decode b_Pic_level 62 = .ok (.if_icmp .ge 5, 3) := by decide +kernel
theorem d_Pic_level_65 : decode b_Pic_level 65 = .ok (.iconst 1, 1) := by decide +kernel
theorem d_Pic_level_66 : decode b_Pic_level 66 = .ok (.ireturn, 1) := by decide +kernel
theorem d_Pic_level_67 : decode b_Pic_level 67 = .ok (.iload_n 1, 1) := by decide +kernel
theorem d_Pic_level_68 : decode b_Pic_level 68 = .ok (.aload_n 0, 1) := by decide +kernel
theorem d_Pic_level_69 : decode b_Pic_level 69 = .ok (.getfield 60, 3) := by decide +kernel
theorem d_Pic_level_72 : decode b_Pic_level 72 = .ok (.if_icmp .ge 5, 3) := by decide +kernel
theorem d_Pic_level_75 : decode b_Pic_level 75 = .ok (.iconst 2, 1) := by decide +kernel
theorem d_Pic_level_76 : decode b_Pic_level 76 = .ok (.ireturn, 1) := by decide +kernel
theorem d_Pic_level_77 : decode b_Pic_level 77 = .ok (.iload_n 1, 1) := by decide +kernel
theorem d_Pic_level_78 : decode b_Pic_level 78 = .ok (.aload_n 0, 1) := by decide +kernel
theorem d_Pic_level_79 : decode b_Pic_level 79 = .ok (.getfield 63, 3) := by decide +kernel
theorem d_Pic_level_82 : decode b_Pic_level 82 = .ok (.if_icmp .ge 5, 3) := by decide +kernel
theorem d_Pic_level_85 : decode b_Pic_level 85 = .ok (.iconst 3, 1) := by decide +kernel
theorem d_Pic_level_86 : decode b_Pic_level 86 = .ok (.ireturn, 1) := by decide +kernel
theorem d_Pic_level_87 : decode b_Pic_level 87 = .ok (.iconst 4, 1) := by decide +kernel
theorem d_Pic_level_88 : decode b_Pic_level 88 = .ok (.ireturn, 1) := by decide +kernel
theorem d_Pic_place_0 : decode b_Pic_place 0 = .ok (.iload_n 1, 1) := by decide +kernel
theorem d_Pic_place_1 : decode b_Pic_place 1 = .ok (.bipush 8, 2) := by decide +kernel
theorem d_Pic_place_3 : decode b_Pic_place 3 = .ok (.imul, 1) := by decide +kernel
theorem d_Pic_place_4 : decode b_Pic_place 4 = .ok (.iload_n 0, 1) := by decide +kernel
theorem d_Pic_place_5 : decode b_Pic_place 5 = .ok (.iadd, 1) := by decide +kernel
theorem d_Pic_place_6 : decode b_Pic_place 6 = .ok (.ireturn, 1) := by decide +kernel
theorem d_Pic_reduced_0 : decode b_Pic_reduced 0 = .ok (.iload_n 1, 1) := by decide +kernel
theorem d_Pic_reduced_1 : decode b_Pic_reduced 1 = .ok (.ifCond .ge 12, 3) := by decide +kernel
theorem d_Pic_reduced_4 : decode b_Pic_reduced 4 = .ok (.iload_n 1, 1) := by decide +kernel
theorem d_Pic_reduced_5 : decode b_Pic_reduced 5 = .ok (.aload_n 0, 1) := by decide +kernel
theorem d_Pic_reduced_6 : decode b_Pic_reduced 6 = .ok (.getfield 29, 3) := by decide +kernel
theorem d_Pic_reduced_9 : decode b_Pic_reduced 9 = .ok (.iadd, 1) := by decide +kernel
theorem d_Pic_reduced_10 : decode b_Pic_reduced 10 = .ok (.goto 4, 3) := by decide +kernel
theorem d_Pic_reduced_13 : decode b_Pic_reduced 13 = .ok (.iload_n 1, 1) := by decide +kernel
theorem d_Pic_reduced_14 : decode b_Pic_reduced 14 = .ok (.istore_n 2, 1) := by decide +kernel
theorem d_Pic_reduced_15 : decode b_Pic_reduced 15 = .ok (.iload_n 2, 1) := by decide +kernel
theorem d_Pic_reduced_16 : decode b_Pic_reduced 16 = .ok (.aload_n 0, 1) := by decide +kernel
theorem d_Pic_reduced_17 : decode b_Pic_reduced 17 = .ok (.getfield 29, 3) := by decide +kernel
theorem d_Pic_reduced_20 : decode b_Pic_reduced 20 = .ok (.iconst 1, 1) := by decide +kernel
theorem d_Pic_reduced_21 : decode b_Pic_reduced 21 = .ok (.iadd, 1) := by decide +kernel
theorem d_Pic_reduced_22 : decode b_Pic_reduced 22 = .ok (.iconst 2, 1) := by decide +kernel
theorem d_Pic_reduced_23 : decode b_Pic_reduced 23 = .ok (.idiv, 1) := by decide +kernel
theorem d_Pic_reduced_24 : decode b_Pic_reduced 24 = .ok (.if_icmp .lt 12, 3) := by decide +kernel
theorem d_Pic_reduced_27 : decode b_Pic_reduced 27 = .ok (.iload_n 2, 1) := by decide +kernel
theorem d_Pic_reduced_28 : decode b_Pic_reduced 28 = .ok (.aload_n 0, 1) := by decide +kernel
theorem d_Pic_reduced_29 : decode b_Pic_reduced 29 = .ok (.getfield 29, 3) := by decide +kernel
theorem d_Pic_reduced_32 : decode b_Pic_reduced 32 = .ok (.isub, 1) := by decide +kernel
theorem d_Pic_reduced_33 : decode b_Pic_reduced 33 = .ok (.goto 4, 3) := by decide +kernel
theorem d_Pic_reduced_36 : decode b_Pic_reduced 36 = .ok (.iload_n 2, 1) := by decide +kernel
theorem d_Pic_reduced_37 : decode b_Pic_reduced 37 = .ok (.ireturn, 1) := by decide +kernel
theorem d_Pic_unreduced_0 : decode b_Pic_unreduced 0 = .ok (.iload_n 1, 1) := by decide +kernel
theorem d_Pic_unreduced_1 : decode b_Pic_unreduced 1 = .ok (.aload_n 0, 1) := by decide +kernel
theorem d_Pic_unreduced_2 : decode b_Pic_unreduced 2 = .ok (.getfield 23, 3) := by decide +kernel
theorem d_Pic_unreduced_5 : decode b_Pic_unreduced 5 = .ok (.ineg, 1) := by decide +kernel
theorem d_Pic_unreduced_6 : decode b_Pic_unreduced 6 = .ok (.if_icmp .ge 15, 3) := by decide +kernel
theorem d_Pic_unreduced_9 : decode b_Pic_unreduced 9 = .ok (.iload_n 1, 1) := by decide +kernel
theorem d_Pic_unreduced_10 : decode b_Pic_unreduced 10 = .ok (.aload_n 0, 1) := by decide +kernel
theorem d_Pic_unreduced_11 : decode b_Pic_unreduced 11 = .ok (.getfield 29, 3) := by decide +kernel
theorem d_Pic_unreduced_14 : decode b_Pic_unreduced 14 = .ok (.aload_n 0, 1) := by decide +kernel
theorem d_Pic_unreduced_15 : decode b_Pic_unreduced 15 = .ok (.getfield 26, 3) := by decide +kernel
theorem d_Pic_unreduced_18 : decode b_Pic_unreduced 18 = .ok (.imul, 1) := by decide +kernel
theorem d_Pic_unreduced_19 : decode b_Pic_unreduced 19 = .ok (.iadd, 1) := by decide +kernel
theorem d_Pic_unreduced_20 : decode b_Pic_unreduced 20 = .ok (.ireturn, 1) := by decide +kernel
theorem d_Pic_unreduced_21 : decode b_Pic_unreduced 21 = .ok (.iload_n 1, 1) := by decide +kernel
theorem d_Pic_unreduced_22 : decode b_Pic_unreduced 22 = .ok (.aload_n 0, 1) := by decide +kernel
theorem d_Pic_unreduced_23 : decode b_Pic_unreduced 23 = .ok (.getfield 20, 3) := by decide +kernel
theorem d_Pic_unreduced_26 : decode b_Pic_unreduced 26 = .ok (.aload_n 0, 1) := by decide +kernel
theorem d_Pic_unreduced_27 : decode b_Pic_unreduced 27 = .ok (.getfield 23, 3) := by decide +kernel
theorem d_Pic_unreduced_30 : decode b_Pic_unreduced 30 = .ok (.iadd, 1) := by decide +kernel
theorem d_Pic_unreduced_31 : decode b_Pic_unreduced 31 = .ok (.if_icmp .le 17, 3) := by decide +kernel
theorem d_Pic_unreduced_34 : decode b_Pic_unreduced 34 = .ok (.iload_n 1, 1) := by decide +kernel
theorem d_Pic_unreduced_35 : decode b_Pic_unreduced 35 = .ok (.aload_n 0, 1) := by decide +kernel
theorem d_Pic_unreduced_36 : decode b_Pic_unreduced 36 = .ok (.getfield 29, 3) := by decide +kernel
theorem d_Pic_unreduced_39 : decode b_Pic_unreduced 39 = .ok (.aload_n 0, 1) := by decide +kernel
theorem d_Pic_unreduced_40 : decode b_Pic_unreduced 40 = .ok (.getfield 26, 3) := by decide +kernel
theorem d_Pic_unreduced_43 : decode b_Pic_unreduced 43 = .ok (.imul, 1) := by decide +kernel
theorem d_Pic_unreduced_44 : decode b_Pic_unreduced 44 = .ok (.isub, 1) := by decide +kernel
theorem d_Pic_unreduced_45 : decode b_Pic_unreduced 45 = .ok (.goto 4, 3) := by decide +kernel
theorem d_Pic_unreduced_48 : decode b_Pic_unreduced 48 = .ok (.iload_n 1, 1) := by decide +kernel
theorem d_Pic_unreduced_49 : decode b_Pic_unreduced 49 = .ok (.ireturn, 1) := by decide +kernel
theorem d_Rdg_carryEnd_0 : decode b_Rdg_carryEnd 0 = .ok (.aload_n 0, 1) := by decide +kernel
theorem d_Rdg_carryEnd_1 : decode b_Rdg_carryEnd 1 = .ok (.getfield 10, 3) := by decide +kernel
theorem d_Rdg_carryEnd_4 : decode b_Rdg_carryEnd 4 = .ok (.iload_n 3, 1) := by decide +kernel
theorem d_Rdg_carryEnd_5 : decode b_Rdg_carryEnd 5 = .ok (.aload_n 0, 1) := by decide +kernel
theorem d_Rdg_carryEnd_6 : decode b_Rdg_carryEnd 6 = .ok (.invokevirtual 100, 3) := by decide +kernel
theorem d_Rdg_carryEnd_9 : decode b_Rdg_carryEnd 9 = .ok (.aload_n 0, 1) := by decide +kernel
theorem d_Rdg_carryEnd_10 : decode b_Rdg_carryEnd 10 = .ok (.getfield 46, 3) := by decide +kernel
theorem d_Rdg_carryEnd_13 : decode b_Rdg_carryEnd 13 = .ok (.getfield 83, 3) := by decide +kernel
theorem d_Rdg_carryEnd_16 : decode b_Rdg_carryEnd 16 = .ok (.invokevirtual 86, 3) := by decide +kernel
theorem d_Rdg_carryEnd_19 : decode b_Rdg_carryEnd 19 = .ok (.istore 5, 2) := by decide +kernel
theorem d_Rdg_carryEnd_21 : decode b_Rdg_carryEnd 21 = .ok (.iload 5, 2) := by decide +kernel
theorem d_Rdg_carryEnd_23 : decode b_Rdg_carryEnd 23 = .ok (.iload_n 2, 1) := by decide +kernel
theorem d_Rdg_carryEnd_24 : decode b_Rdg_carryEnd 24 = .ok (.iload 4, 2) := by decide +kernel
theorem d_Rdg_carryEnd_26 : decode b_Rdg_carryEnd 26 = .ok (.invokestatic 103, 3) := by decide +kernel
theorem d_Rdg_carryEnd_29 : decode b_Rdg_carryEnd 29 = .ok (.istore 6, 2) := by decide +kernel
theorem d_Rdg_carryEnd_31 : decode b_Rdg_carryEnd 31 = .ok (.aload_n 0, 1) := by decide +kernel
theorem d_Rdg_carryEnd_32 : decode b_Rdg_carryEnd 32 = .ok (.iload_n 1, 1) := by decide +kernel
theorem d_Rdg_carryEnd_33 : decode b_Rdg_carryEnd 33 = .ok (.iload 6, 2) := by decide +kernel
theorem d_Rdg_carryEnd_35 : decode b_Rdg_carryEnd 35 = .ok (.invokevirtual 96, 3) := by decide +kernel
theorem d_Rdg_carryEnd_38 : decode b_Rdg_carryEnd 38 = .ok (.iload 6, 2) := by decide +kernel
theorem d_Rdg_carryEnd_40 : decode b_Rdg_carryEnd 40 = .ok (.ireturn, 1) := by decide +kernel
theorem d_Rdg_carryRegular_0 : decode b_Rdg_carryRegular 0 = .ok (.aload_n 0, 1) := by decide +kernel
theorem d_Rdg_carryRegular_1 : decode b_Rdg_carryRegular 1 = .ok (.getfield 10, 3) := by decide +kernel
theorem d_Rdg_carryRegular_4 : decode b_Rdg_carryRegular 4 = .ok (.iload_n 2, 1) := by decide +kernel
theorem d_Rdg_carryRegular_5 : decode b_Rdg_carryRegular 5 = .ok (.aload_n 0, 1) := by decide +kernel
theorem d_Rdg_carryRegular_6 : decode b_Rdg_carryRegular 6 = .ok (.getfield 46, 3) := by decide +kernel
theorem d_Rdg_carryRegular_9 : decode b_Rdg_carryRegular 9 = .ok (.getfield 80, 3) := by decide +kernel
theorem d_Rdg_carryRegular_12 : decode b_Rdg_carryRegular 12 = .ok (.aload_n 0, 1) := by decide +kernel
theorem d_Rdg_carryRegular_13 : decode b_Rdg_carryRegular 13 = .ok (.getfield 46, 3) := by decide +kernel
theorem d_Rdg_carryRegular_16 : decode b_Rdg_carryRegular 16 = .ok (.getfield 83, 3) := by decide +kernel
theorem d_Rdg_carryRegular_19 : decode b_Rdg_carryRegular 19 = .ok (.invokevirtual 86, 3) := by decide +kernel
theorem d_Rdg_carryRegular_22 : decode b_Rdg_carryRegular 22 = .ok (.istore 4, 2) := by decide +kernel
theorem d_Rdg_carryRegular_24 : decode b_Rdg_carryRegular 24 = .ok (.iload 4, 2) := by decide +kernel
theorem d_Rdg_carryRegular_26 : decode b_Rdg_carryRegular 26 = .ok (.iload_n 3, 1) := by decide +kernel
theorem d_Rdg_carryRegular_27 : decode b_Rdg_carryRegular 27 = .ok (.invokestatic 90, 3) := by decide +kernel
theorem d_Rdg_carryRegular_30 : decode b_Rdg_carryRegular 30 = .ok (.istore 5, 2) := by decide +kernel
theorem d_Rdg_carryRegular_32 : decode b_Rdg_carryRegular 32 = .ok (.aload_n 0, 1) := by decide +kernel
theorem d_Rdg_carryRegular_33 : decode b_Rdg_carryRegular 33 = .ok (.iload_n 1, 1) := by decide +kernel
theorem d_Rdg_carryRegular_34 : decode b_Rdg_carryRegular 34 = .ok (.iload 5, 2) := by decide +kernel
theorem d_Rdg_carryRegular_36 : decode b_Rdg_carryRegular 36 = .ok (.invokevirtual 96, 3) := by decide +kernel
theorem d_Rdg_carryRegular_39 : decode b_Rdg_carryRegular 39 = .ok (.iload 5, 2) := by decide +kernel
theorem d_Rdg_carryRegular_41 : decode b_Rdg_carryRegular 41 = .ok (.ireturn, 1) := by decide +kernel
theorem d_Rdg_carryRun_0 : decode b_Rdg_carryRun 0 = .ok (.iconst 0, 1) := by decide +kernel
theorem d_Rdg_carryRun_1 : decode b_Rdg_carryRun 1 = .ok (.istore_n 3, 1) := by decide +kernel
theorem d_Rdg_carryRun_2 : decode b_Rdg_carryRun 2 = .ok (.iload_n 3, 1) := by decide +kernel
theorem d_Rdg_carryRun_3 : decode b_Rdg_carryRun 3 = .ok (.iload_n 2, 1) := by decide +kernel
theorem d_Rdg_carryRun_4 : decode b_Rdg_carryRun 4 = .ok (.if_icmp .ge 66, 3) := by decide +kernel
theorem d_Rdg_carryRun_7 : decode b_Rdg_carryRun 7 = .ok (.aload_n 0, 1) := by decide +kernel
theorem d_Rdg_carryRun_8 : decode b_Rdg_carryRun 8 = .ok (.getfield 54, 3) := by decide +kernel
theorem d_Rdg_carryRun_11 : decode b_Rdg_carryRun 11 = .ok (.invokevirtual 58, 3) := by decide +kernel
theorem d_Rdg_carryRun_14 : decode b_Rdg_carryRun 14 = .ok (.istore 4, 2) := by decide +kernel
theorem d_Rdg_carryRun_16 : decode b_Rdg_carryRun 16 = .ok (.aload_n 0, 1) := by decide +kernel
theorem d_Rdg_carryRun_17 : decode b_Rdg_carryRun 17 = .ok (.getfield 10, 3) := by decide +kernel
theorem d_Rdg_carryRun_20 : decode b_Rdg_carryRun 20 = .ok (.invokevirtual 64, 3) := by decide +kernel
theorem d_Rdg_carryRun_23 : decode b_Rdg_carryRun 23 = .ok (.ifCond .ne 15, 3) := by decide +kernel
theorem d_Rdg_carryRun_26 : decode b_Rdg_carryRun 26 = .ok (.iload_n 3, 1) := by decide +kernel
theorem d_Rdg_carryRun_27 : decode b_Rdg_carryRun 27 = .ok (.aload_n 0, 1) := by decide +kernel
theorem d_Rdg_carryRun_28 : decode b_Rdg_carryRun 28 = .ok (.iload 4, 2) := by decide +kernel
theorem d_Rdg_carryRun_30 : decode b_Rdg_carryRun 30 = .ok (.iload_n 2, 1) := by decide +kernel
theorem d_Rdg_carryRun_31 : decode b_Rdg_carryRun 31 = .ok (.iload_n 3, 1) := by decide +kernel
theorem d_Rdg_carryRun_32 : decode b_Rdg_carryRun 32 = .ok (.isub, 1) := by decide +kernel
theorem d_Rdg_carryRun_33 : decode b_Rdg_carryRun 33 = .ok (.invokevirtual 67, 3) := by decide +kernel
theorem d_Rdg_carryRun_36 : decode b_Rdg_carryRun 36 = .ok (.iadd, 1) := by decide +kernel
theorem d_Rdg_carryRun_37 : decode b_Rdg_carryRun 37 = .ok (.ireturn, 1) := by decide +kernel
theorem d_Rdg_carryRun_38 : decode b_Rdg_carryRun 38 = .ok (.iconst 1, 1) := by decide +kernel
theorem d_Rdg_carryRun_39 : decode b_Rdg_carryRun 39 = .ok (.iload 4, 2) := by decide +kernel
theorem d_Rdg_carryRun_41 : decode b_Rdg_carryRun 41 = .ok (.ishl, 1) := by decide +kernel
theorem d_Rdg_carryRun_42 : decode b_Rdg_carryRun 42 = .ok (.iload_n 2, 1) := by decide +kernel
theorem d_Rdg_carryRun_43 : decode b_Rdg_carryRun 43 = .ok (.iload_n 3, 1) := by decide +kernel
theorem d_Rdg_carryRun_44 : decode b_Rdg_carryRun 44 = .ok (.isub, 1) := by decide +kernel
theorem d_Rdg_carryRun_45 : decode b_Rdg_carryRun 45 = .ok (.if_icmp .gt 20, 3) := by decide +kernel
theorem d_Rdg_carryRun_48 : decode b_Rdg_carryRun 48 = .ok (.iload_n 3, 1) := by decide +kernel
theorem d_Rdg_carryRun_49 : decode b_Rdg_carryRun 49 = .ok (.iconst 1, 1) := by decide +kernel
theorem d_Rdg_carryRun_50 : decode b_Rdg_carryRun 50 = .ok (.iload 4, 2) := by decide +kernel
theorem d_Rdg_carryRun_52 : decode b_Rdg_carryRun 52 = .ok (.ishl, 1) := by decide +kernel
theorem d_Rdg_carryRun_53 : decode b_Rdg_carryRun 53 = .ok (.iadd, 1) := by decide +kernel
theorem d_Rdg_carryRun_54 : decode b_Rdg_carryRun 54 = .ok (.istore_n 3, 1) := by decide +kernel
theorem d_Rdg_carryRun_55 : decode b_Rdg_carryRun 55 = .ok (.aload_n 0, 1) := by decide +kernel
theorem d_Rdg_carryRun_56 : decode b_Rdg_carryRun 56 = .ok (.getfield 54, 3) := by decide +kernel
theorem d_Rdg_carryRun_59 : decode b_Rdg_carryRun 59 = .ok (.invokevirtual 71, 3) := by decide +kernel
theorem d_Rdg_carryRun_62 : decode b_Rdg_carryRun 62 = .ok (.goto 5, 3) := by decide +kernel
theorem d_Rdg_carryRun_65 : decode b_Rdg_carryRun 65 = .ok (.iload_n 2, 1) := by decide +kernel
theorem d_Rdg_carryRun_66 : decode b_Rdg_carryRun 66 = .ok (.istore_n 3, 1) := by decide +kernel
theorem d_Rdg_carryRun_67 : decode b_Rdg_carryRun 67 = .ok (.goto (-65), 3) := by decide +kernel
theorem d_Rdg_carryRun_70 : decode b_Rdg_carryRun 70 = .ok (.iload_n 3, 1) := by decide +kernel
theorem d_Rdg_carryRun_71 : decode b_Rdg_carryRun 71 = .ok (.ireturn, 1) := by decide +kernel
theorem d_Rdg_init_0 : decode b_Rdg_init 0 = .ok (.aload_n 0, 1) := by decide +kernel
theorem d_Rdg_init_1 : decode b_Rdg_init 1 = .ok (.invokespecial 1, 3) := by decide +kernel
theorem d_Rdg_init_4 : decode b_Rdg_init 4 = .ok (.aload_n 0, 1) := by decide +kernel
theorem d_Rdg_init_5 : decode b_Rdg_init 5 = .ok (.new 7, 3) := by decide +kernel
theorem d_Rdg_init_8 : decode b_Rdg_init 8 = .ok (.dup, 1) := by decide +kernel
theorem d_Rdg_init_9 : decode b_Rdg_init 9 = .ok (.invokespecial 9, 3) := by decide +kernel
theorem d_Rdg_init_12 : decode b_Rdg_init 12 = .ok (.putfield 10, 3) := by decide +kernel
theorem d_Rdg_init_15 : decode b_Rdg_init 15 = .ok (.return_, 1) := by decide +kernel
theorem d_Rdg_readHead_0 : decode b_Rdg_readHead 0 = .ok (.aload_n 0, 1) := by decide +kernel
theorem d_Rdg_readHead_1 : decode b_Rdg_readHead 1 = .ok (.getfield 10, 3) := by decide +kernel
theorem d_Rdg_readHead_4 : decode b_Rdg_readHead 4 = .ok (.aload_n 1, 1) := by decide +kernel
theorem d_Rdg_readHead_5 : decode b_Rdg_readHead 5 = .ok (.getfield 16, 3) := by decide +kernel
theorem d_Rdg_readHead_8 : decode b_Rdg_readHead 8 = .ok (.aload_n 1, 1) := by decide +kernel
theorem d_Rdg_readHead_9 : decode b_Rdg_readHead 9 = .ok (.getfield 22, 3) := by decide +kernel
theorem d_Rdg_readHead_12 : decode b_Rdg_readHead 12 = .ok (.invokevirtual 26, 3) := by decide +kernel
theorem d_Rdg_readHead_15 : decode b_Rdg_readHead 15 = .ok (.aload_n 0, 1) := by decide +kernel
theorem d_Rdg_readHead_16 : decode b_Rdg_readHead 16 = .ok (.getfield 10, 3) := by decide +kernel
theorem d_Rdg_readHead_19 : decode b_Rdg_readHead 19 = .ok (.getfield 30, 3) := by decide +kernel
theorem d_Rdg_readHead_22 : decode b_Rdg_readHead 22 = .ok (.astore_n 2, 1) := by decide +kernel
theorem d_Rdg_readHead_23 : decode b_Rdg_readHead 23 = .ok (.aload_n 2, 1) := by decide +kernel
theorem d_Rdg_readHead_24 : decode b_Rdg_readHead 24 = .ok (.iconst 0, 1) := by decide +kernel
theorem d_Rdg_readHead_25 : decode b_Rdg_readHead 25 = .ok (.iaload, 1) := by decide +kernel
theorem d_Rdg_readHead_26 : decode b_Rdg_readHead 26 = .ok (.sipush 255, 3) := by decide +kernel
theorem d_Rdg_readHead_29 : decode b_Rdg_readHead 29 = .ok (.if_icmp .ne 12, 3) := by decide +kernel
theorem d_Rdg_readHead_32 : decode b_Rdg_readHead 32 = .ok (.aload_n 2, 1) := by decide +kernel
theorem d_Rdg_readHead_33 : decode b_Rdg_readHead 33 = .ok (.iconst 1, 1) := by decide +kernel
theorem d_Rdg_readHead_34 : decode b_Rdg_readHead 34 = .ok (.iaload, 1) := by decide +kernel
theorem d_Rdg_readHead_35 : decode b_Rdg_readHead 35 = .ok (.sipush 216, 3) := by decide +kernel
theorem d_Rdg_readHead_38 : decode b_Rdg_readHead 38 = .ok (.if_icmp .eq 13, 3) := by decide +kernel
theorem d_Rdg_readHead_41 : decode b_Rdg_readHead 41 = .ok (.new 31, 3) := by decide +kernel
theorem d_Rdg_readHead_44 : decode b_Rdg_readHead 44 = .ok (.dup, 1) := by decide +kernel
theorem d_Rdg_readHead_45 : decode b_Rdg_readHead 45 = .ok (.ldc 33, 2) := by decide +kernel
theorem d_Rdg_readHead_47 : decode b_Rdg_readHead 47 = .ok (.invokespecial 35, 3) := by decide +kernel
theorem d_Rdg_readHead_50 : decode b_Rdg_readHead 50 = .ok (.athrow, 1) := by decide +kernel
theorem d_Rdg_readHead_51 : decode b_Rdg_readHead 51 = .ok (.aload_n 2, 1) := by decide +kernel
theorem d_Rdg_readHead_52 : decode b_Rdg_readHead 52 = .ok (.iconst 2, 1) := by decide +kernel
theorem d_Rdg_readHead_53 : decode b_Rdg_readHead 53 = .ok (.iaload, 1) := by decide +kernel
theorem d_Rdg_readHead_54 : decode b_Rdg_readHead 54 = .ok (.aload_n 2, 1) := by decide +kernel
theorem d_Rdg_readHead_55 : decode b_Rdg_readHead 55 = .ok (.iconst 3, 1) := by decide +kernel
theorem d_Rdg_readHead_56 : decode b_Rdg_readHead 56 = .ok (.iaload, 1) := by decide +kernel
theorem d_Rdg_readHead_57 : decode b_Rdg_readHead 57 = .ok (.aload_n 2, 1) := by decide +kernel
theorem d_Rdg_readHead_58 : decode b_Rdg_readHead 58 = .ok (.iconst 4, 1) := by decide +kernel
theorem d_Rdg_readHead_59 : decode b_Rdg_readHead 59 = .ok (.iaload, 1) := by decide +kernel
theorem d_Rdg_readHead_60 : decode b_Rdg_readHead 60 = .ok (.aload_n 2, 1) := by decide +kernel
theorem d_Rdg_readHead_61 : decode b_Rdg_readHead 61 = .ok (.iconst 5, 1) := by decide +kernel
theorem d_Rdg_readHead_62 : decode b_Rdg_readHead 62 = .ok (.iaload, 1) := by decide +kernel
theorem d_Rdg_readHead_63 : decode b_Rdg_readHead 63 = .ok (.invokestatic 38, 3) := by decide +kernel
theorem d_Rdg_readHead_66 : decode b_Rdg_readHead 66 = .ok (.ifCond .ne 13, 3) := by decide +kernel
theorem d_Rdg_readHead_69 : decode b_Rdg_readHead 69 = .ok (.new 31, 3) := by decide +kernel
theorem d_Rdg_readHead_72 : decode b_Rdg_readHead 72 = .ok (.dup, 1) := by decide +kernel
theorem d_Rdg_readHead_73 : decode b_Rdg_readHead 73 = .ok (.ldc 44, 2) := by decide +kernel
theorem d_Rdg_readHead_75 : decode b_Rdg_readHead 75 = .ok (.invokespecial 35, 3) := by decide +kernel
theorem d_Rdg_readHead_78 : decode b_Rdg_readHead 78 = .ok (.athrow, 1) := by decide +kernel
theorem d_Rdg_readHead_79 : decode b_Rdg_readHead 79 = .ok (.aload_n 0, 1) := by decide +kernel
theorem d_Rdg_readHead_80 : decode b_Rdg_readHead 80 = .ok (.getfield 46, 3) := by decide +kernel
theorem d_Rdg_readHead_83 : decode b_Rdg_readHead 83 = .ok (.aload_n 2, 1) := by decide +kernel
theorem d_Rdg_readHead_84 : decode b_Rdg_readHead 84 = .ok (.iconst 2, 1) := by decide +kernel
theorem d_Rdg_readHead_85 : decode b_Rdg_readHead 85 = .ok (.iaload, 1) := by decide +kernel
theorem d_Rdg_readHead_86 : decode b_Rdg_readHead 86 = .ok (.aload_n 2, 1) := by decide +kernel
theorem d_Rdg_readHead_87 : decode b_Rdg_readHead 87 = .ok (.iconst 3, 1) := by decide +kernel
theorem d_Rdg_readHead_88 : decode b_Rdg_readHead 88 = .ok (.iaload, 1) := by decide +kernel
theorem d_Rdg_readHead_89 : decode b_Rdg_readHead 89 = .ok (.aload_n 2, 1) := by decide +kernel
theorem d_Rdg_readHead_90 : decode b_Rdg_readHead 90 = .ok (.iconst 4, 1) := by decide +kernel
theorem d_Rdg_readHead_91 : decode b_Rdg_readHead 91 = .ok (.iaload, 1) := by decide +kernel
theorem d_Rdg_readHead_92 : decode b_Rdg_readHead 92 = .ok (.aload_n 2, 1) := by decide +kernel
theorem d_Rdg_readHead_93 : decode b_Rdg_readHead 93 = .ok (.iconst 5, 1) := by decide +kernel
theorem d_Rdg_readHead_94 : decode b_Rdg_readHead 94 = .ok (.iaload, 1) := by decide +kernel
theorem d_Rdg_readHead_95 : decode b_Rdg_readHead 95 = .ok (.invokevirtual 50, 3) := by decide +kernel
theorem d_Rdg_readHead_98 : decode b_Rdg_readHead 98 = .ok (.return_, 1) := by decide +kernel
theorem d_Rdg_readRest_0 : decode b_Rdg_readRest 0 = .ok (.aload_n 0, 1) := by decide +kernel
theorem d_Rdg_readRest_1 : decode b_Rdg_readRest 1 = .ok (.getfield 10, 3) := by decide +kernel
theorem d_Rdg_readRest_4 : decode b_Rdg_readRest 4 = .ok (.iload_n 1, 1) := by decide +kernel
theorem d_Rdg_readRest_5 : decode b_Rdg_readRest 5 = .ok (.invokevirtual 74, 3) := by decide +kernel
theorem d_Rdg_readRest_8 : decode b_Rdg_readRest 8 = .ok (.istore_n 3, 1) := by decide +kernel
theorem d_Rdg_readRest_9 : decode b_Rdg_readRest 9 = .ok (.iload_n 3, 1) := by decide +kernel
theorem d_Rdg_readRest_10 : decode b_Rdg_readRest 10 = .ok (.iload_n 2, 1) := by decide +kernel
theorem d_Rdg_readRest_11 : decode b_Rdg_readRest 11 = .ok (.if_icmp .lt 13, 3) := by decide +kernel
theorem d_Rdg_readRest_14 : decode b_Rdg_readRest 14 = .ok (.new 31, 3) := by decide +kernel
theorem d_Rdg_readRest_17 : decode b_Rdg_readRest 17 = .ok (.dup, 1) := by decide +kernel
theorem d_Rdg_readRest_18 : decode b_Rdg_readRest 18 = .ok (.ldc 78, 2) := by decide +kernel
theorem d_Rdg_readRest_20 : decode b_Rdg_readRest 20 = .ok (.invokespecial 35, 3) := by decide +kernel
theorem d_Rdg_readRest_23 : decode b_Rdg_readRest 23 = .ok (.athrow, 1) := by decide +kernel
theorem d_Rdg_readRest_24 : decode b_Rdg_readRest 24 = .ok (.iload_n 3, 1) := by decide +kernel
theorem d_Rdg_readRest_25 : decode b_Rdg_readRest 25 = .ok (.ireturn, 1) := by decide +kernel
theorem d_Rdg_rebuild_0 : decode b_Rdg_rebuild 0 = .ok (.aload_n 0, 1) := by decide +kernel
theorem d_Rdg_rebuild_1 : decode b_Rdg_rebuild 1 = .ok (.getfield 46, 3) := by decide +kernel
theorem d_Rdg_rebuild_4 : decode b_Rdg_rebuild 4 = .ok (.iload_n 2, 1) := by decide +kernel
theorem d_Rdg_rebuild_5 : decode b_Rdg_rebuild 5 = .ok (.invokevirtual 107, 3) := by decide +kernel
theorem d_Rdg_rebuild_8 : decode b_Rdg_rebuild 8 = .ok (.ifCond .ne 13, 3) := by decide +kernel
theorem d_Rdg_rebuild_11 : decode b_Rdg_rebuild 11 = .ok (.new 31, 3) := by decide +kernel
theorem d_Rdg_rebuild_14 : decode b_Rdg_rebuild 14 = .ok (.dup, 1) := by decide +kernel
theorem d_Rdg_rebuild_15 : decode b_Rdg_rebuild 15 = .ok (.ldc 111, 2) := by decide +kernel
theorem d_Rdg_rebuild_17 : decode b_Rdg_rebuild 17 = .ok (.invokespecial 35, 3) := by decide +kernel
theorem d_Rdg_rebuild_20 : decode b_Rdg_rebuild 20 = .ok (.athrow, 1) := by decide +kernel
theorem d_Rdg_rebuild_21 : decode b_Rdg_rebuild 21 = .ok (.aload_n 0, 1) := by decide +kernel
theorem d_Rdg_rebuild_22 : decode b_Rdg_rebuild 22 = .ok (.getfield 113, 3) := by decide +kernel
theorem d_Rdg_rebuild_25 : decode b_Rdg_rebuild 25 = .ok (.iload_n 1, 1) := by decide +kernel
theorem d_Rdg_rebuild_26 : decode b_Rdg_rebuild 26 = .ok (.aload_n 0, 1) := by decide +kernel
theorem d_Rdg_rebuild_27 : decode b_Rdg_rebuild 27 = .ok (.getfield 46, 3) := by decide +kernel
theorem d_Rdg_rebuild_30 : decode b_Rdg_rebuild 30 = .ok (.aload_n 0, 1) := by decide +kernel
theorem d_Rdg_rebuild_31 : decode b_Rdg_rebuild 31 = .ok (.getfield 46, 3) := by decide +kernel
theorem d_Rdg_rebuild_34 : decode b_Rdg_rebuild 34 = .ok (.aload_n 0, 1) := by decide +kernel
theorem d_Rdg_rebuild_35 : decode b_Rdg_rebuild 35 = .ok (.getfield 116, 3) := by decide +kernel
theorem d_Rdg_rebuild_38 : decode b_Rdg_rebuild 38 = .ok (.aload_n 0, 1) := by decide +kernel
theorem d_Rdg_rebuild_39 : decode b_Rdg_rebuild 39 = .ok (.getfield 119, 3) := by decide +kernel
theorem d_Rdg_rebuild_42 : decode b_Rdg_rebuild 42 = .ok (.iload_n 2, 1) := by decide +kernel
theorem d_Rdg_rebuild_43 : decode b_Rdg_rebuild 43 = .ok (.imul, 1) := by decide +kernel
theorem d_Rdg_rebuild_44 : decode b_Rdg_rebuild 44 = .ok (.aload_n 0, 1) := by decide +kernel
theorem d_Rdg_rebuild_45 : decode b_Rdg_rebuild 45 = .ok (.getfield 46, 3) := by decide +kernel
theorem d_Rdg_rebuild_48 : decode b_Rdg_rebuild 48 = .ok (.getfield 122, 3) := by decide +kernel
theorem d_Rdg_rebuild_51 : decode b_Rdg_rebuild 51 = .ok (.imul, 1) := by decide +kernel
theorem d_Rdg_rebuild_52 : decode b_Rdg_rebuild 52 = .ok (.iadd, 1) := by decide +kernel
theorem d_Rdg_rebuild_53 : decode b_Rdg_rebuild 53 = .ok (.invokevirtual 125, 3) := by decide +kernel
theorem d_Rdg_rebuild_56 : decode b_Rdg_rebuild 56 = .ok (.invokevirtual 128, 3) := by decide +kernel
theorem d_Rdg_rebuild_59 : decode b_Rdg_rebuild 59 = .ok (.iastore, 1) := by decide +kernel
theorem d_Rdg_rebuild_60 : decode b_Rdg_rebuild 60 = .ok (.return_, 1) := by decide +kernel
theorem d_Rea_init_0 : decode b_Rea_init 0 = .ok (.aload_n 0, 1) := by decide +kernel
theorem d_Rea_init_1 : decode b_Rea_init 1 = .ok (.invokespecial 1, 3) := by decide +kernel
theorem d_Rea_init_4 : decode b_Rea_init 4 = .ok (.aload_n 0, 1) := by decide +kernel
theorem d_Rea_init_5 : decode b_Rea_init 5 = .ok (.sipush 512, 3) := by decide +kernel
theorem d_Rea_init_8 : decode b_Rea_init 8 = .ok (.newarray .int, 2) := by decide +kernel
theorem d_Rea_init_10 : decode b_Rea_init 10 = .ok (.putfield 9, 3) := by decide +kernel
theorem d_Rea_init_13 : decode b_Rea_init 13 = .ok (.return_, 1) := by decide +kernel
theorem d_Rea_open_0 : decode b_Rea_open 0 = .ok (.iload_n 2, 1) := by decide +kernel
theorem d_Rea_open_1 : decode b_Rea_open 1 = .ok (.bipush 8, 2) := by decide +kernel
theorem d_Rea_open_3 : decode b_Rea_open 3 = .ok (.if_icmp .ge 13, 3) := by decide +kernel
theorem d_Rea_open_6 : decode b_Rea_open 6 = .ok (.new 15, 3) := by decide +kernel
theorem d_Rea_open_9 : decode b_Rea_open 9 = .ok (.dup, 1) := by decide +kernel
theorem d_Rea_open_10 : decode b_Rea_open 10 = .ok (.ldc 17, 2) := by decide +kernel
theorem d_Rea_open_12 : decode b_Rea_open 12 = .ok (.invokespecial 19, 3) := by decide +kernel
theorem d_Rea_open_15 : decode b_Rea_open 15 = .ok (.athrow, 1) := by decide +kernel
theorem d_Rea_open_16 : decode b_Rea_open 16 = .ok (.aload_n 1, 1) := by decide +kernel
theorem d_Rea_open_17 : decode b_Rea_open 17 = .ok (.iconst 0, 1) := by decide +kernel
theorem d_Rea_open_18 : decode b_Rea_open 18 = .ok (.aload_n 0, 1) := by decide +kernel
theorem d_Rea_open_19 : decode b_Rea_open 19 = .ok (.getfield 9, 3) := by decide +kernel
theorem d_Rea_open_22 : decode b_Rea_open 22 = .ok (.iconst 0, 1) := by decide +kernel
theorem d_Rea_open_23 : decode b_Rea_open 23 = .ok (.iload_n 2, 1) := by decide +kernel
theorem d_Rea_open_24 : decode b_Rea_open 24 = .ok (.invokestatic 22, 3) := by decide +kernel
theorem d_Rea_open_27 : decode b_Rea_open 27 = .ok (.aload_n 0, 1) := by decide +kernel
theorem d_Rea_open_28 : decode b_Rea_open 28 = .ok (.iload_n 2, 1) := by decide +kernel
theorem d_Rea_open_29 : decode b_Rea_open 29 = .ok (.iconst 2, 1) := by decide +kernel
theorem d_Rea_open_30 : decode b_Rea_open 30 = .ok (.isub, 1) := by decide +kernel
theorem d_Rea_open_31 : decode b_Rea_open 31 = .ok (.putfield 28, 3) := by decide +kernel
theorem d_Rea_open_34 : decode b_Rea_open 34 = .ok (.aload_n 0, 1) := by decide +kernel
theorem d_Rea_open_35 : decode b_Rea_open 35 = .ok (.bipush 6, 2) := by decide +kernel
theorem d_Rea_open_37 : decode b_Rea_open 37 = .ok (.putfield 32, 3) := by decide +kernel
theorem d_Rea_open_40 : decode b_Rea_open 40 = .ok (.aload_n 0, 1) := by decide +kernel
theorem d_Rea_open_41 : decode b_Rea_open 41 = .ok (.iconst 0, 1) := by decide +kernel
theorem d_Rea_open_42 : decode b_Rea_open 42 = .ok (.putfield 35, 3) := by decide +kernel
theorem d_Rea_open_45 : decode b_Rea_open 45 = .ok (.return_, 1) := by decide +kernel
theorem d_Rea_readBit_0 : decode b_Rea_readBit 0 = .ok (.aload_n 0, 1) := by decide +kernel
theorem d_Rea_readBit_1 : decode b_Rea_readBit 1 = .ok (.getfield 35, 3) := by decide +kernel
theorem d_Rea_readBit_4 : decode b_Rea_readBit 4 = .ok (.ifCond .ne 90, 3) := by decide +kernel
theorem d_Rea_readBit_7 : decode b_Rea_readBit 7 = .ok (.aload_n 0, 1) := by decide +kernel
theorem d_Rea_readBit_8 : decode b_Rea_readBit 8 = .ok (.getfield 9, 3) := by decide +kernel
theorem d_Rea_readBit_11 : decode b_Rea_readBit 11 = .ok (.aload_n 0, 1) := by decide +kernel
theorem d_Rea_readBit_12 : decode b_Rea_readBit 12 = .ok (.getfield 32, 3) := by decide +kernel
theorem d_Rea_readBit_15 : decode b_Rea_readBit 15 = .ok (.iconst 1, 1) := by decide +kernel
theorem d_Rea_readBit_16 : decode b_Rea_readBit 16 = .ok (.isub, 1) := by decide +kernel
theorem d_Rea_readBit_17 : decode b_Rea_readBit 17 = .ok (.iaload, 1) := by decide +kernel
theorem d_Rea_readBit_18 : decode b_Rea_readBit 18 = .ok (.sipush 255, 3) := by decide +kernel
theorem d_Rea_readBit_21 : decode b_Rea_readBit 21 = .ok (.if_icmp .ne 7, 3) := by decide +kernel
theorem d_Rea_readBit_24 : decode b_Rea_readBit 24 = .ok (.iconst 1, 1) := by decide +kernel
theorem d_Rea_readBit_25 : decode b_Rea_readBit 25 = .ok (.goto 4, 3) := by decide +kernel
theorem d_Rea_readBit_28 : decode b_Rea_readBit 28 = .ok (.iconst 0, 1) := by decide +kernel
theorem d_Rea_readBit_29 : decode b_Rea_readBit 29 = .ok (.istore_n 1, 1) := by decide +kernel
theorem d_Rea_readBit_30 : decode b_Rea_readBit 30 = .ok (.aload_n 0, 1) := by decide +kernel
theorem d_Rea_readBit_31 : decode b_Rea_readBit 31 = .ok (.getfield 32, 3) := by decide +kernel
theorem d_Rea_readBit_34 : decode b_Rea_readBit 34 = .ok (.aload_n 0, 1) := by decide +kernel
theorem d_Rea_readBit_35 : decode b_Rea_readBit 35 = .ok (.getfield 28, 3) := by decide +kernel
theorem d_Rea_readBit_38 : decode b_Rea_readBit 38 = .ok (.if_icmp .ge 21, 3) := by decide +kernel
theorem d_Rea_readBit_41 : decode b_Rea_readBit 41 = .ok (.iload_n 1, 1) := by decide +kernel
theorem d_Rea_readBit_42 : decode b_Rea_readBit 42 = .ok (.ifCond .eq 27, 3) := by decide +kernel
theorem d_Rea_readBit_45 : decode b_Rea_readBit 45 = .ok (.aload_n 0, 1) := by decide +kernel
theorem d_Rea_readBit_46 : decode b_Rea_readBit 46 = .ok (.getfield 9, 3) := by decide +kernel
theorem d_Rea_readBit_49 : decode b_Rea_readBit 49 = .ok (.aload_n 0, 1) := by decide +kernel
theorem d_Rea_readBit_50 : decode b_Rea_readBit 50 = .ok (.getfield 32, 3) := by decide +kernel
theorem d_Rea_readBit_53 : decode b_Rea_readBit 53 = .ok (.iaload, 1) := by decide +kernel
theorem d_Rea_readBit_54 : decode b_Rea_readBit 54 = .ok (.bipush 127, 2) := by decide +kernel
theorem d_Rea_readBit_56 : decode b_Rea_readBit 56 = .ok (.if_icmp .le 13, 3) := by decide +kernel
theorem d_Rea_readBit_59 : decode b_Rea_readBit 59 = .ok (.new 15, 3) := by decide +kernel
theorem d_Rea_readBit_62 : decode b_Rea_readBit 62 = .ok (.dup, 1) := by decide +kernel
theorem d_Rea_readBit_63 : decode b_Rea_readBit 63 = .ok (.ldc 38, 2) := by decide +kernel
theorem d_Rea_readBit_65 : decode b_Rea_readBit 65 = .ok (.invokespecial 19, 3) := by decide +kernel
theorem d_Rea_readBit_68 : decode b_Rea_readBit 68 = .ok (.athrow, 1) := by decide +kernel
theorem d_Rea_readBit_69 : decode b_Rea_readBit 69 = .ok (.aload_n 0, 1) := by decide +kernel
theorem d_Rea_readBit_70 : decode b_Rea_readBit 70 = .ok (.iload_n 1, 1) := by decide +kernel
theorem d_Rea_readBit_71 : decode b_Rea_readBit 71 = .ok (.ifCond .eq 8, 3) := by decide +kernel
theorem d_Rea_readBit_74 : decode b_Rea_readBit 74 = .ok (.bipush 7, 2) := by decide +kernel
theorem d_Rea_readBit_76 : decode b_Rea_readBit 76 = .ok (.goto 5, 3) := by decide +kernel
theorem d_Rea_readBit_79 : decode b_Rea_readBit 79 = .ok (.bipush 8, 2) := by decide +kernel
theorem d_Rea_readBit_81 : decode b_Rea_readBit 81 = .ok (.putfield 35, 3) := by decide +kernel
theorem d_Rea_readBit_84 : decode b_Rea_readBit 84 = .ok (.aload_n 0, 1) := by decide +kernel
theorem d_Rea_readBit_85 : decode b_Rea_readBit 85 = .ok (.dup, 1) := by decide +kernel
theorem d_Rea_readBit_86 : decode b_Rea_readBit 86 = .ok (.getfield 32, 3) := by decide +kernel
theorem d_Rea_readBit_89 : decode b_Rea_readBit 89 = .ok (.iconst 1, 1) := by decide +kernel
theorem d_Rea_readBit_90 : decode b_Rea_readBit 90 = .ok (.iadd, 1) := by decide +kernel
theorem d_Rea_readBit_91 : decode b_Rea_readBit 91 = .ok (.putfield 32, 3) := by decide +kernel
theorem d_Rea_readBit_94 : decode b_Rea_readBit 94 = .ok (.aload_n 0, 1) := by decide +kernel
theorem d_Rea_readBit_95 : decode b_Rea_readBit 95 = .ok (.dup, 1) := by decide +kernel
theorem d_Rea_readBit_96 : decode b_Rea_readBit 96 = .ok (.getfield 35, 3) := by decide +kernel
theorem d_Rea_readBit_99 : decode b_Rea_readBit 99 = .ok (.iconst 1, 1) := by decide +kernel
theorem d_Rea_readBit_100 : decode b_Rea_readBit 100 = .ok (.isub, 1) := by decide +kernel
theorem d_Rea_readBit_101 : decode b_Rea_readBit 101 = .ok (.putfield 35, 3) := by decide +kernel
theorem d_Rea_readBit_104 : decode b_Rea_readBit 104 = .ok (.aload_n 0, 1) := by decide +kernel
theorem d_Rea_readBit_105 : decode b_Rea_readBit 105 = .ok (.getfield 9, 3) := by decide +kernel
theorem d_Rea_readBit_108 : decode b_Rea_readBit 108 = .ok (.aload_n 0, 1) := by decide +kernel
theorem d_Rea_readBit_109 : decode b_Rea_readBit 109 = .ok (.getfield 32, 3) := by decide +kernel
theorem d_Rea_readBit_112 : decode b_Rea_readBit 112 = .ok (.iconst 1, 1) := by decide +kernel
theorem d_Rea_readBit_113 : decode b_Rea_readBit 113 = .ok (.isub, 1) := by decide +kernel
theorem d_Rea_readBit_114 : decode b_Rea_readBit 114 = .ok (.iaload, 1) := by decide +kernel
theorem d_Rea_readBit_115 : decode b_Rea_readBit 115 = .ok (.aload_n 0, 1) := by decide +kernel
theorem d_Rea_readBit_116 : decode b_Rea_readBit 116 = .ok (.getfield 35, 3) := by decide +kernel
theorem d_Rea_readBit_119 : decode b_Rea_readBit 119 = .ok (.ishr, 1) := by decide +kernel
theorem d_Rea_readBit_120 : decode b_Rea_readBit 120 = .ok (.iconst 1, 1) := by decide +kernel
theorem d_Rea_readBit_121 : decode b_Rea_readBit 121 = .ok (.iand, 1) := by decide +kernel
theorem d_Rea_readBit_122 : decode b_Rea_readBit 122 = .ok (.ireturn, 1) := by decide +kernel
theorem d_Rea_readBits_0 : decode b_Rea_readBits 0 = .ok (.iconst 0, 1) := by decide +kernel
theorem d_Rea_readBits_1 : decode b_Rea_readBits 1 = .ok (.istore_n 2, 1) := by decide +kernel
theorem d_Rea_readBits_2 : decode b_Rea_readBits 2 = .ok (.iconst 0, 1) := by decide +kernel
theorem d_Rea_readBits_3 : decode b_Rea_readBits 3 = .ok (.istore_n 3, 1) := by decide +kernel
theorem d_Rea_readBits_4 : decode b_Rea_readBits 4 = .ok (.iload_n 3, 1) := by decide +kernel
theorem d_Rea_readBits_5 : decode b_Rea_readBits 5 = .ok (.iload_n 1, 1) := by decide +kernel
theorem d_Rea_readBits_6 : decode b_Rea_readBits 6 = .ok (.if_icmp .ge 18, 3) := by decide +kernel
theorem d_Rea_readBits_9 : decode b_Rea_readBits 9 = .ok (.iconst 2, 1) := by decide +kernel
theorem d_Rea_readBits_10 : decode b_Rea_readBits 10 = .ok (.iload_n 2, 1) := by decide +kernel
theorem d_Rea_readBits_11 : decode b_Rea_readBits 11 = .ok (.imul, 1) := by decide +kernel
theorem d_Rea_readBits_12 : decode b_Rea_readBits 12 = .ok (.aload_n 0, 1) := by decide +kernel
theorem d_Rea_readBits_13 : decode b_Rea_readBits 13 = .ok (.invokevirtual 40, 3) := by decide +kernel
theorem d_Rea_readBits_16 : decode b_Rea_readBits 16 = .ok (.iadd, 1) := by decide +kernel
theorem d_Rea_readBits_17 : decode b_Rea_readBits 17 = .ok (.istore_n 2, 1) := by decide +kernel
theorem d_Rea_readBits_18 : decode b_Rea_readBits 18 = .ok (.iinc 3 1, 3) := by decide +kernel
theorem d_Rea_readBits_21 : decode b_Rea_readBits 21 = .ok (.goto (-17), 3) := by decide +kernel
theorem d_Rea_readBits_24 : decode b_Rea_readBits 24 = .ok (.iload_n 2, 1) := by decide +kernel
theorem d_Rea_readBits_25 : decode b_Rea_readBits 25 = .ok (.ireturn, 1) := by decide +kernel
theorem d_Rea_readEnd_0 : decode b_Rea_readEnd 0 = .ok (.aload_n 0, 1) := by decide +kernel
theorem d_Rea_readEnd_1 : decode b_Rea_readEnd 1 = .ok (.getfield 9, 3) := by decide +kernel
theorem d_Rea_readEnd_4 : decode b_Rea_readEnd 4 = .ok (.aload_n 0, 1) := by decide +kernel
theorem d_Rea_readEnd_5 : decode b_Rea_readEnd 5 = .ok (.getfield 32, 3) := by decide +kernel
theorem d_Rea_readEnd_8 : decode b_Rea_readEnd 8 = .ok (.iconst 1, 1) := by decide +kernel
theorem d_Rea_readEnd_9 : decode b_Rea_readEnd 9 = .ok (.isub, 1) := by decide +kernel
theorem d_Rea_readEnd_10 : decode b_Rea_readEnd 10 = .ok (.iaload, 1) := by decide +kernel
theorem d_Rea_readEnd_11 : decode b_Rea_readEnd 11 = .ok (.iconst 1, 1) := by decide +kernel
theorem d_Rea_readEnd_12 : decode b_Rea_readEnd 12 = .ok (.aload_n 0, 1) := by decide +kernel
theorem d_Rea_readEnd_13 : decode b_Rea_readEnd 13 = .ok (.getfield 35, 3) := by decide +kernel
theorem d_Rea_readEnd_16 : decode b_Rea_readEnd 16 = .ok (.ishl, 1) := by decide +kernel
theorem d_Rea_readEnd_17 : decode b_Rea_readEnd 17 = .ok (.iconst 1, 1) := by decide +kernel
theorem d_Rea_readEnd_18 : decode b_Rea_readEnd 18 = .ok (.isub, 1) := by decide +kernel
theorem d_Rea_readEnd_19 : decode b_Rea_readEnd 19 = .ok (.iand, 1) := by decide +kernel
theorem d_Rea_readEnd_20 : decode b_Rea_readEnd 20 = .ok (.ifCond .eq 13, 3) := by decide +kernel
theorem d_Rea_readEnd_23 : decode b_Rea_readEnd 23 = .ok (.new 15, 3) := by decide +kernel
theorem d_Rea_readEnd_26 : decode b_Rea_readEnd 26 = .ok (.dup, 1) := by decide +kernel
theorem d_Rea_readEnd_27 : decode b_Rea_readEnd 27 = .ok (.ldc 50, 2) := by decide +kernel
theorem d_Rea_readEnd_29 : decode b_Rea_readEnd 29 = .ok (.invokespecial 19, 3) := by decide +kernel
theorem d_Rea_readEnd_32 : decode b_Rea_readEnd 32 = .ok (.athrow, 1) := by decide +kernel
theorem d_Rea_readEnd_33 : decode b_Rea_readEnd 33 = .ok (.aload_n 0, 1) := by decide +kernel
theorem d_Rea_readEnd_34 : decode b_Rea_readEnd 34 = .ok (.getfield 9, 3) := by decide +kernel
theorem d_Rea_readEnd_37 : decode b_Rea_readEnd 37 = .ok (.aload_n 0, 1) := by decide +kernel
theorem d_Rea_readEnd_38 : decode b_Rea_readEnd 38 = .ok (.getfield 32, 3) := by decide +kernel
theorem d_Rea_readEnd_41 : decode b_Rea_readEnd 41 = .ok (.iconst 1, 1) := by decide +kernel
theorem d_Rea_readEnd_42 : decode b_Rea_readEnd 42 = .ok (.isub, 1) := by decide +kernel
theorem d_Rea_readEnd_43 : decode b_Rea_readEnd 43 = .ok (.iaload, 1) := by decide +kernel
theorem d_Rea_readEnd_44 : decode b_Rea_readEnd 44 = .ok (.sipush 255, 3) := by decide +kernel
theorem d_Rea_readEnd_47 : decode b_Rea_readEnd 47 = .ok (.if_icmp .ne 35, 3) := by decide +kernel
theorem d_Rea_readEnd_50 : decode b_Rea_readEnd 50 = .ok (.aload_n 0, 1) := by decide +kernel
theorem d_Rea_readEnd_51 : decode b_Rea_readEnd 51 = .ok (.getfield 9, 3) := by decide +kernel
theorem d_Rea_readEnd_54 : decode b_Rea_readEnd 54 = .ok (.aload_n 0, 1) := by decide +kernel
theorem d_Rea_readEnd_55 : decode b_Rea_readEnd 55 = .ok (.getfield 32, 3) := by decide +kernel
theorem d_Rea_readEnd_58 : decode b_Rea_readEnd 58 = .ok (.iaload, 1) := by decide +kernel
theorem d_Rea_readEnd_59 : decode b_Rea_readEnd 59 = .ok (.ifCond .eq 13, 3) := by decide +kernel
theorem d_Rea_readEnd_62 : decode b_Rea_readEnd 62 = .ok (.new 15, 3) := by decide +kernel
theorem d_Rea_readEnd_65 : decode b_Rea_readEnd 65 = .ok (.dup, 1) := by decide +kernel
theorem d_Rea_readEnd_66 : decode b_Rea_readEnd 66 = .ok (.ldc 52, 2) := by decide +kernel
theorem d_Rea_readEnd_68 : decode b_Rea_readEnd 68 = .ok (.invokespecial 19, 3) := by decide +kernel
theorem d_Rea_readEnd_71 : decode b_Rea_readEnd 71 = .ok (.athrow, 1) := by decide +kernel
theorem d_Rea_readEnd_72 : decode b_Rea_readEnd 72 = .ok (.aload_n 0, 1) := by decide +kernel
theorem d_Rea_readEnd_73 : decode b_Rea_readEnd 73 = .ok (.dup, 1) := by decide +kernel
theorem d_Rea_readEnd_74 : decode b_Rea_readEnd 74 = .ok (.getfield 32, 3) := by decide +kernel
theorem d_Rea_readEnd_77 : decode b_Rea_readEnd 77 = .ok (.iconst 1, 1) := by decide +kernel
theorem d_Rea_readEnd_78 : decode b_Rea_readEnd 78 = .ok (.iadd, 1) := by decide +kernel
theorem d_Rea_readEnd_79 : decode b_Rea_readEnd 79 = .ok (.putfield 32, 3) := by decide +kernel
theorem d_Rea_readEnd_82 : decode b_Rea_readEnd 82 = .ok (.aload_n 0, 1) := by decide +kernel
theorem d_Rea_readEnd_83 : decode b_Rea_readEnd 83 = .ok (.getfield 32, 3) := by decide +kernel
theorem d_Rea_readEnd_86 : decode b_Rea_readEnd 86 = .ok (.aload_n 0, 1) := by decide +kernel
theorem d_Rea_readEnd_87 : decode b_Rea_readEnd 87 = .ok (.getfield 28, 3) := by decide +kernel
theorem d_Rea_readEnd_90 : decode b_Rea_readEnd 90 = .ok (.if_icmp .ne 35, 3) := by decide +kernel
theorem d_Rea_readEnd_93 : decode b_Rea_readEnd 93 = .ok (.aload_n 0, 1) := by decide +kernel
theorem d_Rea_readEnd_94 : decode b_Rea_readEnd 94 = .ok (.getfield 9, 3) := by decide +kernel
theorem d_Rea_readEnd_97 : decode b_Rea_readEnd 97 = .ok (.aload_n 0, 1) := by decide +kernel
theorem d_Rea_readEnd_98 : decode b_Rea_readEnd 98 = .ok (.getfield 28, 3) := by decide +kernel
theorem d_Rea_readEnd_101 : decode b_Rea_readEnd 101 = .ok (.iaload, 1) := by decide +kernel
theorem d_Rea_readEnd_102 : decode b_Rea_readEnd 102 = .ok (.sipush 255, 3) := by decide +kernel
theorem d_Rea_readEnd_105 : decode b_Rea_readEnd 105 = .ok (.if_icmp .ne 20, 3) := by decide +kernel
theorem d_Rea_readEnd_108 : decode b_Rea_readEnd 108 = .ok (.aload_n 0, 1) := by decide +kernel
theorem d_Rea_readEnd_109 : decode b_Rea_readEnd 109 = .ok (.getfield 9, 3) := by decide +kernel
theorem d_Rea_readEnd_112 : decode b_Rea_readEnd 112 = .ok (.aload_n 0, 1) := by decide +kernel
theorem d_Rea_readEnd_113 : decode b_Rea_readEnd 113 = .ok (.getfield 28, 3) := by decide +kernel
theorem d_Rea_readEnd_116 : decode b_Rea_readEnd 116 = .ok (.iconst 1, 1) := by decide +kernel
theorem d_Rea_readEnd_117 : decode b_Rea_readEnd 117 = .ok (.iadd, 1) := by decide +kernel
theorem d_Rea_readEnd_118 : decode b_Rea_readEnd 118 = .ok (.iaload, 1) := by decide +kernel
theorem d_Rea_readEnd_119 : decode b_Rea_readEnd 119 = .ok (.sipush 217, 3) := by decide +kernel
theorem d_Rea_readEnd_122 : decode b_Rea_readEnd 122 = .ok (.if_icmp .eq 13, 3) := by decide +kernel
theorem d_Rea_readEnd_125 : decode b_Rea_readEnd 125 = .ok (.new 15, 3) := by decide +kernel
theorem d_Rea_readEnd_128 : decode b_Rea_readEnd 128 = .ok (.dup, 1) := by decide +kernel
theorem d_Rea_readEnd_129 : decode b_Rea_readEnd 129 = .ok (.ldc 54, 2) := by decide +kernel
theorem d_Rea_readEnd_131 : decode b_Rea_readEnd 131 = .ok (.invokespecial 19, 3) := by decide +kernel
theorem d_Rea_readEnd_134 : decode b_Rea_readEnd 134 = .ok (.athrow, 1) := by decide +kernel
theorem d_Rea_readEnd_135 : decode b_Rea_readEnd 135 = .ok (.return_, 1) := by decide +kernel
