theorem d_Pic_becomeFine_0 : decode b_Pic_becomeFine 0 = .ok (.aload_n 0, 1) := by decide +kernel
theorem d_Pic_becomeFine_1 : decode b_Pic_becomeFine 1 = .ok (.aload_n 0, 1) := by decide +kernel
theorem d_Pic_becomeFine_2 : decode b_Pic_becomeFine 2 = .ok (.iload_n 1, 1) := by decide +kernel
theorem d_Pic_becomeFine_3 : decode b_Pic_becomeFine 3 = .ok (.iconst 2, 1) := by decide +kernel
theorem d_Pic_becomeFine_4 : decode b_Pic_becomeFine 4 = .ok (.iadd, 1) := by decide +kernel
theorem d_Pic_becomeFine_5 : decode b_Pic_becomeFine 5 = .ok (.iconst 3, 1) := by decide +kernel
theorem d_Pic_becomeFine_6 : decode b_Pic_becomeFine 6 = .ok (.aload_n 0, 1) := by decide +kernel
theorem d_Pic_becomeFine_7 : decode b_Pic_becomeFine 7 = .ok (.getfield 23, 3) := by decide +kernel
theorem d_Pic_becomeFine_10 : decode b_Pic_becomeFine 10 = .ok (.imul, 1) := by decide +kernel
theorem d_Pic_becomeFine_11 : decode b_Pic_becomeFine 11 = .ok (.iadd, 1) := by decide +kernel
theorem d_Pic_becomeFine_12 : decode b_Pic_becomeFine 12 = .ok (.aload_n 0, 1) := by decide +kernel
theorem d_Pic_becomeFine_13 : decode b_Pic_becomeFine 13 = .ok (.getfield 23, 3) := by decide +kernel
theorem d_Pic_becomeFine_16 : decode b_Pic_becomeFine 16 = .ok (.iconst 1, 1) := by decide +kernel
theorem d_Pic_becomeFine_17 : decode b_Pic_becomeFine 17 = .ok (.iadd, 1) := by decide +kernel
theorem d_Pic_becomeFine_18 : decode b_Pic_becomeFine 18 = .ok (.invokevirtual 54, 3) := by decide +kernel
theorem d_Pic_becomeFine_21 : decode b_Pic_becomeFine 21 = .ok (.putfield 57, 3) := by decide +kernel
theorem d_Pic_becomeFine_24 : decode b_Pic_becomeFine 24 = .ok (.aload_n 0, 1) := by decide +kernel
theorem d_Pic_becomeFine_25 : decode b_Pic_becomeFine 25 = .ok (.aload_n 0, 1) := by decide +kernel
theorem d_Pic_becomeFine_26 : decode b_Pic_becomeFine 26 = .ok (.iconst 4, 1) := by decide +kernel
theorem d_Pic_becomeFine_27 : decode b_Pic_becomeFine 27 = .ok (.iload_n 1, 1) := by decide +kernel
theorem d_Pic_becomeFine_28 : decode b_Pic_becomeFine 28 = .ok (.imul, 1) := by decide +kernel
theorem d_Pic_becomeFine_29 : decode b_Pic_becomeFine 29 = .ok (.iconst 3, 1) := by decide +kernel
theorem d_Pic_becomeFine_30 : decode b_Pic_becomeFine 30 = .ok (.iadd, 1) := by decide +kernel
theorem d_Pic_becomeFine_31 : decode b_Pic_becomeFine 31 = .ok (.iconst 5, 1) := by decide +kernel
theorem d_Pic_becomeFine_32 : decode b_Pic_becomeFine 32 = .ok (.aload_n 0, 1) := by decide +kernel
theorem d_Pic_becomeFine_33 : decode b_Pic_becomeFine 33 = .ok (.getfield 23, 3) := by decide +kernel
theorem d_Pic_becomeFine_36 : decode b_Pic_becomeFine 36 = .ok (.imul, 1) := by decide +kernel
theorem d_Pic_becomeFine_37 : decode b_Pic_becomeFine 37 = .ok (.iadd, 1) := by decide +kernel
theorem d_Pic_becomeFine_38 : decode b_Pic_becomeFine 38 = .ok (.aload_n 0, 1) := by decide +kernel
theorem d_Pic_becomeFine_39 : decode b_Pic_becomeFine 39 = .ok (.getfield 57, 3) := by decide +kernel
theorem d_Pic_becomeFine_42 : decode b_Pic_becomeFine 42 = .ok (.invokevirtual 54, 3) := by decide +kernel
theorem d_Pic_becomeFine_45 : decode b_Pic_becomeFine 45 = .ok (.putfield 60, 3) := by decide +kernel
theorem d_Pic_becomeFine_48 : decode b_Pic_becomeFine 48 = .ok (.aload_n 0, 1) := by decide +kernel
theorem d_Pic_becomeFine_49 : decode b_Pic_becomeFine 49 = .ok (.aload_n 0, 1) := by decide +kernel
theorem d_Pic_becomeFine_50 : decode b_Pic_becomeFine 50 = .ok (.bipush 17, 2) := by decide +kernel
theorem d_Pic_becomeFine_52 : decode b_Pic_becomeFine 52 = .ok (.iload_n 1, 1) := by decide +kernel
theorem d_Pic_becomeFine_53 : decode b_Pic_becomeFine 53 = .ok (.imul, 1) := by decide +kernel
theorem d_Pic_becomeFine_54 : decode b_Pic_becomeFine 54 = .ok (.iconst 4, 1) := by decide +kernel
theorem d_Pic_becomeFine_55 : decode b_Pic_becomeFine 55 = .ok (.iadd, 1) := by decide +kernel
theorem d_Pic_becomeFine_56 : decode b_Pic_becomeFine 56 = .ok (.bipush 7, 2) := by decide +kernel
theorem d_Pic_becomeFine_58 : decode b_Pic_becomeFine 58 = .ok (.aload_n 0, 1) := by decide +kernel
theorem d_Pic_becomeFine_59 : decode b_Pic_becomeFine 59 = .ok (.getfield 23, 3) := by decide +kernel
theorem d_Pic_becomeFine_62 : decode b_Pic_becomeFine 62 = .ok (.imul, 1) := by decide +kernel
theorem d_Pic_becomeFine_63 : decode b_Pic_becomeFine 63 = .ok (.iadd, 1) := by decide +kernel
theorem d_Pic_becomeFine_64 : decode b_Pic_becomeFine 64 = .ok (.aload_n 0, 1) := by decide +kernel
theorem d_Pic_becomeFine_65 : decode b_Pic_becomeFine 65 = .ok (.getfield 60, 3) := by decide +kernel
theorem d_Pic_becomeFine_68 : decode b_Pic_becomeFine 68 = .ok (.invokevirtual 54, 3) := by decide +kernel
theorem d_Pic_becomeFine_71 : decode b_Pic_becomeFine 71 = .ok (.putfield 63, 3) := by decide +kernel
theorem d_Pic_becomeFine_74 : decode b_Pic_becomeFine 74 = .ok (.return_, 1) := by decide +kernel
theorem d_Pic_bounded_0 : decode b_Pic_bounded 0 = .ok (.iconst 0, 1) := by decide +kernel
theorem d_Pic_bounded_1 : decode b_Pic_bounded 1 = .ok (.aload_n 0, 1) := by decide +kernel
theorem d_Pic_bounded_2 : decode b_Pic_bounded 2 = .ok (.getfield 20, 3) := by decide +kernel
theorem d_Pic_bounded_5 : decode b_Pic_bounded 5 = .ok (.iload_n 1, 1) := by decide +kernel
theorem d_Pic_bounded_6 : decode b_Pic_bounded 6 = .ok (.invokestatic 66, 3) := by decide +kernel
theorem d_Pic_bounded_9 : decode b_Pic_bounded 9 = .ok (.invokestatic 39, 3) := by decide +kernel
theorem d_Pic_bounded_12 : decode b_Pic_bounded 12 = .ok (.ireturn, 1) := by decide +kernel
theorem d_Pic_clamp_0 : decode b_Pic_clamp 0 = .ok (.iload_n 1, 1) := by decide +kernel
theorem d_Pic_clamp_1 : decode b_Pic_clamp 1 = .ok (.aload_n 0, 1) := by decide +kernel
theorem d_Pic_clamp_2 : decode b_Pic_clamp 2 = .ok (.getfield 20, 3) := by decide +kernel
theorem d_Pic_clamp_5 : decode b_Pic_clamp 5 = .ok (.if_icmp .gt 8, 3) := by decide +kernel
theorem d_Pic_clamp_8 : decode b_Pic_clamp 8 = .ok (.iload_n 1, 1) := by decide +kernel
theorem d_Pic_clamp_9 : decode b_Pic_clamp 9 = .ok (.iload_n 2, 1) := by decide +kernel
theorem d_Pic_clamp_10 : decode b_Pic_clamp 10 = .ok (.if_icmp .ge 7, 3) := by decide +kernel
theorem d_Pic_clamp_13 : decode b_Pic_clamp 13 = .ok (.iload_n 2, 1) := by decide +kernel
theorem d_Pic_clamp_14 : decode b_Pic_clamp 14 = .ok (.goto 4, 3) := by decide +kernel
theorem d_Pic_clamp_17 : decode b_Pic_clamp 17 = .ok (.iload_n 1, 1) := by decide +kernel
theorem d_Pic_clamp_18 : decode b_Pic_clamp 18 = .ok (.ireturn, 1) := by decide +kernel
theorem d_Pic_divided_0 : decode b_Pic_divided 0 = .ok (.iload_n 1, 1) := by decide +kernel
theorem d_Pic_divided_1 : decode b_Pic_divided 1 = .ok (.ifCond .le 17, 3) := by decide +kernel
theorem d_Pic_divided_4 : decode b_Pic_divided 4 = .ok (.iload_n 1, 1) := by decide +kernel
theorem d_Pic_divided_5 : decode b_Pic_divided 5 = .ok (.aload_n 0, 1) := by decide +kernel
theorem d_Pic_divided_6 : decode b_Pic_divided 6 = .ok (.getfield 23, 3) := by decide +kernel
theorem d_Pic_divided_9 : decode b_Pic_divided 9 = .ok (.iadd, 1) := by decide +kernel
theorem d_Pic_divided_10 : decode b_Pic_divided 10 = .ok (.aload_n 0, 1) := by decide +kernel
theorem d_Pic_divided_11 : decode b_Pic_divided 11 = .ok (.getfield 26, 3) := by decide +kernel
theorem d_Pic_divided_14 : decode b_Pic_divided 14 = .ok (.idiv, 1) := by decide +kernel
theorem d_Pic_divided_15 : decode b_Pic_divided 15 = .ok (.goto 15, 3) := by decide +kernel
theorem d_Pic_divided_18 : decode b_Pic_divided 18 = .ok (.aload_n 0, 1) := by decide +kernel
theorem d_Pic_divided_19 : decode b_Pic_divided 19 = .ok (.getfield 23, 3) := by decide +kernel
theorem d_Pic_divided_22 : decode b_Pic_divided 22 = .ok (.iload_n 1, 1) := by decide +kernel
theorem d_Pic_divided_23 : decode b_Pic_divided 23 = .ok (.isub, 1) := by decide +kernel
theorem d_Pic_divided_24 : decode b_Pic_divided 24 = .ok (.aload_n 0, 1) := by decide +kernel
theorem d_Pic_divided_25 : decode b_Pic_divided 25 = .ok (.getfield 26, 3) := by decide +kernel
theorem d_Pic_divided_28 : decode b_Pic_divided 28 = .ok (.idiv, 1) := by decide +kernel
theorem d_Pic_divided_29 : decode b_Pic_divided 29 = .ok (.ineg, 1) := by decide +kernel
theorem d_Pic_divided_30 : decode b_Pic_divided 30 = .ok (.ireturn, 1) := by decide +kernel
theorem d_Pic_fits_0 : decode b_Pic_fits 0 = .ok (.iload_n 0, 1) := by decide +kernel
theorem d_Pic_fits_1 : decode b_Pic_fits 1 = .ok (.iconst 1, 1) := by decide +kernel
theorem d_Pic_fits_2 : decode b_Pic_fits 2 = .ok (.if_icmp .lt 52, 3) := by decide +kernel
theorem d_Pic_fits_5 : decode b_Pic_fits 5 = .ok (.iload_n 0, 1) := by decide +kernel
theorem d_Pic_fits_6 : decode b_Pic_fits 6 = .ok (.bipush 8, 2) := by decide +kernel
theorem d_Pic_fits_8 : decode b_Pic_fits 8 = .ok (.if_icmp .gt 46, 3) := by decide +kernel
theorem d_Pic_fits_11 : decode b_Pic_fits 11 = .ok (.iload_n 1, 1) := by decide +kernel
theorem d_Pic_fits_12 : decode b_Pic_fits 12 = .ok (.iconst 1, 1) := by decide +kernel
theorem d_Pic_fits_13 : decode b_Pic_fits 13 = .ok (.if_icmp .lt 41, 3) := by decide +kernel
theorem d_Pic_fits_16 : decode b_Pic_fits 16 = .ok (.iload_n 1, 1) := by decide +kernel
theorem d_Pic_fits_17 : decode b_Pic_fits 17 = .ok (.bipush 8, 2) := by decide +kernel
theorem d_Pic_fits_19 : decode b_Pic_fits 19 = .ok (.if_icmp .gt 35, 3) := by decide +kernel
theorem d_Pic_fits_22 : decode b_Pic_fits 22 = .ok (.iload_n 2, 1) := by decide +kernel
theorem d_Pic_fits_23 : decode b_Pic_fits 23 = .ok (.iconst 3, 1) := by decide +kernel
theorem d_Pic_fits_24 : decode b_Pic_fits 24 = .ok (.if_icmp .lt 30, 3) := by decide +kernel
theorem d_Pic_fits_27 : decode b_Pic_fits 27 = .ok (.iload_n 2, 1) := by decide +kernel
theorem d_Pic_fits_28 : decode b_Pic_fits 28 = .ok (.sipush 255, 3) := by decide +kernel
theorem d_Pic_fits_31 : decode b_Pic_fits 31 = .ok (.if_icmp .gt 23, 3) := by decide +kernel
theorem d_Pic_fits_34 : decode b_Pic_fits 34 = .ok (.iload_n 3, 1) := by decide +kernel
theorem d_Pic_fits_35 : decode b_Pic_fits 35 = .ok (.ifCond .lt 19, 3) := by decide +kernel
theorem d_Pic_fits_38 : decode b_Pic_fits 38 = .ok (.iload_n 3, 1) := by decide +kernel
theorem d_Pic_fits_39 : decode b_Pic_fits 39 = .ok (.iconst 3, 1) := by decide +kernel
theorem d_Pic_fits_40 : decode b_Pic_fits 40 = .ok (.if_icmp .gt 14, 3) := by decide +kernel
theorem d_Pic_fits_43 : decode b_Pic_fits 43 = .ok (.iload_n 3, 1) := by decide +kernel
theorem d_Pic_fits_44 : decode b_Pic_fits 44 = .ok (.iload_n 2, 1) := by decide +kernel
theorem d_Pic_fits_45 : decode b_Pic_fits 45 = .ok (.iconst 2, 1) := by decide +kernel
theorem d_Pic_fits_46 : decode b_Pic_fits 46 = .ok (.idiv, 1) := by decide +kernel
theorem d_Pic_fits_47 : decode b_Pic_fits 47 = .ok (.if_icmp .gt 7, 3) := by decide +kernel
theorem d_Pic_fits_50 : decode b_Pic_fits 50 = .ok (.iconst 1, 1) := by decide +kernel
theorem d_Pic_fits_51 : decode b_Pic_fits 51 = .ok (.goto 4, 3) := by decide +kernel
theorem d_Pic_fits_54 : decode b_Pic_fits 54 = .ok (.iconst 0, 1) := by decide +kernel
theorem d_Pic_fits_55 : decode b_Pic_fits 55 = .ok (.ireturn, 1) := by decide +kernel
theorem d_Pic_hasPlace_0 : decode b_Pic_hasPlace 0 = .ok (.iload_n 1, 1) := by decide +kernel
theorem d_Pic_hasPlace_1 : decode b_Pic_hasPlace 1 = .ok (.ifCond .lt 27, 3) := by decide +kernel
theorem d_Pic_hasPlace_4 : decode b_Pic_hasPlace 4 = .ok (.iload_n 1, 1) := by decide +kernel
theorem d_Pic_hasPlace_5 : decode b_Pic_hasPlace 5 = .ok (.aload_n 0, 1) := by decide +kernel
theorem d_Pic_hasPlace_6 : decode b_Pic_hasPlace 6 = .ok (.getfield 13, 3) := by decide +kernel
theorem d_Pic_hasPlace_9 : decode b_Pic_hasPlace 9 = .ok (.if_icmp .ge 19, 3) := by decide +kernel
theorem d_Pic_hasPlace_12 : decode b_Pic_hasPlace 12 = .ok (.iload_n 2, 1) := by decide +kernel
theorem d_Pic_hasPlace_13 : decode b_Pic_hasPlace 13 = .ok (.ifCond .lt 15, 3) := by decide +kernel
theorem d_Pic_hasPlace_16 : decode b_Pic_hasPlace 16 = .ok (.iload_n 2, 1) := by decide +kernel
theorem d_Pic_hasPlace_17 : decode b_Pic_hasPlace 17 = .ok (.aload_n 0, 1) := by decide +kernel
theorem d_Pic_hasPlace_18 : decode b_Pic_hasPlace 18 = .ok (.getfield 17, 3) := by decide +kernel
theorem d_Pic_hasPlace_21 : decode b_Pic_hasPlace 21 = .ok (.if_icmp .ge 7, 3) := by decide +kernel
theorem d_Pic_hasPlace_24 : decode b_Pic_hasPlace 24 = .ok (.iconst 1, 1) := by decide +kernel
theorem d_Pic_hasPlace_25 : decode b_Pic_hasPlace 25 = .ok (.goto 4, 3) := by decide +kernel
theorem d_Pic_hasPlace_28 : decode b_Pic_hasPlace 28 = .ok (.iconst 0, 1) := by decide +kernel
theorem d_Pic_hasPlace_29 : decode b_Pic_hasPlace 29 = .ok (.ireturn, 1) := by decide +kernel
theorem d_Pic_isNear_0 : decode b_Pic_isNear 0 = .ok (.iload_n 1, 1) := by decide +kernel
theorem d_Pic_isNear_1 : decode b_Pic_isNear 1 = .ok (.aload_n 0, 1) := by decide +kernel
theorem d_Pic_isNear_2 : decode b_Pic_isNear 2 = .ok (.getfield 23, 3) := by decide +kernel
theorem d_Pic_isNear_5 : decode b_Pic_isNear 5 = .ok (.ineg, 1) := by decide +kernel
theorem d_Pic_isNear_6 : decode b_Pic_isNear 6 = .ok (.if_icmp .lt 15, 3) := by decide +kernel
theorem d_Pic_isNear_9 : decode b_Pic_isNear 9 = .ok (.iload_n 1, 1) := by decide +kernel
theorem d_Pic_isNear_10 : decode b_Pic_isNear 10 = .ok (.aload_n 0, 1) := by decide +kernel
theorem d_Pic_isNear_11 : decode b_Pic_isNear 11 = .ok (.getfield 23, 3) := by decide +kernel
theorem d_Pic_isNear_14 : decode b_Pic_isNear 14 = .ok (.if_icmp .gt 7, 3) := by decide +kernel
theorem d_Pic_isNear_17 : decode b_Pic_isNear 17 = .ok (.iconst 1, 1) := by decide +kernel
theorem d_Pic_isNear_18 : decode b_Pic_isNear 18 = .ok (.goto 4, 3) := by decide +kernel
theorem d_Pic_isNear_21 : decode b_Pic_isNear 21 = .ok (.iconst 0, 1) := by decide +kernel
theorem d_Pic_isNear_22 : decode b_Pic_isNear 22 = .ok (.ireturn, 1) := by decide +kernel
theorem d_Pic_isReduced_0 : decode b_Pic_isReduced 0 = .ok (.iload_n 1, 1) := by decide +kernel
theorem d_Pic_isReduced_1 : decode b_Pic_isReduced 1 = .ok (.aload_n 0, 1) := by decide +kernel
theorem d_Pic_isReduced_2 : decode b_Pic_isReduced 2 = .ok (.getfield 29, 3) := by decide +kernel
theorem d_Pic_isReduced_5 : decode b_Pic_isReduced 5 = .ok (.iconst 2, 1) := by decide +kernel
theorem d_Pic_isReduced_6 : decode b_Pic_isReduced 6 = .ok (.idiv, 1) := by decide +kernel
theorem d_Pic_isReduced_7 : decode b_Pic_isReduced 7 = .ok (.ineg, 1) := by decide +kernel
theorem d_Pic_isReduced_8 : decode b_Pic_isReduced 8 = .ok (.if_icmp .lt 19, 3) := by decide +kernel
theorem d_Pic_isReduced_11 : decode b_Pic_isReduced 11 = .ok (.iload_n 1, 1) := by decide +kernel
theorem d_Pic_isReduced_12 : decode b_Pic_isReduced 12 = .ok (.aload_n 0, 1) := by decide +kernel
theorem d_Pic_isReduced_13 : decode b_Pic_isReduced 13 = .ok (.getfield 29, 3) := by decide +kernel
theorem d_Pic_isReduced_16 : decode b_Pic_isReduced 16 = .ok (.iconst 1, 1) := by decide +kernel
theorem d_Pic_isReduced_17 : decode b_Pic_isReduced 17 = .ok (.iadd, 1) := by decide +kernel
theorem d_Pic_isReduced_18 : decode b_Pic_isReduced 18 = .ok (.iconst 2, 1) := by decide +kernel
theorem d_Pic_isReduced_19 : decode b_Pic_isReduced 19 = .ok (.idiv, 1) := by decide +kernel
theorem d_Pic_isReduced_20 : decode b_Pic_isReduced 20 = .ok (.if_icmp .ge 7, 3) := by decide +kernel
theorem d_Pic_isReduced_23 : decode b_Pic_isReduced 23 = .ok (.iconst 1, 1) := by decide +kernel
theorem d_Pic_isReduced_24 : decode b_Pic_isReduced 24 = .ok (.goto 4, 3) := by decide +kernel
theorem d_Pic_isReduced_27 : decode b_Pic_isReduced 27 = .ok (.iconst 0, 1) := by decide +kernel
theorem d_Pic_isReduced_28 : decode b_Pic_isReduced 28 = .ok (.ireturn, 1) := by decide +kernel
theorem d_Pic_leastPower_0 : decode b_Pic_leastPower 0 = .ok (.iload_n 0, 1) := by decide +kernel
theorem d_Pic_leastPower_1 : decode b_Pic_leastPower 1 = .ok (.istore_n 2, 1) := by decide +kernel
theorem d_Pic_leastPower_2 : decode b_Pic_leastPower 2 = .ok (.iload_n 2, 1) := by decide +kernel
theorem d_Pic_leastPower_3 : decode b_Pic_leastPower 3 = .ok (.bipush 30, 2) := by decide +kernel
theorem d_Pic_leastPower_5 : decode b_Pic_leastPower 5 = .ok (.if_icmp .ge 16, 3) := by decide +kernel
theorem d_Pic_leastPower_8 : decode b_Pic_leastPower 8 = .ok (.iconst 1, 1) := by decide +kernel
theorem d_Pic_leastPower_9 : decode b_Pic_leastPower 9 = .ok (.iload_n 2, 1) := by decide +kernel
theorem d_Pic_leastPower_10 : decode b_Pic_leastPower 10 = .ok (.ishl, 1) := by decide +kernel
theorem d_Pic_leastPower_11 : decode b_Pic_leastPower 11 = .ok (.iload_n 1, 1) := by decide +kernel
theorem d_Pic_leastPower_12 : decode b_Pic_leastPower 12 = .ok (.if_icmp .ge 9, 3) := by decide +kernel
theorem d_Pic_leastPower_15 : decode b_Pic_leastPower 15 = .ok (.iinc 2 1, 3) := by decide +kernel
theorem d_Pic_leastPower_18 : decode b_Pic_leastPower 18 = .ok (.goto (-16), 3) := by decide +kernel
theorem d_Pic_leastPower_21 : decode b_Pic_leastPower 21 = .ok (.iload_n 2, 1) := by decide +kernel
theorem d_Pic_leastPower_22 : decode b_Pic_leastPower 22 = .ok (.ireturn, 1) := by decide +kernel
theorem d_Pic_level_0 : decode b_Pic_level 0 = .ok (.iload_n 1, 1) := by decide +kernel
theorem d_Pic_level_1 : decode b_Pic_level 1 = .ok (.aload_n 0, 1) := by decide +kernel
theorem d_Pic_level_2 : decode b_Pic_level 2 = .ok (.getfield 63, 3) := by decide +kernel
theorem d_Pic_level_5 : decode b_Pic_level 5 = .ok (.ineg, 1) := by decide +kernel
theorem d_Pic_level_6 : decode b_Pic_level 6 = .ok (.if_icmp .gt 6, 3) := by decide +kernel
theorem d_Pic_level_9 : decode b_Pic_level 9 = .ok (.bipush (-4), 2) := by decide +kernel
theorem d_Pic_level_11 : decode b_Pic_level 11 = .ok (.ireturn, 1) := by decide +kernel
theorem d_Pic_level_12 : decode b_Pic_level 12 = .ok (.iload_n 1, 1) := by decide +kernel
theorem d_Pic_level_13 : decode b_Pic_level 13 = .ok (.aload_n 0, 1) := by decide +kernel
theorem d_Pic_level_14 : decode b_Pic_level 14 = .ok (.getfield 60, 3) := by decide +kernel
theorem d_Pic_level_17 : decode b_Pic_level 17 = .ok (.ineg, 1) := by decide +kernel
theorem d_Pic_level_18 : decode b_Pic_level 18 = .ok (.if_icmp .gt 6, 3) := by decide +kernel
theorem d_Pic_level_21 : decode b_Pic_level 21 = .ok (.bipush (-3), 2) := by decide +kernel
theorem d_Pic_level_23 : decode b_Pic_level 23 = .ok (.ireturn, 1) := by decide +kernel
theorem d_Pic_level_24 : decode b_Pic_level 24 = .ok (.iload_n 1, 1) := by decide +kernel
theorem d_Pic_level_25 : decode b_Pic_level 25 = .ok (.aload_n 0, 1) := by decide +kernel
theorem d_Pic_level_26 : decode b_Pic_level 26 = .ok (.getfield 57, 3) := by decide +kernel
theorem d_Pic_level_29 : decode b_Pic_level 29 = .ok (.ineg, 1) := by decide +kernel
theorem d_Pic_level_30 : decode b_Pic_level 30 = .ok (.if_icmp .gt 6, 3) := by decide +kernel
theorem d_Pic_level_33 : decode b_Pic_level 33 = .ok (.bipush (-2), 2) := by decide +kernel
theorem d_Pic_level_35 : decode b_Pic_level 35 = .ok (.ireturn, 1) := by decide +kernel
theorem d_Pic_level_36 : decode b_Pic_level 36 = .ok (.iload_n 1, 1) := by decide +kernel
theorem d_Pic_level_37 : decode b_Pic_level 37 = .ok (.aload_n 0, 1) := by decide +kernel
theorem d_Pic_level_38 : decode b_Pic_level 38 = .ok (.getfield 23, 3) := by decide +kernel
theorem d_Pic_level_41 : decode b_Pic_level 41 = .ok (.ineg, 1) := by decide +kernel
theorem d_Pic_level_42 : decode b_Pic_level 42 = .ok (.if_icmp .ge 5, 3) := by decide +kernel
theorem d_Pic_level_45 : decode b_Pic_level 45 = .ok (.iconst (-1), 1) := by decide +kernel
theorem d_Pic_level_46 : decode b_Pic_level 46 = .ok (.ireturn, 1) := by decide +kernel
theorem d_Pic_level_47 : decode b_Pic_level 47 = .ok (.iload_n 1, 1) := by decide +kernel
theorem d_Pic_level_48 : decode b_Pic_level 48 = .ok (.aload_n 0, 1) := by decide +kernel
theorem d_Pic_level_49 : decode b_Pic_level 49 = .ok (.getfield 23, 3) := by decide +kernel
theorem d_Pic_level_52 : decode b_Pic_level 52 = .ok (.if_icmp .gt 5, 3) := by decide +kernel
theorem d_Pic_level_55 : decode b_Pic_level 55 = .ok (.iconst 0, 1) := by decide +kernel
theorem d_Pic_level_56 : decode b_Pic_level 56 = .ok (.ireturn, 1) := by decide +kernel
theorem d_Pic_level_57 : decode b_Pic_level 57 = .ok (.iload_n 1, 1) := by decide +kernel
theorem d_Pic_level_58 : decode b_Pic_level 58 = .ok (.aload_n 0, 1) := by decide +kernel
theorem d_Pic_level_59 : decode b_Pic_level 59 = .ok (.getfield 57, 3) := by decide +kernel
theorem d_Pic_level_62 : decode b_Pic_level 62 = .ok (.if_icmp .ge 5, 3) := by decide +kernel
theorem d_Pic_level_65 : decode b_Pic_level 65 = .ok (.iconst 1, 1) := by decide +kernel
theorem d_Pic_level_66 : decode b_Pic_level 66 = .ok (.ireturn, 1) := by decide +kernel
theorem d_Pic_level_67 : decode b_Pic_level 67 = .ok (.iload_n 1, 1) := by decide +kernel
theorem d_Pic_level_68 : decode b_Pic_level 68 = .ok (.aload_n 0, 1) := by decide +kernel
theorem d_Pic_level_69 : decode b_Pic_level 69 = .ok (.getfield 60, 3) := by decide +kernel
theorem d_Pic_level_72 : decode b_Pic_level 72 = .ok (.if_icmp .ge 5, 3) := by decide +kernel
theorem d_Pic_level_75 : decode b_Pic_level 75 = .ok (.iconst 2, 1) := by decide +kernel
theorem d_Pic_level_76 : decode b_Pic_level 76 = .ok (.ireturn, 1) := by decide +kernel
theorem d_Pic_level_77 : decode b_Pic_level 77 = .ok (.iload_n 1, 1) := by decide +kernel
theorem d_Pic_level_78 : decode b_Pic_level 78 = .ok (.aload_n 0, 1) := by decide +kernel
theorem d_Pic_level_79 : decode b_Pic_level 79 = .ok (.getfield 63, 3) := by decide +kernel
theorem d_Pic_level_82 : decode b_Pic_level 82 = .ok (.if_icmp .ge 5, 3) := by decide +kernel
theorem d_Pic_level_85 : decode b_Pic_level 85 = .ok (.iconst 3, 1) := by decide +kernel
theorem d_Pic_level_86 : decode b_Pic_level 86 = .ok (.ireturn, 1) := by decide +kernel
theorem d_Pic_level_87 : decode b_Pic_level 87 = .ok (.iconst 4, 1) := by decide +kernel
theorem d_Pic_level_88 : decode b_Pic_level 88 = .ok (.ireturn, 1) := by decide +kernel
theorem d_Pic_place_0 : decode b_Pic_place 0 = .ok (.iload_n 1, 1) := by decide +kernel
theorem d_Pic_place_1 : decode b_Pic_place 1 = .ok (.bipush 8, 2) := by decide +kernel
theorem d_Pic_place_3 : decode b_Pic_place 3 = .ok (.imul, 1) := by decide +kernel
theorem d_Pic_place_4 : decode b_Pic_place 4 = .ok (.iload_n 0, 1) := by decide +kernel
theorem d_Pic_place_5 : decode b_Pic_place 5 = .ok (.iadd, 1) := by decide +kernel
theorem d_Pic_place_6 : decode b_Pic_place 6 = .ok (.ireturn, 1) := by decide +kernel
theorem d_Pic_reduced_0 : decode b_Pic_reduced 0 = .ok (.iload_n 1, 1) := by decide +kernel
theorem d_Pic_reduced_1 : decode b_Pic_reduced 1 = .ok (.ifCond .ge 12, 3) := by decide +kernel
theorem d_Pic_reduced_4 : decode b_Pic_reduced 4 = .ok (.iload_n 1, 1) := by decide +kernel
theorem d_Pic_reduced_5 : decode b_Pic_reduced 5 = .ok (.aload_n 0, 1) := by decide +kernel
theorem d_Pic_reduced_6 : decode b_Pic_reduced 6 = .ok (.getfield 29, 3) := by decide +kernel
theorem d_Pic_reduced_9 : decode b_Pic_reduced 9 = .ok (.iadd, 1) := by decide +kernel
theorem d_Pic_reduced_10 : decode b_Pic_reduced 10 = .ok (.goto 4, 3) := by decide +kernel
theorem d_Pic_reduced_13 : decode b_Pic_reduced 13 = .ok (.iload_n 1, 1) := by decide +kernel
theorem d_Pic_reduced_14 : decode b_Pic_reduced 14 = .ok (.istore_n 2, 1) := by decide +kernel
theorem d_Pic_reduced_15 : decode b_Pic_reduced 15 = .ok (.iload_n 2, 1) := by decide +kernel
theorem d_Pic_reduced_16 : decode b_Pic_reduced 16 = .ok (.aload_n 0, 1) := by decide +kernel
theorem d_Pic_reduced_17 : decode b_Pic_reduced 17 = .ok (.getfield 29, 3) := by decide +kernel
theorem d_Pic_reduced_20 : decode b_Pic_reduced 20 = .ok (.iconst 1, 1) := by decide +kernel
theorem d_Pic_reduced_21 : decode b_Pic_reduced 21 = .ok (.iadd, 1) := by decide +kernel
theorem d_Pic_reduced_22 : decode b_Pic_reduced 22 = .ok (.iconst 2, 1) := by decide +kernel
theorem d_Pic_reduced_23 : decode b_Pic_reduced 23 = .ok (.idiv, 1) := by decide +kernel
theorem d_Pic_reduced_24 : decode b_Pic_reduced 24 = .ok (.if_icmp .lt 12, 3) := by decide +kernel
theorem d_Pic_reduced_27 : decode b_Pic_reduced 27 = .ok (.iload_n 2, 1) := by decide +kernel
theorem d_Pic_reduced_28 : decode b_Pic_reduced 28 = .ok (.aload_n 0, 1) := by decide +kernel
theorem d_Pic_reduced_29 : decode b_Pic_reduced 29 = .ok (.getfield 29, 3) := by decide +kernel
theorem d_Pic_reduced_32 : decode b_Pic_reduced 32 = .ok (.isub, 1) := by decide +kernel
theorem d_Pic_reduced_33 : decode b_Pic_reduced 33 = .ok (.goto 4, 3) := by decide +kernel
theorem d_Pic_reduced_36 : decode b_Pic_reduced 36 = .ok (.iload_n 2, 1) := by decide +kernel
theorem d_Pic_reduced_37 : decode b_Pic_reduced 37 = .ok (.ireturn, 1) := by decide +kernel
theorem d_Pic_unreduced_0 : decode b_Pic_unreduced 0 = .ok (.iload_n 1, 1) := by decide +kernel
theorem d_Pic_unreduced_1 : decode b_Pic_unreduced 1 = .ok (.aload_n 0, 1) := by decide +kernel
theorem d_Pic_unreduced_2 : decode b_Pic_unreduced 2 = .ok (.getfield 23, 3) := by decide +kernel
theorem d_Pic_unreduced_5 : decode b_Pic_unreduced 5 = .ok (.ineg, 1) := by decide +kernel
theorem d_Pic_unreduced_6 : decode b_Pic_unreduced 6 = .ok (.if_icmp .ge 15, 3) := by decide +kernel
theorem d_Pic_unreduced_9 : decode b_Pic_unreduced 9 = .ok (.iload_n 1, 1) := by decide +kernel
theorem d_Pic_unreduced_10 : decode b_Pic_unreduced 10 = .ok (.aload_n 0, 1) := by decide +kernel
theorem d_Pic_unreduced_11 : decode b_Pic_unreduced 11 = .ok (.getfield 29, 3) := by decide +kernel
theorem d_Pic_unreduced_14 : decode b_Pic_unreduced 14 = .ok (.aload_n 0, 1) := by decide +kernel
theorem d_Pic_unreduced_15 : decode b_Pic_unreduced 15 = .ok (.getfield 26, 3) := by decide +kernel
theorem d_Pic_unreduced_18 : decode b_Pic_unreduced 18 = .ok (.imul, 1) := by decide +kernel
theorem d_Pic_unreduced_19 : decode b_Pic_unreduced 19 = .ok (.iadd, 1) := by decide +kernel
theorem d_Pic_unreduced_20 : decode b_Pic_unreduced 20 = .ok (.ireturn, 1) := by decide +kernel
theorem d_Pic_unreduced_21 : decode b_Pic_unreduced 21 = .ok (.iload_n 1, 1) := by decide +kernel
theorem d_Pic_unreduced_22 : decode b_Pic_unreduced 22 = .ok (.aload_n 0, 1) := by decide +kernel
theorem d_Pic_unreduced_23 : decode b_Pic_unreduced 23 = .ok (.getfield 20, 3) := by decide +kernel
theorem d_Pic_unreduced_26 : decode b_Pic_unreduced 26 = .ok (.aload_n 0, 1) := by decide +kernel
theorem d_Pic_unreduced_27 : decode b_Pic_unreduced 27 = .ok (.getfield 23, 3) := by decide +kernel
theorem d_Pic_unreduced_30 : decode b_Pic_unreduced 30 = .ok (.iadd, 1) := by decide +kernel
theorem d_Pic_unreduced_31 : decode b_Pic_unreduced 31 = .ok (.if_icmp .le 17, 3) := by decide +kernel
theorem d_Pic_unreduced_34 : decode b_Pic_unreduced 34 = .ok (.iload_n 1, 1) := by decide +kernel
theorem d_Pic_unreduced_35 : decode b_Pic_unreduced 35 = .ok (.aload_n 0, 1) := by decide +kernel
theorem d_Pic_unreduced_36 : decode b_Pic_unreduced 36 = .ok (.getfield 29, 3) := by decide +kernel
theorem d_Pic_unreduced_39 : decode b_Pic_unreduced 39 = .ok (.aload_n 0, 1) := by decide +kernel
theorem d_Pic_unreduced_40 : decode b_Pic_unreduced 40 = .ok (.getfield 26, 3) := by decide +kernel
theorem d_Pic_unreduced_43 : decode b_Pic_unreduced 43 = .ok (.imul, 1) := by decide +kernel
theorem d_Pic_unreduced_44 : decode b_Pic_unreduced 44 = .ok (.isub, 1) := by decide +kernel
theorem d_Pic_unreduced_45 : decode b_Pic_unreduced 45 = .ok (.goto 4, 3) := by decide +kernel
theorem d_Pic_unreduced_48 : decode b_Pic_unreduced 48 = .ok (.iload_n 1, 1) := by decide +kernel
theorem d_Pic_unreduced_49 : decode b_Pic_unreduced 49 = .ok (.ireturn, 1) := by decide +kernel
theorem d_Wri_endsWith255_0 : decode b_Wri_endsWith255 0 = .ok (.aload_n 0, 1) := by decide +kernel
theorem d_Wri_endsWith255_1 : decode b_Wri_endsWith255 1 = .ok (.getfield 13, 3) := by decide +kernel
theorem d_Wri_endsWith255_4 : decode b_Wri_endsWith255 4 = .ok (.ifCond .le 24, 3) := by decide +kernel
theorem d_Wri_endsWith255_7 : decode b_Wri_endsWith255 7 = .ok (.aload_n 0, 1) := by decide +kernel
theorem d_Wri_endsWith255_8 : decode b_Wri_endsWith255 8 = .ok (.getfield 9, 3) := by decide +kernel
theorem d_Wri_endsWith255_11 : decode b_Wri_endsWith255 11 = .ok (.aload_n 0, 1) := by decide +kernel
theorem d_Wri_endsWith255_12 : decode b_Wri_endsWith255 12 = .ok (.getfield 13, 3) := by decide +kernel
theorem d_Wri_endsWith255_15 : decode b_Wri_endsWith255 15 = .ok (.iconst 1, 1) := by decide +kernel
theorem d_Wri_endsWith255_16 : decode b_Wri_endsWith255 16 = .ok (.isub, 1) := by decide +kernel
theorem d_Wri_endsWith255_17 : decode b_Wri_endsWith255 17 = .ok (.iaload, 1) := by decide +kernel
theorem d_Wri_endsWith255_18 : decode b_Wri_endsWith255 18 = .ok (.sipush 255, 3) := by decide +kernel
theorem d_Wri_endsWith255_21 : decode b_Wri_endsWith255 21 = .ok (.if_icmp .ne 7, 3) := by decide +kernel
theorem d_Wri_endsWith255_24 : decode b_Wri_endsWith255 24 = .ok (.iconst 1, 1) := by decide +kernel
theorem d_Wri_endsWith255_25 : decode b_Wri_endsWith255 25 = .ok (.goto 4, 3) := by decide +kernel
theorem d_Wri_endsWith255_28 : decode b_Wri_endsWith255 28 = .ok (.iconst 0, 1) := by decide +kernel
theorem d_Wri_endsWith255_29 : decode b_Wri_endsWith255 29 = .ok (.ireturn, 1) := by decide +kernel
theorem d_Wri_restart_0 : decode b_Wri_restart 0 = .ok (.aload_n 0, 1) := by decide +kernel
theorem d_Wri_restart_1 : decode b_Wri_restart 1 = .ok (.iconst 0, 1) := by decide +kernel
theorem d_Wri_restart_2 : decode b_Wri_restart 2 = .ok (.putfield 13, 3) := by decide +kernel
theorem d_Wri_restart_5 : decode b_Wri_restart 5 = .ok (.aload_n 0, 1) := by decide +kernel
theorem d_Wri_restart_6 : decode b_Wri_restart 6 = .ok (.iconst 0, 1) := by decide +kernel
theorem d_Wri_restart_7 : decode b_Wri_restart 7 = .ok (.putfield 17, 3) := by decide +kernel
theorem d_Wri_restart_10 : decode b_Wri_restart 10 = .ok (.return_, 1) := by decide +kernel
theorem d_Wri_writeBits_0 : decode b_Wri_writeBits 0 = .ok (.iload_n 2, 1) := by decide +kernel
theorem d_Wri_writeBits_1 : decode b_Wri_writeBits 1 = .ok (.iconst 1, 1) := by decide +kernel
theorem d_Wri_writeBits_2 : decode b_Wri_writeBits 2 = .ok (.isub, 1) := by decide +kernel
theorem d_Wri_writeBits_3 : decode b_Wri_writeBits 3 = .ok (.istore_n 3, 1) := by decide +kernel
theorem d_Wri_writeBits_4 : decode b_Wri_writeBits 4 = .ok (.iload_n 3, 1) := by decide +kernel
theorem d_Wri_writeBits_5 : decode b_Wri_writeBits 5 = .ok (.ifCond .lt 73, 3) := by decide +kernel
theorem d_Wri_writeBits_8 : decode b_Wri_writeBits 8 = .ok (.aload_n 0, 1) := by decide +kernel
theorem d_Wri_writeBits_9 : decode b_Wri_writeBits 9 = .ok (.getfield 17, 3) := by decide +kernel
theorem d_Wri_writeBits_12 : decode b_Wri_writeBits 12 = .ok (.ifCond .ne 26, 3) := by decide +kernel
theorem d_Wri_writeBits_15 : decode b_Wri_writeBits 15 = .ok (.aload_n 0, 1) := by decide +kernel
theorem d_Wri_writeBits_16 : decode b_Wri_writeBits 16 = .ok (.aload_n 0, 1) := by decide +kernel
theorem d_Wri_writeBits_17 : decode b_Wri_writeBits 17 = .ok (.invokevirtual 20, 3) := by decide +kernel
theorem d_Wri_writeBits_20 : decode b_Wri_writeBits 20 = .ok (.ifCond .eq 8, 3) := by decide +kernel
theorem d_Wri_writeBits_23 : decode b_Wri_writeBits 23 = .ok (.bipush 7, 2) := by decide +kernel
theorem d_Wri_writeBits_25 : decode b_Wri_writeBits 25 = .ok (.goto 5, 3) := by decide +kernel
theorem d_Wri_writeBits_28 : decode b_Wri_writeBits 28 = .ok (.bipush 8, 2) := by decide +kernel
theorem d_Wri_writeBits_30 : decode b_Wri_writeBits 30 = .ok (.putfield 17, 3) := by decide +kernel
theorem d_Wri_writeBits_33 : decode b_Wri_writeBits 33 = .ok (.aload_n 0, 1) := by decide +kernel
theorem d_Wri_writeBits_34 : decode b_Wri_writeBits 34 = .ok (.iconst 0, 1) := by decide +kernel
theorem d_Wri_writeBits_35 : decode b_Wri_writeBits 35 = .ok (.invokevirtual 24, 3) := by decide +kernel
theorem d_Wri_writeBits_38 : decode b_Wri_writeBits 38 = .ok (.aload_n 0, 1) := by decide +kernel
theorem d_Wri_writeBits_39 : decode b_Wri_writeBits 39 = .ok (.dup, 1) := by decide +kernel
theorem d_Wri_writeBits_40 : decode b_Wri_writeBits 40 = .ok (.getfield 17, 3) := by decide +kernel
theorem d_Wri_writeBits_43 : decode b_Wri_writeBits 43 = .ok (.iconst 1, 1) := by decide +kernel
theorem d_Wri_writeBits_44 : decode b_Wri_writeBits 44 = .ok (.isub, 1) := by decide +kernel
theorem d_Wri_writeBits_45 : decode b_Wri_writeBits 45 = .ok (.putfield 17, 3) := by decide +kernel
theorem d_Wri_writeBits_48 : decode b_Wri_writeBits 48 = .ok (.aload_n 0, 1) := by decide +kernel
theorem d_Wri_writeBits_49 : decode b_Wri_writeBits 49 = .ok (.getfield 9, 3) := by decide +kernel
theorem d_Wri_writeBits_52 : decode b_Wri_writeBits 52 = .ok (.aload_n 0, 1) := by decide +kernel
theorem d_Wri_writeBits_53 : decode b_Wri_writeBits 53 = .ok (.getfield 13, 3) := by decide +kernel
theorem d_Wri_writeBits_56 : decode b_Wri_writeBits 56 = .ok (.iconst 1, 1) := by decide +kernel
theorem d_Wri_writeBits_57 : decode b_Wri_writeBits 57 = .ok (.isub, 1) := by decide +kernel
theorem d_Wri_writeBits_58 : decode b_Wri_writeBits 58 = .ok (.dup2, 1) := by decide +kernel
theorem d_Wri_writeBits_59 : decode b_Wri_writeBits 59 = .ok (.iaload, 1) := by decide +kernel
theorem d_Wri_writeBits_60 : decode b_Wri_writeBits 60 = .ok (.iload_n 1, 1) := by decide +kernel
theorem d_Wri_writeBits_61 : decode b_Wri_writeBits 61 = .ok (.iload_n 3, 1) := by decide +kernel
theorem d_Wri_writeBits_62 : decode b_Wri_writeBits 62 = .ok (.ishr, 1) := by decide +kernel
theorem d_Wri_writeBits_63 : decode b_Wri_writeBits 63 = .ok (.iconst 1, 1) := by decide +kernel
theorem d_Wri_writeBits_64 : decode b_Wri_writeBits 64 = .ok (.iand, 1) := by decide +kernel
theorem d_Wri_writeBits_65 : decode b_Wri_writeBits 65 = .ok (.aload_n 0, 1) := by decide +kernel
theorem d_Wri_writeBits_66 : decode b_Wri_writeBits 66 = .ok (.getfield 17, 3) := by decide +kernel
theorem d_Wri_writeBits_69 : decode b_Wri_writeBits 69 = .ok (.ishl, 1) := by decide +kernel
theorem d_Wri_writeBits_70 : decode b_Wri_writeBits 70 = .ok (.ior, 1) := by decide +kernel
theorem d_Wri_writeBits_71 : decode b_Wri_writeBits 71 = .ok (.iastore, 1) := by decide +kernel
theorem d_Wri_writeBits_72 : decode b_Wri_writeBits 72 = .ok (.iinc 3 (-1), 3) := by decide +kernel
theorem d_Wri_writeBits_75 : decode b_Wri_writeBits 75 = .ok (.goto (-71), 3) := by decide +kernel
theorem d_Wri_writeBits_78 : decode b_Wri_writeBits 78 = .ok (.return_, 1) := by decide +kernel
theorem d_Wri_writeByte_0 : decode b_Wri_writeByte 0 = .ok (.aload_n 0, 1) := by decide +kernel
theorem d_Wri_writeByte_1 : decode b_Wri_writeByte 1 = .ok (.getfield 13, 3) := by decide +kernel
theorem d_Wri_writeByte_4 : decode b_Wri_writeByte 4 = .ok (.sipush 512, 3) := by decide +kernel
theorem d_Wri_writeByte_7 : decode b_Wri_writeByte 7 = .ok (.if_icmp .ge 23, 3) := by decide +kernel
theorem d_Wri_writeByte_10 : decode b_Wri_writeByte 10 = .ok (.aload_n 0, 1) := by decide +kernel
theorem d_Wri_writeByte_11 : decode b_Wri_writeByte 11 = .ok (.getfield 9, 3) := by decide +kernel
theorem d_Wri_writeByte_14 : decode b_Wri_writeByte 14 = .ok (.aload_n 0, 1) := by decide +kernel
theorem d_Wri_writeByte_15 : decode b_Wri_writeByte 15 = .ok (.getfield 13, 3) := by decide +kernel
theorem d_Wri_writeByte_18 : decode b_Wri_writeByte 18 = .ok (.iload_n 1, 1) := by decide +kernel
theorem d_Wri_writeByte_19 : decode b_Wri_writeByte 19 = .ok (.iastore, 1) := by decide +kernel
theorem d_Wri_writeByte_20 : decode b_Wri_writeByte 20 = .ok (.aload_n 0, 1) := by decide +kernel
theorem d_Wri_writeByte_21 : decode b_Wri_writeByte 21 = .ok (.dup, 1) := by decide +kernel
theorem d_Wri_writeByte_22 : decode b_Wri_writeByte 22 = .ok (.getfield 13, 3) := by decide +kernel
theorem d_Wri_writeByte_25 : decode b_Wri_writeByte 25 = .ok (.iconst 1, 1) := by decide +kernel
theorem d_Wri_writeByte_26 : decode b_Wri_writeByte 26 = .ok (.iadd, 1) := by decide +kernel
theorem d_Wri_writeByte_27 : decode b_Wri_writeByte 27 = .ok (.putfield 13, 3) := by decide +kernel
theorem d_Wri_writeByte_30 : decode b_Wri_writeByte 30 = .ok (.return_, 1) := by decide +kernel
theorem d_Wri_writeEnd_0 : decode b_Wri_writeEnd 0 = .ok (.aload_n 0, 1) := by decide +kernel
theorem d_Wri_writeEnd_1 : decode b_Wri_writeEnd 1 = .ok (.invokevirtual 20, 3) := by decide +kernel
theorem d_Wri_writeEnd_4 : decode b_Wri_writeEnd 4 = .ok (.ifCond .eq 8, 3) := by decide +kernel
theorem d_Wri_writeEnd_7 : decode b_Wri_writeEnd 7 = .ok (.aload_n 0, 1) := by decide +kernel
theorem d_Wri_writeEnd_8 : decode b_Wri_writeEnd 8 = .ok (.iconst 0, 1) := by decide +kernel
theorem d_Wri_writeEnd_9 : decode b_Wri_writeEnd 9 = .ok (.invokevirtual 24, 3) := by decide +kernel
theorem d_Wri_writeEnd_12 : decode b_Wri_writeEnd 12 = .ok (.aload_n 0, 1) := by decide +kernel
theorem d_Wri_writeEnd_13 : decode b_Wri_writeEnd 13 = .ok (.sipush 255, 3) := by decide +kernel
theorem d_Wri_writeEnd_16 : decode b_Wri_writeEnd 16 = .ok (.invokevirtual 24, 3) := by decide +kernel
theorem d_Wri_writeEnd_19 : decode b_Wri_writeEnd 19 = .ok (.aload_n 0, 1) := by decide +kernel
theorem d_Wri_writeEnd_20 : decode b_Wri_writeEnd 20 = .ok (.sipush 217, 3) := by decide +kernel
theorem d_Wri_writeEnd_23 : decode b_Wri_writeEnd 23 = .ok (.invokevirtual 24, 3) := by decide +kernel
theorem d_Wri_writeEnd_26 : decode b_Wri_writeEnd 26 = .ok (.return_, 1) := by decide +kernel
theorem d_Wri_writeNumber_0 : decode b_Wri_writeNumber 0 = .ok (.iload_n 3, 1) := by decide +kernel
theorem d_Wri_writeNumber_1 : decode b_Wri_writeNumber 1 = .ok (.iload 4, 2) := by decide +kernel
theorem d_Wri_writeNumber_3 : decode b_Wri_writeNumber 3 = .ok (.isub, 1) := by decide +kernel
theorem d_Wri_writeNumber_4 : decode b_Wri_writeNumber 4 = .ok (.iconst 1, 1) := by decide +kernel
theorem d_Wri_writeNumber_5 : decode b_Wri_writeNumber 5 = .ok (.isub, 1) := by decide +kernel
theorem d_Wri_writeNumber_6 : decode b_Wri_writeNumber 6 = .ok (.istore 5, 2) := by decide +kernel
theorem d_Wri_writeNumber_8 : decode b_Wri_writeNumber 8 = .ok (.iload_n 1, 1) := by decide +kernel
theorem d_Wri_writeNumber_9 : decode b_Wri_writeNumber 9 = .ok (.iload_n 2, 1) := by decide +kernel
theorem d_Wri_writeNumber_10 : decode b_Wri_writeNumber 10 = .ok (.ishr, 1) := by decide +kernel
theorem d_Wri_writeNumber_11 : decode b_Wri_writeNumber 11 = .ok (.iload 5, 2) := by decide +kernel
theorem d_Wri_writeNumber_13 : decode b_Wri_writeNumber 13 = .ok (.if_icmp .ge 22, 3) := by decide +kernel
theorem d_Wri_writeNumber_16 : decode b_Wri_writeNumber 16 = .ok (.aload_n 0, 1) := by decide +kernel
theorem d_Wri_writeNumber_17 : decode b_Wri_writeNumber 17 = .ok (.iconst 1, 1) := by decide +kernel
theorem d_Wri_writeNumber_18 : decode b_Wri_writeNumber 18 = .ok (.iload_n 1, 1) := by decide +kernel
theorem d_Wri_writeNumber_19 : decode b_Wri_writeNumber 19 = .ok (.iload_n 2, 1) := by decide +kernel
theorem d_Wri_writeNumber_20 : decode b_Wri_writeNumber 20 = .ok (.ishr, 1) := by decide +kernel
theorem d_Wri_writeNumber_21 : decode b_Wri_writeNumber 21 = .ok (.iconst 1, 1) := by decide +kernel
theorem d_Wri_writeNumber_22 : decode b_Wri_writeNumber 22 = .ok (.iadd, 1) := by decide +kernel
theorem d_Wri_writeNumber_23 : decode b_Wri_writeNumber 23 = .ok (.invokevirtual 28, 3) := by decide +kernel
theorem d_Wri_writeNumber_26 : decode b_Wri_writeNumber 26 = .ok (.aload_n 0, 1) := by decide +kernel
theorem d_Wri_writeNumber_27 : decode b_Wri_writeNumber 27 = .ok (.iload_n 1, 1) := by decide +kernel
theorem d_Wri_writeNumber_28 : decode b_Wri_writeNumber 28 = .ok (.iload_n 2, 1) := by decide +kernel
theorem d_Wri_writeNumber_29 : decode b_Wri_writeNumber 29 = .ok (.invokevirtual 28, 3) := by decide +kernel
theorem d_Wri_writeNumber_32 : decode b_Wri_writeNumber 32 = .ok (.goto 21, 3) := by decide +kernel
theorem d_Wri_writeNumber_35 : decode b_Wri_writeNumber 35 = .ok (.aload_n 0, 1) := by decide +kernel
theorem d_Wri_writeNumber_36 : decode b_Wri_writeNumber 36 = .ok (.iconst 1, 1) := by decide +kernel
theorem d_Wri_writeNumber_37 : decode b_Wri_writeNumber 37 = .ok (.iload 5, 2) := by decide +kernel
theorem d_Wri_writeNumber_39 : decode b_Wri_writeNumber 39 = .ok (.iconst 1, 1) := by decide +kernel
theorem d_Wri_writeNumber_40 : decode b_Wri_writeNumber 40 = .ok (.iadd, 1) := by decide +kernel
theorem d_Wri_writeNumber_41 : decode b_Wri_writeNumber 41 = .ok (.invokevirtual 28, 3) := by decide +kernel
theorem d_Wri_writeNumber_44 : decode b_Wri_writeNumber 44 = .ok (.aload_n 0, 1) := by decide +kernel
theorem d_Wri_writeNumber_45 : decode b_Wri_writeNumber 45 = .ok (.iload_n 1, 1) := by decide +kernel
theorem d_Wri_writeNumber_46 : decode b_Wri_writeNumber 46 = .ok (.iconst 1, 1) := by decide +kernel
theorem d_Wri_writeNumber_47 : decode b_Wri_writeNumber 47 = .ok (.isub, 1) := by decide +kernel
theorem d_Wri_writeNumber_48 : decode b_Wri_writeNumber 48 = .ok (.iload 4, 2) := by decide +kernel
theorem d_Wri_writeNumber_50 : decode b_Wri_writeNumber 50 = .ok (.invokevirtual 28, 3) := by decide +kernel
theorem d_Wri_writeNumber_53 : decode b_Wri_writeNumber 53 = .ok (.return_, 1) := by decide +kernel
